/-! SignHouse$Hunt: small divisors, the rounds -/
def prl (k : Nat) : Nat := [3, 5, 7, 11, 13, 17, 19, 23, 29, 31, 37, 41, 43, 47, 53, 59, 61, 67, 71, 73, 79, 83, 89, 97, 101, 103, 107, 109, 113, 127, 131, 137, 139, 149, 151, 157, 163, 167, 173, 179, 181, 191, 193, 197, 199, 211, 223, 227, 229, 233, 239, 241, 251].getD k 0
def sPr : Nat → Int32 := fun k => nI (prl k)
def bse (k : Nat) : Nat := [2, 3, 5, 7, 11, 13, 17, 19].getD k 0
def sBs : Nat → Int32 := fun k => nI (bse k)
theorem prl_in : ∀ k, k < 53 → 0 < prl k ∧ prl k < 2147483648 := by decide +kernel
theorem bse_in : ∀ k, k < 8 → 2 ≤ bse k ∧ bse k < 20 := by decide +kernel
/-- no odd prime below 256 divides it -/
def ND (C : Nat) : Prop := ∀ i, i < 53 → C % prl i ≠ 0
theorem ord0 {u v : Nat} : (if u < v then (-1 : Int32) else if v < u then 1 else 0) = 0 ↔ u = v := by
  constructor
  · intro h
    by_cases h1 : u < v
    · rw [if_pos h1] at h
      exact absurd h (by decide)
    · rw [if_neg h1] at h
      by_cases h2 : v < u
      · rw [if_pos h2] at h
        exact absurd h (by decide)
      · omega
  · rintro rfl
    rw [if_neg (Nat.lt_irrefl u), if_neg (Nat.lt_irrefl u)]
theorem one0 {v : Nat} : (if v = 1 then (1 : Int32) else 0) = 0 ↔ v ≠ 1 := by
  by_cases h : v = 1
  · rw [if_pos h]
    constructor
    · intro h2
      exact absurd h2 (by decide)
    · intro h2
      exact absurd h h2
  · rw [if_neg h]
    exact ⟨fun _ => h, fun _ => rfl⟩
set_option maxRecDepth 100000 in
set_option maxHeartbeats 4000000 in
theorem c_hasSmallDivisor {g : ab_G} {N half rounds bg pf ex un W C : Nat} {w : ab_W} (h13 : w 13 = huO half rounds bg pf ex un) (h22 : w 22 = aN W C) (hW : W ≤ 20) (hC : C < 4294967296 ^ W) (hx2 : w 2 = xI 53 sPr) : ab_Ct MX1_hasSmallDivisor g [.ref 13] N w (fun r N' w' => ∃ b, b < 2 ∧ (b = 1 ↔ ¬ ND C) ∧ r = some (.int (nI b)) ∧ N = N' ∧ w = w') := by
  have K : ∀ k i, i + k = 53 → (∀ j, j < i → C % prl j ≠ 0) → ab_St MX1_hasSmallDivisor g 0 0 9 [(3, .int (nI i)), (2, .int (nI 53)), (1, .ref 2), (0, .ref 13)] [] N w (fun r N' w' => ∃ b, b < 2 ∧ (b = 1 ↔ ¬ ND C) ∧ r = some (.int (nI b)) ∧ N = N' ∧ w = w') := by
    intro k
    induction k with
    | zero =>
      intro i hi hno
      obtain rfl : i = 53 := by omega
      refine r_iload_n dX1_hasSmallDivisor_9 rfl ?_
      refine r_iload_n dX1_hasSmallDivisor_10 rfl ?_
      first | refine r_icmp_geN (tgt := 41) dX1_hasSmallDivisor_11 (by decide) (by omega) (by omega) (fun h11 => ?_) (fun h11 => ?_) | refine r_icmp_ge (tgt := 41) dX1_hasSmallDivisor_11 (by decide) (fun h11 => ?_) (fun h11 => ?_)
      · refine r_iconst (v := nI 0) dX1_hasSmallDivisor_41 (by decide) ?_
        refine r_ret (r := (some (.int _))) dX1_hasSmallDivisor_42 (by decide) (by decide) ?_
        exact ⟨0, by decide, by constructor; · intro h; cases h
                                · intro h; exact absurd hno h, rfl, rfl, rfl⟩
      · omega
    | succ k ih =>
      intro i hi hno
      obtain ⟨p1, p2⟩ := prl_in i (by omega)
      have hm : C % prl i < prl i := Nat.mod_lt _ p1
      refine r_iload_n dX1_hasSmallDivisor_9 rfl ?_
      refine r_iload_n dX1_hasSmallDivisor_10 rfl ?_
      first | refine r_icmp_geN (tgt := 41) dX1_hasSmallDivisor_11 (by decide) (by omega) (by omega) (fun h11 => ?_) (fun h11 => ?_) | refine r_icmp_ge (tgt := 41) dX1_hasSmallDivisor_11 (by decide) (fun h11 => ?_) (fun h11 => ?_)
      · omega
      · refine r_aload_n dX1_hasSmallDivisor_14 rfl ?_
        refine r_iload_n dX1_hasSmallDivisor_15 rfl ?_
        refine r_iaload' dX1_hasSmallDivisor_16 (by repeat first | exact wu_eq | assumption | (apply wu_ne; first | omega | assumption | (apply Ne.symm; assumption))) (by rfl) _ rfl (by omega) (by omega) ?_
        rw [show sPr i = nI (prl i) from rfl]
        refine r_istore (i := 4) (L0 := [(3, _), (2, _), (1, _), (0, _)]) dX1_hasSmallDivisor_17 (by decide) rfl ?_
        refine r_aload_n dX1_hasSmallDivisor_19 rfl ?_
        refine r_getf dX1_hasSmallDivisor_20 fX1_35 (by repeat first | exact wu_eq | assumption | (apply wu_ne; first | omega | assumption | (apply Ne.symm; assumption))) (by rfl) ?_
        refine r_iload dX1_hasSmallDivisor_23 rfl ?_
        refine r_invS dX1_hasSmallDivisor_25 kX1_97 (c_remainder (n := W) (u := C) (d := prl i) h22 (by omega) hC p1 p2) rfl rfl ⟨by decide, by decide⟩ (Nat.le_of_ble_eq_true rfl) ⟨by decide, by decide⟩ ⟨rfl, rfl⟩ ?_
        rintro _ _ _ ⟨rfl, rfl, rfl⟩
        refine r_lconst (v := lN 0) dX1_hasSmallDivisor_28 (by decide) ?_
        first | refine r_lcmp_neN (tgt := 35) dX1_hasSmallDivisor_29 dX1_hasSmallDivisor_30 (by decide) (by omega) (by omega) (fun h29 => ?_) (fun h29 => ?_) | refine r_lcmp_ne (tgt := 35) dX1_hasSmallDivisor_29 dX1_hasSmallDivisor_30 (by decide) (fun h29 => ?_) (fun h29 => ?_)
        · refine r_iinc (L0 := [(4, _), (2, _), (1, _), (0, _)]) dX1_hasSmallDivisor_35 rfl (by first | exact iinc1 _ | rfl) (by decide) rfl ?_
          refine r_goto (tgt := 9) dX1_hasSmallDivisor_38 (by decide) ?_
          refine r_sub [0, 2, 3, 4] rfl ?_
          refine ih (i + 1) (by omega) fun j hj => ?_
          by_cases h : j = i
          · rw [h]
            exact h29
          · exact hno j (by omega)
        · refine r_iconst (v := nI 1) dX1_hasSmallDivisor_33 (by decide) ?_
          refine r_ret (r := (some (.int _))) dX1_hasSmallDivisor_34 (by decide) (by decide) ?_
          exact ⟨1, by decide, by constructor; · intro _ h; exact h i (by omega) h29
                                  · intro _; rfl, rfl, rfl, rfl⟩
  refine ab_Ct.of (by decide +kernel) (Nat.le_of_ble_eq_true rfl) (by rintro _ _ _ ⟨b, hb, -, rfl, -, -⟩; exact nI_zk hb) ?_
  show ab_St MX1_hasSmallDivisor g 0 0 0 [(0, .ref 13)] [] _ _ _
  refine r_gets dX1_hasSmallDivisor_0 (by decide) sX1_93 ?_
  refine r_astore_n (i := 1) (L0 := [(0, _)]) dX1_hasSmallDivisor_3 rfl (by decide) rfl ?_
  refine r_aload_n dX1_hasSmallDivisor_4 rfl ?_
  refine r_alen' dX1_hasSmallDivisor_5 (by repeat first | exact wu_eq | assumption | (apply wu_ne; first | omega | assumption | (apply Ne.symm; assumption))) (by rfl) ?_
  refine r_istore_n (i := 2) (L0 := [(1, _), (0, _)]) dX1_hasSmallDivisor_6 rfl (by decide) rfl ?_
  refine r_iconst (v := nI 0) dX1_hasSmallDivisor_7 (by decide) ?_
  refine r_istore_n (i := 3) (L0 := [(2, _), (1, _), (0, _)]) dX1_hasSmallDivisor_8 rfl (by decide) rfl ?_
  exact K 53 0 (by omega) (fun j hj => by omega)
/-- squares, one after another -/
def sq (C x : Nat) : Nat → Nat
  | 0 => x
  | j + 1 => sq C x j * sq C x j % C
theorem sq_lt {C x : Nat} (hx : x < C) : ∀ j, sq C x j < C
  | 0 => hx
  | _ + 1 => Nat.mod_lt _ (by omega)
/-- a passes: by the odd part m and so many halvings -/
def MRB (C k m a : Nat) : Prop := a ^ m % C = 1 ∨ a ^ m % C = C - 1 ∨ ∃ j, 1 ≤ j ∧ j < k ∧ sq C (a ^ m % C) j = C - 1
set_option maxRecDepth 100000 in
set_option maxHeartbeats 4000000 in
theorem c_passes {g : ab_G} {N half rounds bg pf ex un W C k m a rs : Nat} {w : ab_W} (h13 : w 13 = huO half rounds bg pf ex un) (hM : MOK w 14 W C) (h23 : w 23 = aN W (C - 1)) (h24 : w 24 = aN W m) (h25 : w 25 = aN W rs) (hrs : rs < 4294967296 ^ W) (hm : m < 4294967296 ^ W) (hW1 : 1 ≤ W) (hW : W ≤ 20) (ha : a < C) (ha2 : a < 2147483648) (hk : k < 32000) (hCW : C < 4294967296 ^ W) : ab_Ct MX1_passes g [.ref 13, .int (nI a), .int (nI k)] N w (fun r N' w' => ∃ b rs', b < 2 ∧ (b = 1 ↔ MRB C k m a) ∧ MOK w' 14 W C ∧ w' 25 = aN W rs' ∧ rs' < 4294967296 ^ W ∧ (∀ j, j ≠ 25 → (j < 14 ∨ 21 < j) → w' j = w j) ∧ r = some (.int (nI b)) ∧ N = N') := by
  have hC0 : 0 < C := by omega
  have hlt : ∀ x, x < C → x < 4294967296 ^ W := fun x h => by omega
  have hpW : 0 < 4294967296 ^ W := Nat.pow_pos (by decide)
  have K : ∀ n j w2, j + n = k + 1 → a ^ m % C ≠ 1 → (∀ i, i ≤ j → sq C (a ^ m % C) i ≠ C - 1) → MOK w2 14 W C → w2 25 = aN W (sq C (a ^ m % C) j) → (∀ j, j ≠ 25 → (j < 14 ∨ 21 < j) → w2 j = w j) → ab_St MX1_passes g 0 0 56 [(3, .int (nI (j + 1))), (0, .ref 13), (1, .int (nI a)), (2, .int (nI k))] [] N w2 (fun r N' w' => ∃ b rs', b < 2 ∧ (b = 1 ↔ MRB C k m a) ∧ MOK w' 14 W C ∧ w' 25 = aN W rs' ∧ rs' < 4294967296 ^ W ∧ (∀ j, j ≠ 25 → (j < 14 ∨ 21 < j) → w' j = w j) ∧ r = some (.int (nI b)) ∧ N = N') := by
    intro n
    induction n with
    | zero =>
      intro j w2 hj h1 hno d25 e25 hfr
      refine r_iload_n dX1_passes_56 rfl ?_
      refine r_iload_n dX1_passes_57 rfl ?_
      first | refine r_icmp_geN (tgt := 102) dX1_passes_58 (by decide) (by omega) (by omega) (fun h58 => ?_) (fun h58 => ?_) | refine r_icmp_ge (tgt := 102) dX1_passes_58 (by decide) (fun h58 => ?_) (fun h58 => ?_)
      · refine r_iconst (v := nI 0) dX1_passes_102 (by decide) ?_
        refine r_ret (r := (some (.int _))) dX1_passes_103 (by decide) (by decide) ?_
        refine ⟨0, _, by decide, ?_, d25, e25, hlt _ (sq_lt (Nat.mod_lt _ hC0) j), hfr, rfl, rfl⟩
        constructor
        · intro h
          cases h
        · rintro (h | h | ⟨i, -, h3, h4⟩)
          · exact absurd h h1
          · exact absurd h (hno 0 (by omega))
          · exact absurd h4 (hno i (by omega))
      · omega
    | succ n ih =>
      intro j w2 hj h1 hno d25 e25 hfr
      have hsq := sq_lt (x := a ^ m % C) (Nat.mod_lt _ hC0) j
      have hsq1 := sq_lt (x := a ^ m % C) (Nat.mod_lt _ hC0) (j + 1)
      have e13 := (hfr 13 (by omega) (by omega)).trans h13
      have e14 := d25
      obtain ⟨_, _, _, _, e14', -⟩ := d25
      refine r_iload_n dX1_passes_56 rfl ?_
      refine r_iload_n dX1_passes_57 rfl ?_
      first | refine r_icmp_geN (tgt := 102) dX1_passes_58 (by decide) (by omega) (by omega) (fun h58 => ?_) (fun h58 => ?_) | refine r_icmp_ge (tgt := 102) dX1_passes_58 (by decide) (fun h58 => ?_) (fun h58 => ?_)
      · refine r_iconst (v := nI 0) dX1_passes_102 (by decide) ?_
        refine r_ret (r := (some (.int _))) dX1_passes_103 (by decide) (by decide) ?_
        refine ⟨0, _, by decide, ?_, e14, e25, hlt _ hsq, hfr, rfl, rfl⟩
        constructor
        · intro h
          cases h
        · rintro (h | h | ⟨i, -, h3, h4⟩)
          · exact absurd h h1
          · exact absurd h (hno 0 (by omega))
          · exact absurd h4 (hno i (by omega))
      · refine r_aload_n dX1_passes_61 rfl ?_
        refine r_getf dX1_passes_62 fX1_31 (by repeat first | exact wu_eq | assumption | (apply wu_ne; first | omega | assumption | (apply Ne.symm; assumption))) (by rfl) ?_
        refine r_aload_n dX1_passes_65 rfl ?_
        refine r_getf dX1_passes_66 fX1_45 (by repeat first | exact wu_eq | assumption | (apply wu_ne; first | omega | assumption | (apply Ne.symm; assumption))) (by rfl) ?_
        refine r_aload_n dX1_passes_69 rfl ?_
        refine r_getf dX1_passes_70 fX1_45 (by repeat first | exact wu_eq | assumption | (apply wu_ne; first | omega | assumption | (apply Ne.symm; assumption))) (by rfl) ?_
        refine r_aload_n dX1_passes_73 rfl ?_
        refine r_getf dX1_passes_74 fX1_45 (by repeat first | exact wu_eq | assumption | (apply wu_ne; first | omega | assumption | (apply Ne.symm; assumption))) (by rfl) ?_
        refine r_invV dX1_passes_77 kX1_138 (c_times (W := W) (c := C) (t := 25) (a := 25) (b := 25) (u := sq C (a ^ m % C) j) (x := sq C (a ^ m % C) j) (y := sq C (a ^ m % C) j) e14 e25 (hlt _ hsq) e25 hsq e25 (hlt _ hsq) (by omega) (by omega) (by omega)) rfl rfl (by repeat first | exact wu_eq | assumption | (apply wu_ne; first | omega | assumption | (apply Ne.symm; assumption))) rfl rfl ⟨by decide, by decide⟩ (Nat.le_of_ble_eq_true rfl) ⟨by decide, by decide⟩ ⟨rfl, rfl⟩ ?_
        rintro _ _ w3 ⟨d3, e3, hf3, rfl, rfl⟩
        have f13 := (hf3 13 (by omega) (by omega)).trans e13
        have f23 := ((hf3 23 (by omega) (by omega)).trans (hfr 23 (by omega) (by omega))).trans h23
        have hfr3 : ∀ j, j ≠ 25 → (j < 14 ∨ 21 < j) → w3 j = w j := fun j h1 h2 => (hf3 j h1 (by omega)).trans (hfr j h1 h2)
        refine r_aload_n dX1_passes_80 rfl ?_
        refine r_getf dX1_passes_81 fX1_45 (by repeat first | exact wu_eq | assumption | (apply wu_ne; first | omega | assumption | (apply Ne.symm; assumption))) (by rfl) ?_
        refine r_aload_n dX1_passes_84 rfl ?_
        refine r_getf dX1_passes_85 fX1_39 (by repeat first | exact wu_eq | assumption | (apply wu_ne; first | omega | assumption | (apply Ne.symm; assumption))) (by rfl) ?_
        refine r_invS dX1_passes_88 kX1_104 (c_order (n := W) (u := sq C (a ^ m % C) (j + 1)) (v := C - 1) e3 f23 (by omega) (hlt _ hsq1) (by omega)) rfl rfl ⟨by decide, by decide⟩ (Nat.le_of_ble_eq_true rfl) ⟨by decide, by decide⟩ ⟨rfl, rfl⟩ ?_
        rintro _ _ _ ⟨rfl, rfl, rfl⟩
        refine r_if_ne (tgt := 96) dX1_passes_91 (by decide) (fun h91 => ?_) (fun h91 => ?_)
        · refine r_iinc (L0 := [(0, _), (1, _), (2, _)]) dX1_passes_96 rfl (by first | exact iinc1 _ | rfl) (by decide) rfl ?_
          refine r_goto (tgt := 56) dX1_passes_99 (by decide) ?_
          refine ih (j + 1) w3 (by omega) h1 ?_ d3 e3 hfr3
          intro i hi
          by_cases h : i = j + 1
          · rw [h]
            exact fun e => h91 (ord0.mpr e)
          · exact hno i (by omega)
        · refine r_iconst (v := nI 1) dX1_passes_94 (by decide) ?_
          refine r_ret (r := (some (.int _))) dX1_passes_95 (by decide) (by decide) ?_
          exact ⟨1, _, by decide, by constructor; · intro _; exact Or.inr (Or.inr ⟨j + 1, by omega, by omega, ord0.mp h91⟩)
                                     · intro _; rfl, d3, e3, hlt _ hsq1, hfr3, rfl, rfl⟩
  refine ab_Ct.of (by decide +kernel) (Nat.le_of_ble_eq_true rfl) (by rintro _ _ _ ⟨b, _, hb, -, -, -, -, -, rfl, -⟩; exact nI_zk hb) ?_
  show ab_St MX1_passes g 0 0 0 [(0, .ref 13), (1, .int (nI a)), (2, .int (nI k))] [] _ _ _
  refine r_aload_n dX1_passes_0 rfl ?_
  refine r_getf dX1_passes_1 fX1_45 (by repeat first | exact wu_eq | assumption | (apply wu_ne; first | omega | assumption | (apply Ne.symm; assumption))) (by rfl) ?_
  refine r_iload_n dX1_passes_4 rfl ?_
  first | refine r_i2lN dX1_passes_5 (by omega) ?_ | refine r_i2l dX1_passes_5 ?_
  refine r_invS dX1_passes_6 kX1_127 (c_putSmall (n := W) (u := rs) (v := a) h25 hW1 (by omega) hrs) rfl rfl ⟨by decide, by decide⟩ (Nat.le_of_ble_eq_true rfl) ⟨by decide, by decide⟩ ⟨rfl, rfl⟩ ?_
  rintro _ _ _ ⟨rfl, rfl, rfl⟩
  have hM1 : MOK (wu w 25 (aN W (a % 4294967296))) 14 W C := hM.keep fun j h1 h2 => wu_ne (by omega) rfl
  obtain ⟨_, _, _, _, e14, -⟩ := id hM1
  rw [Nat.mod_eq_of_lt (show a < 4294967296 by omega)] at hM1 e14 ⊢
  refine r_aload_n dX1_passes_9 rfl ?_
  refine r_getf dX1_passes_10 fX1_31 (by repeat first | exact wu_eq | assumption | (apply wu_ne; first | omega | assumption | (apply Ne.symm; assumption))) (by rfl) ?_
  refine r_aload_n dX1_passes_13 rfl ?_
  refine r_getf dX1_passes_14 fX1_45 (by repeat first | exact wu_eq | assumption | (apply wu_ne; first | omega | assumption | (apply Ne.symm; assumption))) (by rfl) ?_
  refine r_aload_n dX1_passes_17 rfl ?_
  refine r_getf dX1_passes_18 fX1_45 (by repeat first | exact wu_eq | assumption | (apply wu_ne; first | omega | assumption | (apply Ne.symm; assumption))) (by rfl) ?_
  refine r_aload_n dX1_passes_21 rfl ?_
  refine r_getf dX1_passes_22 fX1_42 (by repeat first | exact wu_eq | assumption | (apply wu_ne; first | omega | assumption | (apply Ne.symm; assumption))) (by rfl) ?_
  refine r_invV dX1_passes_25 kX1_130 (c_raise (W := W) (c := C) (t := 25) (a := 25) (e := 24) (n := W) (u := a) (x := a) (ev := m) hM1 wu_eq (by omega) wu_eq ha (wu_ne (by omega) h24) (Or.inl rfl) (by omega) (by omega) hm (by omega) (by omega) (by omega)) rfl rfl (by repeat first | exact wu_eq | assumption | (apply wu_ne; first | omega | assumption | (apply Ne.symm; assumption))) rfl rfl ⟨by decide, by decide⟩ (Nat.le_of_ble_eq_true rfl) ⟨by decide, by decide⟩ ⟨rfl, rfl⟩ ?_
  rintro _ _ w3 ⟨d3, e3, hf3, rfl, rfl⟩
  have hx1 : a ^ m % C < C := Nat.mod_lt _ hC0
  have hfr3 : ∀ j, j ≠ 25 → (j < 14 ∨ 21 < j) → w3 j = w j := fun j h1 h2 => (hf3 j h1 (by omega)).trans (wu_ne h1 rfl)
  have f13 := (hfr3 13 (by omega) (by omega)).trans h13
  have f23 := (hfr3 23 (by omega) (by omega)).trans h23
  refine r_aload_n dX1_passes_28 rfl ?_
  refine r_getf dX1_passes_29 fX1_45 (by repeat first | exact wu_eq | assumption | (apply wu_ne; first | omega | assumption | (apply Ne.symm; assumption))) (by rfl) ?_
  refine r_invS dX1_passes_32 kX1_134 (c_isOne (n := W) (v := a ^ m % C) e3 (by omega) hW1 (hlt _ hx1)) rfl rfl ⟨by decide, by decide⟩ (Nat.le_of_ble_eq_true rfl) ⟨by decide, by decide⟩ ⟨rfl, rfl⟩ ?_
  rintro _ _ _ ⟨rfl, rfl, rfl⟩
  refine r_if_ne (tgt := 52) dX1_passes_35 (by decide) (fun h35 => ?_) (fun h35 => ?_)
  · refine r_iconst (v := nI 1) dX1_passes_52 (by decide) ?_
    refine r_ret (r := (some (.int _))) dX1_passes_53 (by decide) (by decide) ?_
    have h35' : a ^ m % C = 1 := Classical.not_not.mp fun h => h35 (one0.mpr h)
    exact ⟨1, _, by decide, by constructor; · intro _; exact Or.inl h35'
                               · intro _; rfl, d3, e3, hlt _ hx1, hfr3, rfl, rfl⟩
  · refine r_aload_n dX1_passes_38 rfl ?_
    refine r_getf dX1_passes_39 fX1_45 (by repeat first | exact wu_eq | assumption | (apply wu_ne; first | omega | assumption | (apply Ne.symm; assumption))) (by rfl) ?_
    refine r_aload_n dX1_passes_42 rfl ?_
    refine r_getf dX1_passes_43 fX1_39 (by repeat first | exact wu_eq | assumption | (apply wu_ne; first | omega | assumption | (apply Ne.symm; assumption))) (by rfl) ?_
    refine r_invS dX1_passes_46 kX1_104 (c_order (n := W) (u := a ^ m % C) (v := C - 1) e3 f23 (by omega) (hlt _ hx1) (by omega)) rfl rfl ⟨by decide, by decide⟩ (Nat.le_of_ble_eq_true rfl) ⟨by decide, by decide⟩ ⟨rfl, rfl⟩ ?_
    rintro _ _ _ ⟨rfl, rfl, rfl⟩
    refine r_if_ne (tgt := 54) dX1_passes_49 (by decide) (fun h49 => ?_) (fun h49 => ?_)
    · refine r_iconst (v := nI 1) dX1_passes_54 (by decide) ?_
      refine r_istore_n (i := 3) (L0 := [(0, _), (1, _), (2, _)]) dX1_passes_55 rfl (by decide) rfl ?_
      refine r_sub [0, 1, 2, 3] rfl ?_
      refine K (k + 1) 0 w3 (by omega) (one0.mp h35) ?_ d3 e3 hfr3
      intro i hi
      obtain rfl : i = 0 := by omega
      exact fun e => h49 (ord0.mpr e)
    · refine r_iconst (v := nI 1) dX1_passes_52 (by decide) ?_
      refine r_ret (r := (some (.int _))) dX1_passes_53 (by decide) (by decide) ?_
      exact ⟨1, _, by decide, by constructor; · intro _; exact Or.inr (Or.inl (ord0.mp h49))
                                 · intro _; rfl, d3, e3, hlt _ hx1, hfr3, rfl, rfl⟩
