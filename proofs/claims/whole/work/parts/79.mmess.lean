/-! SignHouseModel: the hash, the encoded message, set, get, encode -/
set_option maxRecDepth 100000 in
set_option maxHeartbeats 4000000 in
theorem c_hashesMessage {g : ab_G} {N half rounds bu c bg ik hp ex un db da sg vf len : Nat} {ω d : Nat → Nat} {w : ab_W} (h : w 74 = mdO half rounds bu c bg ik hp ex un db da sg vf len) (hB : MB w) (hE : ME w c ω d) (hl : len ≤ 300) : ab_Ct MX8_hashesMessage g [.ref 74] N w (fun r N' w' => w' 74 = mdO half rounds len c bg ik hp ex un db da sg vf len ∧ w' 77 = aI 8 (sha d len) ∧ MB w' ∧ (∀ k, k ≠ 74 → (k < 76 ∨ 78 < k) → w' k = w k) ∧ r = none ∧ N = N') := by
  obtain ⟨dbuf, st, f, b1, b2, b3, b4, b5⟩ := hB
  obtain ⟨⟨so, e1, e2⟩, e3, e4, e5, e6, e7, e8⟩ := hE
  have hbI : ∀ i, bI (fl i d dbuf) = fl i (bI d) (bI dbuf) := fun i => by
    funext k
    unfold bI fl
    split <;> rfl
  have K : ∀ z i w1, i + z = len → w1 74 = mdO half rounds len c bg ik hp ex un db da sg vf len → w1 76 = aI 300 (fl i (bI d) (bI dbuf)) → (∀ k, k ≠ 74 → k ≠ 76 → w1 k = w k) → ab_St MX8_hashesMessage g 0 0 10 [(1, .int (nI i)), (0, .ref 74)] [] N w1 (fun r N' w' => w' 74 = mdO half rounds len c bg ik hp ex un db da sg vf len ∧ w' 77 = aI 8 (sha d len) ∧ MB w' ∧ (∀ k, k ≠ 74 → (k < 76 ∨ 78 < k) → w' k = w k) ∧ r = none ∧ N = N') := by
    intro z
    induction z with
    | zero =>
      intro i w1 hi f74 f76 fr
      obtain rfl : i = len := by omega
      rw [← hbI] at f76
      have g77 := (fr 77 (by decide) (by decide)).trans b3
      have g78 := (fr 78 (by decide) (by decide)).trans b5
      have g79 := (fr 79 (by decide) (by decide)).trans e3
      have g80 := (fr 80 (by decide) (by decide)).trans e4
      have hd2 : ∀ k, fl i d dbuf k < 256 := fun k => by
        unfold fl
        split
        · exact e6 k
        · exact b2 k
      have hsha : sha (fl i d dbuf) i = sha d i := sha_cong fun k hk => fl_lo hk
      refine r_iload_n dX8_hashesMessage_10 rfl ?_
      refine r_aload_n dX8_hashesMessage_11 rfl ?_
      refine r_getf dX8_hashesMessage_12 fX8_271 (by repeat first | exact wu_eq | assumption | (apply wu_ne; first | omega | assumption | (apply Ne.symm; assumption))) (by rfl) ?_
      first | refine r_icmp_geN (tgt := 36) dX8_hashesMessage_15 (by decide) (by omega) (by omega) (fun h15 => ?_) (fun h15 => ?_) | refine r_icmp_ge (tgt := 36) dX8_hashesMessage_15 (by decide) (fun h15 => ?_) (fun h15 => ?_)
      · refine r_aload_n dX8_hashesMessage_36 rfl ?_
        refine r_invV dX8_hashesMessage_37 kX8_182 (c_hashes (n := i) f74 f76 g77 g78 g79 g80 b4 hd2 hl) rfl rfl (by repeat first | exact wu_eq | assumption | (apply wu_ne; first | omega | assumption | (apply Ne.symm; assumption))) rfl rfl ⟨by decide, by decide⟩ (Nat.le_of_ble_eq_true rfl) ⟨by decide, by decide⟩ ⟨rfl, rfl⟩ ?_
        rintro _ _ _ ⟨f', rfl, rfl, rfl⟩
        rw [hsha]
        refine r_ret (r := none) dX8_hashesMessage_40 (by decide) (by decide) ?_
        exact ⟨wu_ne (by decide) (wu_ne (by decide) f74), wu_eq, ⟨_, _, _, wu_ne (by decide) (wu_ne (by decide) f76), hd2, wu_eq, sha_0 _ _, wu_ne (by decide) wu_eq⟩, fun k a b => (wu_ne (by omega) (wu_ne (by omega) rfl)).trans (fr k a (by omega)), rfl, rfl⟩
      · omega
    | succ z ih =>
      intro i w1 hi f74 f76 fr
      have g82 := (fr 82 (by decide) (by decide)).trans e5
      refine r_iload_n dX8_hashesMessage_10 rfl ?_
      refine r_aload_n dX8_hashesMessage_11 rfl ?_
      refine r_getf dX8_hashesMessage_12 fX8_271 (by repeat first | exact wu_eq | assumption | (apply wu_ne; first | omega | assumption | (apply Ne.symm; assumption))) (by rfl) ?_
      first | refine r_icmp_geN (tgt := 36) dX8_hashesMessage_15 (by decide) (by omega) (by omega) (fun h15 => ?_) (fun h15 => ?_) | refine r_icmp_ge (tgt := 36) dX8_hashesMessage_15 (by decide) (fun h15 => ?_) (fun h15 => ?_)
      · omega
      · refine r_aload_n dX8_hashesMessage_18 rfl ?_
        refine r_getf dX8_hashesMessage_19 fX8_13 (by repeat first | exact wu_eq | assumption | (apply wu_ne; first | omega | assumption | (apply Ne.symm; assumption))) (by rfl) ?_
        refine r_iload_n dX8_hashesMessage_22 rfl ?_
        refine r_aload_n dX8_hashesMessage_23 rfl ?_
        refine r_getf dX8_hashesMessage_24 fX8_103 (by repeat first | exact wu_eq | assumption | (apply wu_ne; first | omega | assumption | (apply Ne.symm; assumption))) (by rfl) ?_
        refine r_iload_n dX8_hashesMessage_27 rfl ?_
        refine r_iaload' dX8_hashesMessage_28 (by repeat first | exact wu_eq | assumption | (apply wu_ne; first | omega | assumption | (apply Ne.symm; assumption))) (by rfl) _ rfl (by omega) (by omega) ?_
        refine r_iastore dX8_hashesMessage_29 (by repeat first | exact wu_eq | assumption | (apply wu_ne; first | omega | assumption | (apply Ne.symm; assumption))) _ rfl (by omega) (by omega) ?_
        refine r_iinc (L0 := [(0, _)]) dX8_hashesMessage_30 rfl (by first | exact iinc1 _ | rfl) (by decide) rfl ?_
        refine r_goto (tgt := 10) dX8_hashesMessage_33 (by decide) ?_
        rw [fl_up]
        exact ih (i + 1) _ (by omega) (wu_ne (by decide) f74) wu_eq fun k a b => (wu_ne b rfl).trans (fr k a b)
  refine ab_Ct.of (by decide +kernel) (Nat.le_of_ble_eq_true rfl) (by rintro _ _ _ ⟨-, -, -, -, rfl, -⟩; trivial) ?_
  show ab_St MX8_hashesMessage g 0 0 0 [(0, .ref 74)] [] _ _ _
  refine r_aload_n dX8_hashesMessage_0 rfl ?_
  refine r_aload_n dX8_hashesMessage_1 rfl ?_
  refine r_getf dX8_hashesMessage_2 fX8_271 (by repeat first | exact wu_eq | assumption | (apply wu_ne; first | omega | assumption | (apply Ne.symm; assumption))) (by rfl) ?_
  refine r_putf dX8_hashesMessage_5 fX8_156 (by repeat first | exact wu_eq | assumption | (apply wu_ne; first | omega | assumption | (apply Ne.symm; assumption))) rfl (by exact Nat.le_of_ble_eq_true rfl) (by rfl) (by rfl) ?_
  refine r_iconst (v := nI 0) dX8_hashesMessage_8 (by decide) ?_
  refine r_istore_n (i := 1) (L0 := [(0, _)]) dX8_hashesMessage_9 rfl (by decide) rfl ?_
  refine K len 0 _ (by omega) wu_eq ?_ fun k a b => wu_ne a rfl
  rw [fl_0]
  exact wu_ne (by decide) b1
theorem i32_back {a b c : Nat} (h : b ≤ a + c) : nI a - nI b + nI c = nI (a + c - b) := by
  rw [← pk_sub h, ← nI_add, Int32.sub_eq_add_neg, Int32.sub_eq_add_neg, Int32.add_assoc, Int32.add_assoc, Int32.add_comm (-nI b)]
/-- a world whose hash is being made anew -/
def MHX (w : ab_W) (half rounds c : Nat) (ω : Nat → Nat) (bg : Nat) (σ : hT) (d : Nat → Nat) (len sg vf bu : Nat) : Prop := w 74 = mdO half rounds bu c bg (mk1 (hF σ)) (mkp (hF σ)) (hX σ) (hU σ) (hP σ / 32) (hP σ % 32) sg vf len
set_option maxRecDepth 100000 in
set_option maxHeartbeats 4000000 in
theorem c_encodes {g : ab_G} {N half rounds bu c bg ik hp ex un db da sg vf len : Nat} {ω d v : Nat → Nat} {w : ab_W} (h : w 74 = mdO half rounds bu c bg ik hp ex un db da sg vf len) (hx : w 75 = xA v) (hB : MB w) (hE : ME w c ω d) (hl : len ≤ 300) (h31 : 31 ≤ half) (h40 : half ≤ 40) : ab_Ct MX8_encodes g [.ref 74] N w (fun r N' w' => w' 74 = mdO half rounds len c bg ik hp ex un db da sg vf len ∧ w' 75 = xA (us v 18 (emn d len half (2 * half))) ∧ MB w' ∧ (∀ k, k ≠ 74 → k ≠ 75 → (k < 76 ∨ 78 < k) → w' k = w k) ∧ r = none ∧ N = N') := by
  obtain ⟨⟨so, e1, e2⟩, e3, e4, e5, e6, e7, e8⟩ := id hE
  have K : ∀ k i w1, i + k = 2 * half → w1 74 = mdO half rounds len c bg ik hp ex un db da sg vf len → w1 75 = xA (us v 18 (emn d len half i * 256 ^ k + 0 % 256 ^ k)) → w1 77 = aI 8 (sha d len) → MB w1 → (∀ k, k ≠ 74 → k ≠ 75 → (k < 76 ∨ 78 < k) → w1 k = w k) → ab_St MX8_encodes g 0 0 19 [(2, .int (nI i)), (1, .int (nI (2 * half))), (0, .ref 74)] [] N w1 (fun r N' w' => w' 74 = mdO half rounds len c bg ik hp ex un db da sg vf len ∧ w' 75 = xA (us v 18 (emn d len half (2 * half))) ∧ MB w' ∧ (∀ k, k ≠ 74 → k ≠ 75 → (k < 76 ∨ 78 < k) → w' k = w k) ∧ r = none ∧ N = N') := by
    intro k
    induction k with
    | zero =>
      intro i w1 hi f74 f75 f77 fB fr
      obtain rfl : i = 2 * half := by omega
      rw [Nat.pow_zero, Nat.mul_one, Nat.mod_one, Nat.add_zero] at f75
      refine r_iload_n dX8_encodes_19 rfl ?_
      refine r_iload_n dX8_encodes_20 rfl ?_
      first | refine r_icmp_geN (tgt := 103) dX8_encodes_21 (by decide) (by omega) (by omega) (fun h21 => ?_) (fun h21 => ?_) | refine r_icmp_ge (tgt := 103) dX8_encodes_21 (by decide) (fun h21 => ?_) (fun h21 => ?_)
      · refine r_ret (r := none) dX8_encodes_103 (by decide) (by decide) ?_
        exact ⟨f74, f75, fB, fr, rfl, rfl⟩
      · omega
    | succ k ih =>
      intro i w1 hi f74 f75 f77 fB fr
      have f83 := (fr 83 (by decide) (by decide) (by decide)).trans e7
      have hel := enb_lt d len half i
      have K87 : ∀ x, x = enb d len half i → ab_St MX8_encodes g 0 0 87 [(2, .int (nI i)), (1, .int (nI (2 * half))), (0, .ref 74)] [.int (nI x)] N w1 (fun r N' w' => w' 74 = mdO half rounds len c bg ik hp ex un db da sg vf len ∧ w' 75 = xA (us v 18 (emn d len half (2 * half))) ∧ MB w' ∧ (∀ k, k ≠ 74 → k ≠ 75 → (k < 76 ∨ 78 < k) → w' k = w k) ∧ r = none ∧ N = N') := by
        intro x hxx
        subst hxx
        have e := emn_ud (emn d len half i) 0 (enb d len half i) k
        refine r_istore_n (i := 3) (L0 := [(2, _), (1, _), (0, _)]) dX8_encodes_87 rfl (by decide) rfl ?_
        refine r_aload_n dX8_encodes_88 rfl ?_
        refine r_bipush (v := nI 18) dX8_encodes_89 (by decide) ?_
        refine r_iload_n dX8_encodes_91 rfl ?_
        refine r_iload_n dX8_encodes_92 rfl ?_
        refine r_iload_n dX8_encodes_93 rfl ?_
        refine r_invV dX8_encodes_94 kX8_244 (c_byteTo (s := 18) (z := 2 * half) (i := i) (b := enb d len half i) (v := us v 18 (emn d len half i * 256 ^ (k + 1) + 0 % 256 ^ (k + 1))) f74 f75 (by decide) (by omega) (by omega) hel) rfl rfl (by repeat first | exact wu_eq | assumption | (apply wu_ne; first | omega | assumption | (apply Ne.symm; assumption))) rfl rfl ⟨by decide, by decide⟩ (Nat.le_of_ble_eq_true rfl) ⟨by decide, by decide⟩ ⟨rfl, rfl⟩ ?_
        rintro _ _ _ ⟨rfl, rfl, rfl⟩
        rw [us_eq, us_us, show 2 * half - 1 - i = k by omega, e]
        refine r_iinc (L0 := [(3, _), (1, _), (0, _)]) dX8_encodes_97 rfl (by first | exact iinc1 _ | rfl) (by decide) rfl ?_
        refine r_goto (tgt := 19) dX8_encodes_100 (by decide) ?_
        refine r_sub [0, 2, 3] rfl ?_
        exact ih (i + 1) _ (by omega) (wu_ne (by decide) f74) wu_eq (wu_ne (by decide) f77) (fB.keep fun k a b => wu_ne (by omega) rfl) fun k a b q => (wu_ne b rfl).trans (fr k a b q)
      clear ih
      refine r_iload_n dX8_encodes_19 rfl ?_
      refine r_iload_n dX8_encodes_20 rfl ?_
      first | refine r_icmp_geN (tgt := 103) dX8_encodes_21 (by decide) (by omega) (by omega) (fun h21 => ?_) (fun h21 => ?_) | refine r_icmp_ge (tgt := 103) dX8_encodes_21 (by decide) (fun h21 => ?_) (fun h21 => ?_)
      · omega
      · refine r_iload_n dX8_encodes_24 rfl ?_
        first | refine r_if_neN (tgt := 32) dX8_encodes_25 (by decide) (by omega) (fun h25 => ?_) (fun h25 => ?_) | refine r_if_ne (tgt := 32) dX8_encodes_25 (by decide) (fun h25 => ?_) (fun h25 => ?_)
        · refine r_iload_n dX8_encodes_32 rfl ?_
          refine r_iconst (v := nI 1) dX8_encodes_33 (by decide) ?_
          first | refine r_icmp_neN (tgt := 41) dX8_encodes_34 (by decide) (by omega) (by omega) (fun h34 => ?_) (fun h34 => ?_) | refine r_icmp_ne (tgt := 41) dX8_encodes_34 (by decide) (fun h34 => ?_) (fun h34 => ?_)
          · refine r_iload_n dX8_encodes_41 rfl ?_
            refine r_iload_n dX8_encodes_42 rfl ?_
            refine r_bipush (v := nI 52) dX8_encodes_43 (by decide) ?_
            first | refine r_isubN dX8_encodes_45 (by omega) ?_ | refine r_isub dX8_encodes_45 ?_
            first | refine r_icmp_geN (tgt := 55) dX8_encodes_46 (by decide) (by omega) (by omega) (fun h46 => ?_) (fun h46 => ?_) | refine r_icmp_ge (tgt := 55) dX8_encodes_46 (by decide) (fun h46 => ?_) (fun h46 => ?_)
            · refine r_iload_n dX8_encodes_55 rfl ?_
              refine r_iload_n dX8_encodes_56 rfl ?_
              refine r_bipush (v := nI 32) dX8_encodes_57 (by decide) ?_
              first | refine r_isubN dX8_encodes_59 (by omega) ?_ | refine r_isub dX8_encodes_59 ?_
              first | refine r_icmp_geN (tgt := 77) dX8_encodes_60 (by decide) (by omega) (by omega) (fun h60 => ?_) (fun h60 => ?_) | refine r_icmp_ge (tgt := 77) dX8_encodes_60 (by decide) (fun h60 => ?_) (fun h60 => ?_)
              · refine r_aload_n dX8_encodes_77 rfl ?_
                refine r_iload_n dX8_encodes_78 rfl ?_
                refine r_iload_n dX8_encodes_79 rfl ?_
                refine r_isub dX8_encodes_80 ?_
                refine r_bipush (v := nI 32) dX8_encodes_81 (by decide) ?_
                refine r_iadd dX8_encodes_83 ?_
                rw [i32_back (by omega)]
                refine r_invV dX8_encodes_84 kX8_188 (c_mhashByte (q := i + 32 - 2 * half) (st := sha d len) (n := len) f74 f77 (by omega)) rfl rfl (by repeat first | exact wu_eq | assumption | (apply wu_ne; first | omega | assumption | (apply Ne.symm; assumption))) rfl rfl ⟨by decide, by decide⟩ (Nat.le_of_ble_eq_true rfl) ⟨by decide, by decide⟩ ⟨rfl, rfl⟩ ?_
                rintro _ _ _ ⟨rfl, rfl, rfl⟩
                refine K87 _ ?_
                unfold enb
                rw [if_pos (by omega), show i - (2 * half - 32) = i + 32 - 2 * half by omega]
              · refine r_aload_n dX8_encodes_63 rfl ?_
                refine r_getf dX8_encodes_64 fX8_106 (by repeat first | exact wu_eq | assumption | (apply wu_ne; first | omega | assumption | (apply Ne.symm; assumption))) (by rfl) ?_
                refine r_iload_n dX8_encodes_67 rfl ?_
                refine r_iload_n dX8_encodes_68 rfl ?_
                refine r_isub dX8_encodes_69 ?_
                refine r_bipush (v := nI 52) dX8_encodes_70 (by decide) ?_
                refine r_iadd dX8_encodes_72 ?_
                rw [i32_back (by omega)]
                refine r_iaload' dX8_encodes_73 (by repeat first | exact wu_eq | assumption | (apply wu_ne; first | omega | assumption | (apply Ne.symm; assumption))) (by rfl) _ rfl (by omega) (by omega) ?_
                refine r_toI (y := nI (if i + 52 - 2 * half = 0 then 0 else HNM (i + 52 - 2 * half - 1))) rfl ?_
                refine r_goto (tgt := 87) dX8_encodes_74 (by decide) ?_
                refine K87 _ ?_
                unfold enb
                by_cases q : i + 52 - 2 * half = 0
                · rw [if_pos q, if_neg (by omega), if_neg (by omega), if_neg (by omega), if_pos (by omega)]
                · rw [if_neg q, if_neg (by omega), if_pos (by omega), show i - (2 * half - 51) = i + 52 - 2 * half - 1 by omega]
            · refine r_sipush (v := nI 255) dX8_encodes_49 (by decide) ?_
              refine r_goto (tgt := 87) dX8_encodes_52 (by decide) ?_
              refine K87 _ ?_
              unfold enb
              rw [if_neg (by omega), if_neg (by omega), if_neg (by omega), if_neg (by omega), if_neg (by omega)]
          · refine r_iconst (v := nI 1) dX8_encodes_37 (by decide) ?_
            refine r_goto (tgt := 87) dX8_encodes_38 (by decide) ?_
            refine K87 _ ?_
            unfold enb
            rw [if_neg (by omega), if_neg (by omega), if_neg (by omega), if_neg (by omega), if_pos (by omega)]
        · refine r_iconst (v := nI 0) dX8_encodes_28 (by decide) ?_
          refine r_goto (tgt := 87) dX8_encodes_29 (by decide) ?_
          refine K87 _ ?_
          unfold enb
          rw [if_neg (by omega), if_neg (by omega), if_pos (by omega)]
  refine ab_Ct.of (by decide +kernel) (Nat.le_of_ble_eq_true rfl) (by rintro _ _ _ ⟨-, -, -, -, rfl, -⟩; trivial) ?_
  show ab_St MX8_encodes g 0 0 0 [(0, .ref 74)] [] _ _ _
  refine r_iconst (v := nI 2) dX8_encodes_0 (by decide) ?_
  refine r_aload_n dX8_encodes_1 rfl ?_
  refine r_getf dX8_encodes_2 fX8_109 (by repeat first | exact wu_eq | assumption | (apply wu_ne; first | omega | assumption | (apply Ne.symm; assumption))) (by rfl) ?_
  first | refine r_imulN dX8_encodes_5 ?_ | refine r_imul dX8_encodes_5 ?_
  refine r_istore_n (i := 1) (L0 := [(0, _)]) dX8_encodes_6 rfl (by decide) rfl ?_
  refine r_aload_n dX8_encodes_7 rfl ?_
  refine r_invV dX8_encodes_8 kX8_280 (c_hashesMessage h hB hE hl) rfl rfl (by repeat first | exact wu_eq | assumption | (apply wu_ne; first | omega | assumption | (apply Ne.symm; assumption))) rfl rfl ⟨by decide, by decide⟩ (Nat.le_of_ble_eq_true rfl) ⟨by decide, by decide⟩ ⟨rfl, rfl⟩ ?_
  rintro _ _ w1 ⟨f74, f77, fB, fr, rfl, rfl⟩
  have f75 := (fr 75 (by decide) (by decide)).trans hx
  refine r_aload_n dX8_encodes_11 rfl ?_
  refine r_bipush (v := nI 18) dX8_encodes_12 (by decide) ?_
  refine r_invV dX8_encodes_14 kX8_116 (c_clear (s := 18) (v := v) f74 f75 (by decide)) rfl rfl (by repeat first | exact wu_eq | assumption | (apply wu_ne; first | omega | assumption | (apply Ne.symm; assumption))) rfl rfl ⟨by decide, by decide⟩ (Nat.le_of_ble_eq_true rfl) ⟨by decide, by decide⟩ ⟨rfl, rfl⟩ ?_
  rintro _ _ _ ⟨rfl, rfl, rfl⟩
  refine r_iconst (v := nI 0) dX8_encodes_17 (by decide) ?_
  refine r_istore_n (i := 2) (L0 := [(1, _), (0, _)]) dX8_encodes_18 rfl (by decide) rfl ?_
  refine K (2 * half) 0 _ (by omega) (wu_ne (by decide) f74) ?_ (wu_ne (by decide) f77) (fB.keep fun k a b => wu_ne (by omega) rfl) fun k a b q => (wu_ne b rfl).trans (fr k a q)
  rw [show emn d len half 0 = 0 from rfl, Nat.zero_mul, Nat.zero_add, Nat.zero_mod]
  exact wu_eq
/-- the model's world, its rows made anew -/
theorem MH.re {w w' : ab_W} {half rounds c : Nat} {ω : Nat → Nat} {bg : Nat} {σ : hT} {d : Nat → Nat} {len R sg vf bu' R' sg' vf' : Nat} {v' : Nat → Nat} (h : MH w half rounds c ω bg σ d len R sg vf) (h74 : w' 74 = mdO half rounds bu' c bg (mk1 (hF σ)) (mkp (hF σ)) (hX σ) (hU σ) (hP σ / 32) (hP σ % 32) sg' vf' len) (h75 : w' 75 = xA v') (hB : MB w') (hk : ∀ k, 79 ≤ k → k ≤ 83 → w' k = w k) (h7 : v' 7 = R') (hv : ∀ v, w 75 = xA v → (hF σ = 1 → v 2 = hA σ) → (hF σ = 2 → ∀ k, k < 7 → v k = kvp (kP σ) (kQ σ) k) → (hF σ = 1 → v' 2 = hA σ) ∧ (hF σ = 2 → ∀ k, k < 7 → v' k = kvp (kP σ) (kQ σ) k)) : MH w' half rounds c ω bg σ d len R' sg' vf' := by
  obtain ⟨bu, v, m1, m2, m3, m4, m5, m6, m7, m8, m9, m10, m11⟩ := h
  obtain ⟨q1, q2⟩ := hv v m2 m6 m7
  exact ⟨bu', v', h74, h75, hB, m4.keep hk, h7, q1, q2, m8, m9, m10, m11⟩
set_option maxRecDepth 100000 in
set_option maxHeartbeats 4000000 in
theorem c_mhash_neg {g : ab_G} {N : Nat} {fs : List Value} {x : Int32} {w : ab_W} (h : w 74 = mdX fs) (hx : x < 0) : ab_Ct MX8_hash g [.ref 74, .int x] N w (rp (some (.int (-2))) N w) := by
  refine ab_Ct.of (by decide +kernel) (Nat.le_of_ble_eq_true rfl) (by rintro _ _ _ ⟨rfl, rfl, rfl⟩; trivial) ?_
  show ab_St MX8_hash g 0 0 0 [(0, .ref 74), (1, .int x)] [] _ _ _
  refine r_iload_n dX8_hash_0 rfl ?_
  refine r_iconst (v := nI 0) dX8_hash_1 (by decide) ?_
  refine r_bipush (v := nI 31) dX8_hash_2 (by decide) ?_
  refine r_invS dX8_hash_4 kX8_257 (c_in_neg (lo := 0) hx (by decide)) rfl rfl ⟨by decide, by decide⟩ (Nat.le_of_ble_eq_true rfl) ⟨by decide, by decide⟩ ⟨rfl, rfl⟩ ?_
  rintro _ _ _ ⟨rfl, rfl, rfl⟩
  first | refine r_if_neN (tgt := 13) dX8_hash_7 (by decide) (by omega) (fun h7 => ?_) (fun h7 => ?_) | refine r_if_ne (tgt := 13) dX8_hash_7 (by decide) (fun h7 => ?_) (fun h7 => ?_)
  · omega
  · refine r_bipush (v := (-2)) dX8_hash_10 (by decide) ?_
    refine r_ret (r := (some (.int _))) dX8_hash_12 (by decide) (by decide) ?_
    exact ⟨rfl, rfl, rfl⟩
set_option maxRecDepth 100000 in
set_option maxHeartbeats 4000000 in
theorem c_mhash_bad {g : ab_G} {N m : Nat} {fs : List Value} {w : ab_W} (h : w 74 = mdX fs) (hm : m < 2147483648) (hb : 32 ≤ m) : ab_Ct MX8_hash g [.ref 74, .int (nI m)] N w (rp (some (.int (-2))) N w) := by
  refine ab_Ct.of (by decide +kernel) (Nat.le_of_ble_eq_true rfl) (by rintro _ _ _ ⟨rfl, rfl, rfl⟩; trivial) ?_
  show ab_St MX8_hash g 0 0 0 [(0, .ref 74), (1, .int (nI m))] [] _ _ _
  refine r_iload_n dX8_hash_0 rfl ?_
  refine r_iconst (v := nI 0) dX8_hash_1 (by decide) ?_
  refine r_bipush (v := nI 31) dX8_hash_2 (by decide) ?_
  refine r_invS dX8_hash_4 kX8_257 (c_in (a := m) (lo := 0) (hi := 31) hm (by decide) (by decide)) rfl rfl ⟨by decide, by decide⟩ (Nat.le_of_ble_eq_true rfl) ⟨by decide, by decide⟩ ⟨rfl, rfl⟩ ?_
  rintro _ _ _ ⟨rfl, rfl, rfl⟩
  rw [if_neg (by omega)]
  first | refine r_if_neN (tgt := 13) dX8_hash_7 (by decide) (by omega) (fun h7 => ?_) (fun h7 => ?_) | refine r_if_ne (tgt := 13) dX8_hash_7 (by decide) (fun h7 => ?_) (fun h7 => ?_)
  · omega
  · refine r_bipush (v := (-2)) dX8_hash_10 (by decide) ?_
    refine r_ret (r := (some (.int _))) dX8_hash_12 (by decide) (by decide) ?_
    exact ⟨rfl, rfl, rfl⟩
set_option maxRecDepth 100000 in
set_option maxHeartbeats 4000000 in
theorem c_mhash {g : ab_G} {N m : Nat} {half rounds c bg : Nat} {ω d : Nat → Nat} {σ : hT} {len R sg vf : Nat} {w : ab_W} (h : MH w half rounds c ω bg σ d len R sg vf) (hb : m < 32) : ab_Ct MX8_hash g [.ref 74, .int (nI m)] N w (fun r N' w' => MH w' half rounds c ω bg σ d len R sg vf ∧ (∀ k, k < 74 → w' k = w k) ∧ r = some (.int (nI (hby (sha d len) m))) ∧ N = N') := by
  obtain ⟨bu, v, m1, m2, m3, m4, m5, m6, m7, m8, m9, m10, m11⟩ := id h
  refine ab_Ct.of (by decide +kernel) (Nat.le_of_ble_eq_true rfl) (by rintro _ _ _ ⟨-, -, rfl, -⟩; trivial) ?_
  show ab_St MX8_hash g 0 0 0 [(0, .ref 74), (1, .int (nI m))] [] _ _ _
  refine r_iload_n dX8_hash_0 rfl ?_
  refine r_iconst (v := nI 0) dX8_hash_1 (by decide) ?_
  refine r_bipush (v := nI 31) dX8_hash_2 (by decide) ?_
  refine r_invS dX8_hash_4 kX8_257 (c_in (a := m) (lo := 0) (hi := 31) (by omega) (by decide) (by decide)) rfl rfl ⟨by decide, by decide⟩ (Nat.le_of_ble_eq_true rfl) ⟨by decide, by decide⟩ ⟨rfl, rfl⟩ ?_
  rintro _ _ _ ⟨rfl, rfl, rfl⟩
  rw [if_pos (by omega)]
  first | refine r_if_neN (tgt := 13) dX8_hash_7 (by decide) (by omega) (fun h7 => ?_) (fun h7 => ?_) | refine r_if_ne (tgt := 13) dX8_hash_7 (by decide) (fun h7 => ?_) (fun h7 => ?_)
  · refine r_aload_n dX8_hash_13 rfl ?_
    refine r_invV dX8_hash_14 kX8_280 (c_hashesMessage m1 m3 m4 m8) rfl rfl (by repeat first | exact wu_eq | assumption | (apply wu_ne; first | omega | assumption | (apply Ne.symm; assumption))) rfl rfl ⟨by decide, by decide⟩ (Nat.le_of_ble_eq_true rfl) ⟨by decide, by decide⟩ ⟨rfl, rfl⟩ ?_
    rintro _ _ w1 ⟨f74, f77, fB, fr, rfl, rfl⟩
    refine r_aload_n dX8_hash_17 rfl ?_
    refine r_iload_n dX8_hash_18 rfl ?_
    refine r_invV dX8_hash_19 kX8_188 (c_mhashByte (q := m) (st := sha d len) (n := len) f74 f77 hb) rfl rfl (by repeat first | exact wu_eq | assumption | (apply wu_ne; first | omega | assumption | (apply Ne.symm; assumption))) rfl rfl ⟨by decide, by decide⟩ (Nat.le_of_ble_eq_true rfl) ⟨by decide, by decide⟩ ⟨rfl, rfl⟩ ?_
    rintro _ _ _ ⟨rfl, rfl, rfl⟩
    refine r_ret (r := (some (.int _))) dX8_hash_22 (by decide) (by decide) ?_
    exact ⟨⟨len, v, f74, (fr 75 (by decide) (by decide)).trans m2, fB, m4.keep fun k a b => fr k (by omega) (by omega), m5, m6, m7, m8, m9, m10, m11⟩, fun k a => fr k (by omega) (by omega), rfl, rfl⟩
  · omega
set_option maxRecDepth 100000 in
set_option maxHeartbeats 4000000 in
theorem c_mencoded_neg {g : ab_G} {N : Nat} {x : Int32} {half rounds c bg : Nat} {ω d : Nat → Nat} {σ : hT} {len R sg vf : Nat} {w : ab_W} (h : MH w half rounds c ω bg σ d len R sg vf) (hx : x < 0) : ab_Ct MX8_encoded g [.ref 74, .int x] N w (rp (some (.int (-2))) N w) := by
  obtain ⟨bu, v, m1, m2, m3, m4, m5, m6, m7, m8, m9, m10, m11⟩ := id h
  refine ab_Ct.of (by decide +kernel) (Nat.le_of_ble_eq_true rfl) (by rintro _ _ _ ⟨rfl, rfl, rfl⟩; trivial) ?_
  show ab_St MX8_encoded g 0 0 0 [(0, .ref 74), (1, .int x)] [] _ _ _
  refine r_iload_n dX8_encoded_0 rfl ?_
  refine r_iconst (v := nI 0) dX8_encoded_1 (by decide) ?_
  refine r_iconst (v := nI 2) dX8_encoded_2 (by decide) ?_
  refine r_aload_n dX8_encoded_3 rfl ?_
  refine r_getf dX8_encoded_4 fX8_109 (by repeat first | exact wu_eq | assumption | (apply wu_ne; first | omega | assumption | (apply Ne.symm; assumption))) (by rfl) ?_
  first | refine r_imulN dX8_encoded_7 ?_ | refine r_imul dX8_encoded_7 ?_
  refine r_iconst (v := nI 1) dX8_encoded_8 (by decide) ?_
  first | refine r_isubN dX8_encoded_9 (by omega) ?_ | refine r_isub dX8_encoded_9 ?_
  refine r_invS dX8_encoded_10 kX8_257 (c_in_neg (lo := 0) hx (by decide)) rfl rfl ⟨by decide, by decide⟩ (Nat.le_of_ble_eq_true rfl) ⟨by decide, by decide⟩ ⟨rfl, rfl⟩ ?_
  rintro _ _ _ ⟨rfl, rfl, rfl⟩
  first | refine r_if_neN (tgt := 19) dX8_encoded_13 (by decide) (by omega) (fun h13 => ?_) (fun h13 => ?_) | refine r_if_ne (tgt := 19) dX8_encoded_13 (by decide) (fun h13 => ?_) (fun h13 => ?_)
  · omega
  · refine r_bipush (v := (-2)) dX8_encoded_16 (by decide) ?_
    refine r_ret (r := (some (.int _))) dX8_encoded_18 (by decide) (by decide) ?_
    exact ⟨rfl, rfl, rfl⟩
set_option maxRecDepth 100000 in
set_option maxHeartbeats 4000000 in
theorem c_mencoded_bad {g : ab_G} {N m : Nat} {half rounds c bg : Nat} {ω d : Nat → Nat} {σ : hT} {len R sg vf : Nat} {w : ab_W} (h : MH w half rounds c ω bg σ d len R sg vf) (hm : m < 2147483648) (hb : 2 * half ≤ m) : ab_Ct MX8_encoded g [.ref 74, .int (nI m)] N w (rp (some (.int (-2))) N w) := by
  obtain ⟨bu, v, m1, m2, m3, m4, m5, m6, m7, m8, m9, m10, m11⟩ := id h
  refine ab_Ct.of (by decide +kernel) (Nat.le_of_ble_eq_true rfl) (by rintro _ _ _ ⟨rfl, rfl, rfl⟩; trivial) ?_
  show ab_St MX8_encoded g 0 0 0 [(0, .ref 74), (1, .int (nI m))] [] _ _ _
  refine r_iload_n dX8_encoded_0 rfl ?_
  refine r_iconst (v := nI 0) dX8_encoded_1 (by decide) ?_
  refine r_iconst (v := nI 2) dX8_encoded_2 (by decide) ?_
  refine r_aload_n dX8_encoded_3 rfl ?_
  refine r_getf dX8_encoded_4 fX8_109 (by repeat first | exact wu_eq | assumption | (apply wu_ne; first | omega | assumption | (apply Ne.symm; assumption))) (by rfl) ?_
  first | refine r_imulN dX8_encoded_7 ?_ | refine r_imul dX8_encoded_7 ?_
  refine r_iconst (v := nI 1) dX8_encoded_8 (by decide) ?_
  first | refine r_isubN dX8_encoded_9 (by omega) ?_ | refine r_isub dX8_encoded_9 ?_
  refine r_invS dX8_encoded_10 kX8_257 (c_in (a := m) (lo := 0) (hi := 2 * half - 1) hm (by decide) (by omega)) rfl rfl ⟨by decide, by decide⟩ (Nat.le_of_ble_eq_true rfl) ⟨by decide, by decide⟩ ⟨rfl, rfl⟩ ?_
  rintro _ _ _ ⟨rfl, rfl, rfl⟩
  rw [if_neg (by omega)]
  first | refine r_if_neN (tgt := 19) dX8_encoded_13 (by decide) (by omega) (fun h13 => ?_) (fun h13 => ?_) | refine r_if_ne (tgt := 19) dX8_encoded_13 (by decide) (fun h13 => ?_) (fun h13 => ?_)
  · omega
  · refine r_bipush (v := (-2)) dX8_encoded_16 (by decide) ?_
    refine r_ret (r := (some (.int _))) dX8_encoded_18 (by decide) (by decide) ?_
    exact ⟨rfl, rfl, rfl⟩
theorem emn_dg (d : Nat → Nat) (len half : Nat) : ∀ n i, i < n → dg 256 (emn d len half n) (n - 1 - i) = enb d len half i
  | 0, i, h => absurd h (by omega)
  | n + 1, i, h => by
    show dg 256 (emn d len half n * 256 + enb d len half n) (n + 1 - 1 - i) = _
    have hb := enb_lt d len half n
    by_cases q : i = n
    · subst q
      rw [show i + 1 - 1 - i = 0 by omega, dg_0, Nat.mul_comm, Nat.mul_add_mod, Nat.mod_eq_of_lt hb]
    · have h1 := dg_div 256 (emn d len half n * 256 + enb d len half n) 1 (n - 1 - i)
      rw [Nat.pow_one, Nat.mul_comm, Nat.mul_add_div (by decide), Nat.div_eq_of_lt hb, Nat.add_zero, emn_dg d len half n i (by omega)] at h1
      rw [show n + 1 - 1 - i = 1 + (n - 1 - i) by omega, Nat.mul_comm, ← h1]
set_option maxRecDepth 100000 in
set_option maxHeartbeats 4000000 in
theorem c_mencoded {g : ab_G} {N m : Nat} {half rounds c bg : Nat} {ω d : Nat → Nat} {σ : hT} {len R sg vf : Nat} {w : ab_W} (h : MH w half rounds c ω bg σ d len R sg vf) (hb : m < 2 * half) : ab_Ct MX8_encoded g [.ref 74, .int (nI m)] N w (fun r N' w' => MH w' half rounds c ω bg σ d len R sg vf ∧ (∀ k, k < 74 → w' k = w k) ∧ r = some (.int (nI (enb d len half m))) ∧ N = N') := by
  obtain ⟨bu, v, m1, m2, m3, m4, m5, m6, m7, m8, m9, m10, m11⟩ := id h
  have hdg := emn_dg d len half (2 * half) m hb
  refine ab_Ct.of (by decide +kernel) (Nat.le_of_ble_eq_true rfl) (by rintro _ _ _ ⟨-, -, rfl, -⟩; trivial) ?_
  show ab_St MX8_encoded g 0 0 0 [(0, .ref 74), (1, .int (nI m))] [] _ _ _
  refine r_iload_n dX8_encoded_0 rfl ?_
  refine r_iconst (v := nI 0) dX8_encoded_1 (by decide) ?_
  refine r_iconst (v := nI 2) dX8_encoded_2 (by decide) ?_
  refine r_aload_n dX8_encoded_3 rfl ?_
  refine r_getf dX8_encoded_4 fX8_109 (by repeat first | exact wu_eq | assumption | (apply wu_ne; first | omega | assumption | (apply Ne.symm; assumption))) (by rfl) ?_
  first | refine r_imulN dX8_encoded_7 ?_ | refine r_imul dX8_encoded_7 ?_
  refine r_iconst (v := nI 1) dX8_encoded_8 (by decide) ?_
  first | refine r_isubN dX8_encoded_9 (by omega) ?_ | refine r_isub dX8_encoded_9 ?_
  refine r_invS dX8_encoded_10 kX8_257 (c_in (a := m) (lo := 0) (hi := 2 * half - 1) (by omega) (by decide) (by omega)) rfl rfl ⟨by decide, by decide⟩ (Nat.le_of_ble_eq_true rfl) ⟨by decide, by decide⟩ ⟨rfl, rfl⟩ ?_
  rintro _ _ _ ⟨rfl, rfl, rfl⟩
  rw [if_pos (by omega)]
  first | refine r_if_neN (tgt := 19) dX8_encoded_13 (by decide) (by omega) (fun h13 => ?_) (fun h13 => ?_) | refine r_if_ne (tgt := 19) dX8_encoded_13 (by decide) (fun h13 => ?_) (fun h13 => ?_)
  · refine r_aload_n dX8_encoded_19 rfl ?_
    refine r_invV dX8_encoded_20 kX8_283 (c_encodes m1 m2 m3 m4 m8 m9 m10) rfl rfl (by repeat first | exact wu_eq | assumption | (apply wu_ne; first | omega | assumption | (apply Ne.symm; assumption))) rfl rfl ⟨by decide, by decide⟩ (Nat.le_of_ble_eq_true rfl) ⟨by decide, by decide⟩ ⟨rfl, rfl⟩ ?_
    rintro _ _ w1 ⟨f74, f75, fB, fr, rfl, rfl⟩
    refine r_aload_n dX8_encoded_23 rfl ?_
    refine r_bipush (v := nI 18) dX8_encoded_24 (by decide) ?_
    refine r_iconst (v := nI 2) dX8_encoded_26 (by decide) ?_
    refine r_aload_n dX8_encoded_27 rfl ?_
    refine r_getf dX8_encoded_28 fX8_109 (by repeat first | exact wu_eq | assumption | (apply wu_ne; first | omega | assumption | (apply Ne.symm; assumption))) (by rfl) ?_
    first | refine r_imulN dX8_encoded_31 ?_ | refine r_imul dX8_encoded_31 ?_
    refine r_iload_n dX8_encoded_32 rfl ?_
    refine r_invV dX8_encoded_33 kX8_267 (c_mbyteAt (s := 18) (z := 2 * half) (i := m) (v := us v 18 (emn d len half (2 * half))) f74 f75 (by decide) hb (by omega)) rfl rfl (by repeat first | exact wu_eq | assumption | (apply wu_ne; first | omega | assumption | (apply Ne.symm; assumption))) rfl rfl ⟨by decide, by decide⟩ (Nat.le_of_ble_eq_true rfl) ⟨by decide, by decide⟩ ⟨rfl, rfl⟩ ?_
    rintro _ _ _ ⟨rfl, rfl, rfl⟩
    refine r_ret (r := (some (.int _))) dX8_encoded_36 (by decide) (by decide) ?_
    rw [us_eq, hdg]
    exact ⟨⟨len, _, f74, f75, fB, m4.keep fun k a b => fr k (by omega) (by omega) (by omega), (us_ne (by decide)).trans m5, fun q => (us_ne (by decide)).trans (m6 q), fun q k hk => (us_ne (by omega)).trans (m7 q k hk), m8, m9, m10, m11⟩, fun k a => fr k (by omega) (by omega) (by omega), rfl, rfl⟩
  · omega
set_option maxRecDepth 100000 in
set_option maxHeartbeats 4000000 in
theorem c_mencode {g : ab_G} {N : Nat} {half rounds c bg : Nat} {ω d : Nat → Nat} {σ : hT} {len R sg vf : Nat} {w : ab_W} (h : MH w half rounds c ω bg σ d len R sg vf) : ab_Ct MX8_encode g [.ref 74] N w (fun r N' w' => MH w' half rounds c ω bg σ d len (emn d len half (2 * half)) sg vf ∧ (∀ k, k < 74 → w' k = w k) ∧ r = some (.int (nI 1)) ∧ N = N') := by
  obtain ⟨bu, v, m1, m2, m3, m4, m5, m6, m7, m8, m9, m10, m11⟩ := id h
  refine ab_Ct.of (by decide +kernel) (Nat.le_of_ble_eq_true rfl) (by rintro _ _ _ ⟨-, -, rfl, -⟩; trivial) ?_
  show ab_St MX8_encode g 0 0 0 [(0, .ref 74)] [] _ _ _
  refine r_aload_n dX8_encode_0 rfl ?_
  refine r_invV dX8_encode_1 kX8_283 (c_encodes m1 m2 m3 m4 m8 m9 m10) rfl rfl (by repeat first | exact wu_eq | assumption | (apply wu_ne; first | omega | assumption | (apply Ne.symm; assumption))) rfl rfl ⟨by decide, by decide⟩ (Nat.le_of_ble_eq_true rfl) ⟨by decide, by decide⟩ ⟨rfl, rfl⟩ ?_
  rintro _ _ w1 ⟨f74, f75, fB, fr, rfl, rfl⟩
  refine r_aload_n dX8_encode_4 rfl ?_
  refine r_bipush (v := nI 7) dX8_encode_5 (by decide) ?_
  refine r_bipush (v := nI 18) dX8_encode_7 (by decide) ?_
  refine r_invV dX8_encode_9 kX8_139 (c_mcopy (t := 7) (s := 18) (v := us v 18 (emn d len half (2 * half))) f74 f75 (by decide) (by decide) (by decide)) rfl rfl (by repeat first | exact wu_eq | assumption | (apply wu_ne; first | omega | assumption | (apply Ne.symm; assumption))) rfl rfl ⟨by decide, by decide⟩ (Nat.le_of_ble_eq_true rfl) ⟨by decide, by decide⟩ ⟨rfl, rfl⟩ ?_
  rintro _ _ _ ⟨rfl, rfl, rfl⟩
  rw [us_eq]
  refine r_iconst (v := nI 1) dX8_encode_12 (by decide) ?_
  refine r_ret (r := (some (.int _))) dX8_encode_13 (by decide) (by decide) ?_
  exact ⟨⟨len, _, wu_ne (by decide) f74, wu_eq, fB.keep fun k a b => wu_ne (by omega) rfl, m4.keep fun k a b => (wu_ne (by omega) rfl).trans (fr k (by omega) (by omega) (by omega)), us_eq, fun q => (us_ne (by decide)).trans ((us_ne (by decide)).trans (m6 q)), fun q k hk => (us_ne (by omega)).trans ((us_ne (by omega)).trans (m7 q k hk)), m8, m9, m10, m11⟩, fun k a => (wu_ne (by omega) rfl).trans (fr k (by omega) (by omega) (by omega)), rfl, rfl⟩
set_option maxRecDepth 100000 in
set_option maxHeartbeats 4000000 in
theorem c_mget_neg {g : ab_G} {N : Nat} {x : Int32} {half rounds c bg : Nat} {ω d : Nat → Nat} {σ : hT} {len R sg vf : Nat} {w : ab_W} (h : MH w half rounds c ω bg σ d len R sg vf) (hx : x < 0) : ab_Ct MX8_get g [.ref 74, .int x] N w (rp (some (.int (-2))) N w) := by
  obtain ⟨bu, v, m1, m2, m3, m4, m5, m6, m7, m8, m9, m10, m11⟩ := id h
  refine ab_Ct.of (by decide +kernel) (Nat.le_of_ble_eq_true rfl) (by rintro _ _ _ ⟨rfl, rfl, rfl⟩; trivial) ?_
  show ab_St MX8_get g 0 0 0 [(0, .ref 74), (1, .int x)] [] _ _ _
  refine r_iload_n dX8_get_0 rfl ?_
  refine r_iconst (v := nI 0) dX8_get_1 (by decide) ?_
  refine r_iconst (v := nI 2) dX8_get_2 (by decide) ?_
  refine r_aload_n dX8_get_3 rfl ?_
  refine r_getf dX8_get_4 fX8_109 (by repeat first | exact wu_eq | assumption | (apply wu_ne; first | omega | assumption | (apply Ne.symm; assumption))) (by rfl) ?_
  first | refine r_imulN dX8_get_7 ?_ | refine r_imul dX8_get_7 ?_
  refine r_iconst (v := nI 1) dX8_get_8 (by decide) ?_
  first | refine r_isubN dX8_get_9 (by omega) ?_ | refine r_isub dX8_get_9 ?_
  refine r_invS dX8_get_10 kX8_257 (c_in_neg (lo := 0) hx (by decide)) rfl rfl ⟨by decide, by decide⟩ (Nat.le_of_ble_eq_true rfl) ⟨by decide, by decide⟩ ⟨rfl, rfl⟩ ?_
  rintro _ _ _ ⟨rfl, rfl, rfl⟩
  first | refine r_if_eqN (tgt := 32) dX8_get_13 (by decide) (by omega) (fun h13 => ?_) (fun h13 => ?_) | refine r_if_eq (tgt := 32) dX8_get_13 (by decide) (fun h13 => ?_) (fun h13 => ?_)
  · refine r_bipush (v := (-2)) dX8_get_32 (by decide) ?_
    refine r_ret (r := (some (.int _))) dX8_get_34 (by decide) (by decide) ?_
    exact ⟨rfl, rfl, rfl⟩
  · omega
set_option maxRecDepth 100000 in
set_option maxHeartbeats 4000000 in
theorem c_mget_bad {g : ab_G} {N m : Nat} {half rounds c bg : Nat} {ω d : Nat → Nat} {σ : hT} {len R sg vf : Nat} {w : ab_W} (h : MH w half rounds c ω bg σ d len R sg vf) (hm : m < 2147483648) (hb : 2 * half ≤ m) : ab_Ct MX8_get g [.ref 74, .int (nI m)] N w (rp (some (.int (-2))) N w) := by
  obtain ⟨bu, v, m1, m2, m3, m4, m5, m6, m7, m8, m9, m10, m11⟩ := id h
  refine ab_Ct.of (by decide +kernel) (Nat.le_of_ble_eq_true rfl) (by rintro _ _ _ ⟨rfl, rfl, rfl⟩; trivial) ?_
  show ab_St MX8_get g 0 0 0 [(0, .ref 74), (1, .int (nI m))] [] _ _ _
  refine r_iload_n dX8_get_0 rfl ?_
  refine r_iconst (v := nI 0) dX8_get_1 (by decide) ?_
  refine r_iconst (v := nI 2) dX8_get_2 (by decide) ?_
  refine r_aload_n dX8_get_3 rfl ?_
  refine r_getf dX8_get_4 fX8_109 (by repeat first | exact wu_eq | assumption | (apply wu_ne; first | omega | assumption | (apply Ne.symm; assumption))) (by rfl) ?_
  first | refine r_imulN dX8_get_7 ?_ | refine r_imul dX8_get_7 ?_
  refine r_iconst (v := nI 1) dX8_get_8 (by decide) ?_
  first | refine r_isubN dX8_get_9 (by omega) ?_ | refine r_isub dX8_get_9 ?_
  refine r_invS dX8_get_10 kX8_257 (c_in (a := m) (lo := 0) (hi := 2 * half - 1) hm (by decide) (by omega)) rfl rfl ⟨by decide, by decide⟩ (Nat.le_of_ble_eq_true rfl) ⟨by decide, by decide⟩ ⟨rfl, rfl⟩ ?_
  rintro _ _ _ ⟨rfl, rfl, rfl⟩
  rw [if_neg (by omega)]
  first | refine r_if_eqN (tgt := 32) dX8_get_13 (by decide) (by omega) (fun h13 => ?_) (fun h13 => ?_) | refine r_if_eq (tgt := 32) dX8_get_13 (by decide) (fun h13 => ?_) (fun h13 => ?_)
  · refine r_bipush (v := (-2)) dX8_get_32 (by decide) ?_
    refine r_ret (r := (some (.int _))) dX8_get_34 (by decide) (by decide) ?_
    exact ⟨rfl, rfl, rfl⟩
  · omega
set_option maxRecDepth 100000 in
set_option maxHeartbeats 4000000 in
theorem c_mget {g : ab_G} {N m : Nat} {half rounds c bg : Nat} {ω d : Nat → Nat} {σ : hT} {len R sg vf : Nat} {w : ab_W} (h : MH w half rounds c ω bg σ d len R sg vf) (hb : m < 2 * half) : ab_Ct MX8_get g [.ref 74, .int (nI m)] N w (rp (some (.int (nI (dg 256 R (2 * half - 1 - m))))) N w) := by
  obtain ⟨bu, v, m1, m2, m3, m4, m5, m6, m7, m8, m9, m10, m11⟩ := id h
  refine ab_Ct.of (by decide +kernel) (Nat.le_of_ble_eq_true rfl) (by rintro _ _ _ ⟨rfl, rfl, rfl⟩; trivial) ?_
  show ab_St MX8_get g 0 0 0 [(0, .ref 74), (1, .int (nI m))] [] _ _ _
  refine r_iload_n dX8_get_0 rfl ?_
  refine r_iconst (v := nI 0) dX8_get_1 (by decide) ?_
  refine r_iconst (v := nI 2) dX8_get_2 (by decide) ?_
  refine r_aload_n dX8_get_3 rfl ?_
  refine r_getf dX8_get_4 fX8_109 (by repeat first | exact wu_eq | assumption | (apply wu_ne; first | omega | assumption | (apply Ne.symm; assumption))) (by rfl) ?_
  first | refine r_imulN dX8_get_7 ?_ | refine r_imul dX8_get_7 ?_
  refine r_iconst (v := nI 1) dX8_get_8 (by decide) ?_
  first | refine r_isubN dX8_get_9 (by omega) ?_ | refine r_isub dX8_get_9 ?_
  refine r_invS dX8_get_10 kX8_257 (c_in (a := m) (lo := 0) (hi := 2 * half - 1) (by omega) (by decide) (by omega)) rfl rfl ⟨by decide, by decide⟩ (Nat.le_of_ble_eq_true rfl) ⟨by decide, by decide⟩ ⟨rfl, rfl⟩ ?_
  rintro _ _ _ ⟨rfl, rfl, rfl⟩
  rw [if_pos (by omega)]
  first | refine r_if_eqN (tgt := 32) dX8_get_13 (by decide) (by omega) (fun h13 => ?_) (fun h13 => ?_) | refine r_if_eq (tgt := 32) dX8_get_13 (by decide) (fun h13 => ?_) (fun h13 => ?_)
  · omega
  · refine r_aload_n dX8_get_16 rfl ?_
    refine r_bipush (v := nI 7) dX8_get_17 (by decide) ?_
    refine r_iconst (v := nI 2) dX8_get_19 (by decide) ?_
    refine r_aload_n dX8_get_20 rfl ?_
    refine r_getf dX8_get_21 fX8_109 (by repeat first | exact wu_eq | assumption | (apply wu_ne; first | omega | assumption | (apply Ne.symm; assumption))) (by rfl) ?_
    first | refine r_imulN dX8_get_24 ?_ | refine r_imul dX8_get_24 ?_
    refine r_iload_n dX8_get_25 rfl ?_
    refine r_invV dX8_get_26 kX8_267 (c_mbyteAt (s := 7) (z := 2 * half) (i := m) (v := v) m1 m2 (by decide) hb (by omega)) rfl rfl (by repeat first | exact wu_eq | assumption | (apply wu_ne; first | omega | assumption | (apply Ne.symm; assumption))) rfl rfl ⟨by decide, by decide⟩ (Nat.le_of_ble_eq_true rfl) ⟨by decide, by decide⟩ ⟨rfl, rfl⟩ ?_
    rintro _ _ _ ⟨rfl, rfl, rfl⟩
    refine r_goto (tgt := 34) dX8_get_29 (by decide) ?_
    refine r_ret (r := (some (.int _))) dX8_get_34 (by decide) (by decide) ?_
    rw [m5]
    exact ⟨rfl, rfl, rfl⟩
set_option maxRecDepth 100000 in
set_option maxHeartbeats 4000000 in
theorem c_mset_neg {g : ab_G} {N : Nat} {x y : Int32} {half rounds c bg : Nat} {ω d : Nat → Nat} {σ : hT} {len R sg vf : Nat} {w : ab_W} (h : MH w half rounds c ω bg σ d len R sg vf) (hx : x < 0) : ab_Ct MX8_set g [.ref 74, .int x, .int y] N w (rp (some (.int (-2))) N w) := by
  obtain ⟨bu, v, m1, m2, m3, m4, m5, m6, m7, m8, m9, m10, m11⟩ := id h
  refine ab_Ct.of (by decide +kernel) (Nat.le_of_ble_eq_true rfl) (by rintro _ _ _ ⟨rfl, rfl, rfl⟩; trivial) ?_
  show ab_St MX8_set g 0 0 0 [(0, .ref 74), (1, .int x), (2, .int y)] [] _ _ _
  refine r_iload_n dX8_set_0 rfl ?_
  refine r_iconst (v := nI 0) dX8_set_1 (by decide) ?_
  refine r_iconst (v := nI 2) dX8_set_2 (by decide) ?_
  refine r_aload_n dX8_set_3 rfl ?_
  refine r_getf dX8_set_4 fX8_109 (by repeat first | exact wu_eq | assumption | (apply wu_ne; first | omega | assumption | (apply Ne.symm; assumption))) (by rfl) ?_
  first | refine r_imulN dX8_set_7 ?_ | refine r_imul dX8_set_7 ?_
  refine r_iconst (v := nI 1) dX8_set_8 (by decide) ?_
  first | refine r_isubN dX8_set_9 (by omega) ?_ | refine r_isub dX8_set_9 ?_
  refine r_invS dX8_set_10 kX8_257 (c_in_neg (lo := 0) hx (by decide)) rfl rfl ⟨by decide, by decide⟩ (Nat.le_of_ble_eq_true rfl) ⟨by decide, by decide⟩ ⟨rfl, rfl⟩ ?_
  rintro _ _ _ ⟨rfl, rfl, rfl⟩
  first | refine r_if_eqN (tgt := 27) dX8_set_13 (by decide) (by omega) (fun h13 => ?_) (fun h13 => ?_) | refine r_if_eq (tgt := 27) dX8_set_13 (by decide) (fun h13 => ?_) (fun h13 => ?_)
  · refine r_bipush (v := (-2)) dX8_set_27 (by decide) ?_
    refine r_ret (r := (some (.int _))) dX8_set_29 (by decide) (by decide) ?_
    exact ⟨rfl, rfl, rfl⟩
  · omega
set_option maxRecDepth 100000 in
set_option maxHeartbeats 4000000 in
theorem c_mset_bad {g : ab_G} {N m : Nat} {y : Int32} {half rounds c bg : Nat} {ω d : Nat → Nat} {σ : hT} {len R sg vf : Nat} {w : ab_W} (h : MH w half rounds c ω bg σ d len R sg vf) (hm : m < 2147483648) (hb : 2 * half ≤ m) : ab_Ct MX8_set g [.ref 74, .int (nI m), .int y] N w (rp (some (.int (-2))) N w) := by
  obtain ⟨bu, v, m1, m2, m3, m4, m5, m6, m7, m8, m9, m10, m11⟩ := id h
  refine ab_Ct.of (by decide +kernel) (Nat.le_of_ble_eq_true rfl) (by rintro _ _ _ ⟨rfl, rfl, rfl⟩; trivial) ?_
  show ab_St MX8_set g 0 0 0 [(0, .ref 74), (1, .int (nI m)), (2, .int y)] [] _ _ _
  refine r_iload_n dX8_set_0 rfl ?_
  refine r_iconst (v := nI 0) dX8_set_1 (by decide) ?_
  refine r_iconst (v := nI 2) dX8_set_2 (by decide) ?_
  refine r_aload_n dX8_set_3 rfl ?_
  refine r_getf dX8_set_4 fX8_109 (by repeat first | exact wu_eq | assumption | (apply wu_ne; first | omega | assumption | (apply Ne.symm; assumption))) (by rfl) ?_
  first | refine r_imulN dX8_set_7 ?_ | refine r_imul dX8_set_7 ?_
  refine r_iconst (v := nI 1) dX8_set_8 (by decide) ?_
  first | refine r_isubN dX8_set_9 (by omega) ?_ | refine r_isub dX8_set_9 ?_
  refine r_invS dX8_set_10 kX8_257 (c_in (a := m) (lo := 0) (hi := 2 * half - 1) hm (by decide) (by omega)) rfl rfl ⟨by decide, by decide⟩ (Nat.le_of_ble_eq_true rfl) ⟨by decide, by decide⟩ ⟨rfl, rfl⟩ ?_
  rintro _ _ _ ⟨rfl, rfl, rfl⟩
  rw [if_neg (by omega)]
  first | refine r_if_eqN (tgt := 27) dX8_set_13 (by decide) (by omega) (fun h13 => ?_) (fun h13 => ?_) | refine r_if_eq (tgt := 27) dX8_set_13 (by decide) (fun h13 => ?_) (fun h13 => ?_)
  · refine r_bipush (v := (-2)) dX8_set_27 (by decide) ?_
    refine r_ret (r := (some (.int _))) dX8_set_29 (by decide) (by decide) ?_
    exact ⟨rfl, rfl, rfl⟩
  · omega
set_option maxRecDepth 100000 in
set_option maxHeartbeats 4000000 in
theorem c_mset_neg2 {g : ab_G} {N m : Nat} {y : Int32} {half rounds c bg : Nat} {ω d : Nat → Nat} {σ : hT} {len R sg vf : Nat} {w : ab_W} (h : MH w half rounds c ω bg σ d len R sg vf) (hb : m < 2 * half) (hy : y < 0) : ab_Ct MX8_set g [.ref 74, .int (nI m), .int y] N w (rp (some (.int (-2))) N w) := by
  obtain ⟨bu, v, m1, m2, m3, m4, m5, m6, m7, m8, m9, m10, m11⟩ := id h
  refine ab_Ct.of (by decide +kernel) (Nat.le_of_ble_eq_true rfl) (by rintro _ _ _ ⟨rfl, rfl, rfl⟩; trivial) ?_
  show ab_St MX8_set g 0 0 0 [(0, .ref 74), (1, .int (nI m)), (2, .int y)] [] _ _ _
  refine r_iload_n dX8_set_0 rfl ?_
  refine r_iconst (v := nI 0) dX8_set_1 (by decide) ?_
  refine r_iconst (v := nI 2) dX8_set_2 (by decide) ?_
  refine r_aload_n dX8_set_3 rfl ?_
  refine r_getf dX8_set_4 fX8_109 (by repeat first | exact wu_eq | assumption | (apply wu_ne; first | omega | assumption | (apply Ne.symm; assumption))) (by rfl) ?_
  first | refine r_imulN dX8_set_7 ?_ | refine r_imul dX8_set_7 ?_
  refine r_iconst (v := nI 1) dX8_set_8 (by decide) ?_
  first | refine r_isubN dX8_set_9 (by omega) ?_ | refine r_isub dX8_set_9 ?_
  refine r_invS dX8_set_10 kX8_257 (c_in (a := m) (lo := 0) (hi := 2 * half - 1) (by omega) (by decide) (by omega)) rfl rfl ⟨by decide, by decide⟩ (Nat.le_of_ble_eq_true rfl) ⟨by decide, by decide⟩ ⟨rfl, rfl⟩ ?_
  rintro _ _ _ ⟨rfl, rfl, rfl⟩
  rw [if_pos (by omega)]
  first | refine r_if_eqN (tgt := 27) dX8_set_13 (by decide) (by omega) (fun h13 => ?_) (fun h13 => ?_) | refine r_if_eq (tgt := 27) dX8_set_13 (by decide) (fun h13 => ?_) (fun h13 => ?_)
  · omega
  · refine r_iload_n dX8_set_16 rfl ?_
    refine r_iconst (v := nI 0) dX8_set_17 (by decide) ?_
    refine r_sipush (v := nI 255) dX8_set_18 (by decide) ?_
    refine r_invS dX8_set_21 kX8_257 (c_in_neg (lo := 0) hy (by decide)) rfl rfl ⟨by decide, by decide⟩ (Nat.le_of_ble_eq_true rfl) ⟨by decide, by decide⟩ ⟨rfl, rfl⟩ ?_
    rintro _ _ _ ⟨rfl, rfl, rfl⟩
    first | refine r_if_neN (tgt := 30) dX8_set_24 (by decide) (by omega) (fun h24 => ?_) (fun h24 => ?_) | refine r_if_ne (tgt := 30) dX8_set_24 (by decide) (fun h24 => ?_) (fun h24 => ?_)
    · omega
    · refine r_bipush (v := (-2)) dX8_set_27 (by decide) ?_
      refine r_ret (r := (some (.int _))) dX8_set_29 (by decide) (by decide) ?_
      exact ⟨rfl, rfl, rfl⟩
set_option maxRecDepth 100000 in
set_option maxHeartbeats 4000000 in
theorem c_mset_bad2 {g : ab_G} {N m y : Nat} {half rounds c bg : Nat} {ω d : Nat → Nat} {σ : hT} {len R sg vf : Nat} {w : ab_W} (h : MH w half rounds c ω bg σ d len R sg vf) (hb : m < 2 * half) (hy : y < 2147483648) (hy2 : 256 ≤ y) : ab_Ct MX8_set g [.ref 74, .int (nI m), .int (nI y)] N w (rp (some (.int (-2))) N w) := by
  obtain ⟨bu, v, m1, m2, m3, m4, m5, m6, m7, m8, m9, m10, m11⟩ := id h
  refine ab_Ct.of (by decide +kernel) (Nat.le_of_ble_eq_true rfl) (by rintro _ _ _ ⟨rfl, rfl, rfl⟩; trivial) ?_
  show ab_St MX8_set g 0 0 0 [(0, .ref 74), (1, .int (nI m)), (2, .int (nI y))] [] _ _ _
  refine r_iload_n dX8_set_0 rfl ?_
  refine r_iconst (v := nI 0) dX8_set_1 (by decide) ?_
  refine r_iconst (v := nI 2) dX8_set_2 (by decide) ?_
  refine r_aload_n dX8_set_3 rfl ?_
  refine r_getf dX8_set_4 fX8_109 (by repeat first | exact wu_eq | assumption | (apply wu_ne; first | omega | assumption | (apply Ne.symm; assumption))) (by rfl) ?_
  first | refine r_imulN dX8_set_7 ?_ | refine r_imul dX8_set_7 ?_
  refine r_iconst (v := nI 1) dX8_set_8 (by decide) ?_
  first | refine r_isubN dX8_set_9 (by omega) ?_ | refine r_isub dX8_set_9 ?_
  refine r_invS dX8_set_10 kX8_257 (c_in (a := m) (lo := 0) (hi := 2 * half - 1) (by omega) (by decide) (by omega)) rfl rfl ⟨by decide, by decide⟩ (Nat.le_of_ble_eq_true rfl) ⟨by decide, by decide⟩ ⟨rfl, rfl⟩ ?_
  rintro _ _ _ ⟨rfl, rfl, rfl⟩
  rw [if_pos (by omega)]
  first | refine r_if_eqN (tgt := 27) dX8_set_13 (by decide) (by omega) (fun h13 => ?_) (fun h13 => ?_) | refine r_if_eq (tgt := 27) dX8_set_13 (by decide) (fun h13 => ?_) (fun h13 => ?_)
  · omega
  · refine r_iload_n dX8_set_16 rfl ?_
    refine r_iconst (v := nI 0) dX8_set_17 (by decide) ?_
    refine r_sipush (v := nI 255) dX8_set_18 (by decide) ?_
    refine r_invS dX8_set_21 kX8_257 (c_in (a := y) (lo := 0) (hi := 255) hy (by decide) (by decide)) rfl rfl ⟨by decide, by decide⟩ (Nat.le_of_ble_eq_true rfl) ⟨by decide, by decide⟩ ⟨rfl, rfl⟩ ?_
    rintro _ _ _ ⟨rfl, rfl, rfl⟩
    rw [if_neg (by omega)]
    first | refine r_if_neN (tgt := 30) dX8_set_24 (by decide) (by omega) (fun h24 => ?_) (fun h24 => ?_) | refine r_if_ne (tgt := 30) dX8_set_24 (by decide) (fun h24 => ?_) (fun h24 => ?_)
    · omega
    · refine r_bipush (v := (-2)) dX8_set_27 (by decide) ?_
      refine r_ret (r := (some (.int _))) dX8_set_29 (by decide) (by decide) ?_
      exact ⟨rfl, rfl, rfl⟩
set_option maxRecDepth 100000 in
set_option maxHeartbeats 4000000 in
theorem c_mset {g : ab_G} {N m y : Nat} {half rounds c bg : Nat} {ω d : Nat → Nat} {σ : hT} {len R sg vf : Nat} {w : ab_W} (h : MH w half rounds c ω bg σ d len R sg vf) (hb : m < 2 * half) (hy : y < 256) : ab_Ct MX8_set g [.ref 74, .int (nI m), .int (nI y)] N w (fun r N' w' => MH w' half rounds c ω bg σ d len (ud 256 R (2 * half - 1 - m) y) sg vf ∧ (∀ k, k < 74 → w' k = w k) ∧ r = some (.int (nI (dg 256 R (2 * half - 1 - m)))) ∧ N = N') := by
  obtain ⟨bu, v, m1, m2, m3, m4, m5, m6, m7, m8, m9, m10, m11⟩ := id h
  refine ab_Ct.of (by decide +kernel) (Nat.le_of_ble_eq_true rfl) (by rintro _ _ _ ⟨-, -, rfl, -⟩; trivial) ?_
  show ab_St MX8_set g 0 0 0 [(0, .ref 74), (1, .int (nI m)), (2, .int (nI y))] [] _ _ _
  refine r_iload_n dX8_set_0 rfl ?_
  refine r_iconst (v := nI 0) dX8_set_1 (by decide) ?_
  refine r_iconst (v := nI 2) dX8_set_2 (by decide) ?_
  refine r_aload_n dX8_set_3 rfl ?_
  refine r_getf dX8_set_4 fX8_109 (by repeat first | exact wu_eq | assumption | (apply wu_ne; first | omega | assumption | (apply Ne.symm; assumption))) (by rfl) ?_
  first | refine r_imulN dX8_set_7 ?_ | refine r_imul dX8_set_7 ?_
  refine r_iconst (v := nI 1) dX8_set_8 (by decide) ?_
  first | refine r_isubN dX8_set_9 (by omega) ?_ | refine r_isub dX8_set_9 ?_
  refine r_invS dX8_set_10 kX8_257 (c_in (a := m) (lo := 0) (hi := 2 * half - 1) (by omega) (by decide) (by omega)) rfl rfl ⟨by decide, by decide⟩ (Nat.le_of_ble_eq_true rfl) ⟨by decide, by decide⟩ ⟨rfl, rfl⟩ ?_
  rintro _ _ _ ⟨rfl, rfl, rfl⟩
  rw [if_pos (by omega)]
  first | refine r_if_eqN (tgt := 27) dX8_set_13 (by decide) (by omega) (fun h13 => ?_) (fun h13 => ?_) | refine r_if_eq (tgt := 27) dX8_set_13 (by decide) (fun h13 => ?_) (fun h13 => ?_)
  · omega
  · refine r_iload_n dX8_set_16 rfl ?_
    refine r_iconst (v := nI 0) dX8_set_17 (by decide) ?_
    refine r_sipush (v := nI 255) dX8_set_18 (by decide) ?_
    refine r_invS dX8_set_21 kX8_257 (c_in (a := y) (lo := 0) (hi := 255) (by omega) (by decide) (by decide)) rfl rfl ⟨by decide, by decide⟩ (Nat.le_of_ble_eq_true rfl) ⟨by decide, by decide⟩ ⟨rfl, rfl⟩ ?_
    rintro _ _ _ ⟨rfl, rfl, rfl⟩
    rw [if_pos (by omega)]
    first | refine r_if_neN (tgt := 30) dX8_set_24 (by decide) (by omega) (fun h24 => ?_) (fun h24 => ?_) | refine r_if_ne (tgt := 30) dX8_set_24 (by decide) (fun h24 => ?_) (fun h24 => ?_)
    · refine r_aload_n dX8_set_30 rfl ?_
      refine r_bipush (v := nI 7) dX8_set_31 (by decide) ?_
      refine r_iconst (v := nI 2) dX8_set_33 (by decide) ?_
      refine r_aload_n dX8_set_34 rfl ?_
      refine r_getf dX8_set_35 fX8_109 (by repeat first | exact wu_eq | assumption | (apply wu_ne; first | omega | assumption | (apply Ne.symm; assumption))) (by rfl) ?_
      first | refine r_imulN dX8_set_38 ?_ | refine r_imul dX8_set_38 ?_
      refine r_iload_n dX8_set_39 rfl ?_
      refine r_invV dX8_set_40 kX8_267 (c_mbyteAt (s := 7) (z := 2 * half) (i := m) (v := v) m1 m2 (by decide) hb (by omega)) rfl rfl (by repeat first | exact wu_eq | assumption | (apply wu_ne; first | omega | assumption | (apply Ne.symm; assumption))) rfl rfl ⟨by decide, by decide⟩ (Nat.le_of_ble_eq_true rfl) ⟨by decide, by decide⟩ ⟨rfl, rfl⟩ ?_
      rintro _ _ _ ⟨rfl, rfl, rfl⟩
      rw [m5]
      refine r_istore_n (i := 3) (L0 := [(0, _), (1, _), (2, _)]) dX8_set_43 rfl (by decide) rfl ?_
      refine r_aload_n dX8_set_44 rfl ?_
      refine r_bipush (v := nI 7) dX8_set_45 (by decide) ?_
      refine r_iconst (v := nI 2) dX8_set_47 (by decide) ?_
      refine r_aload_n dX8_set_48 rfl ?_
      refine r_getf dX8_set_49 fX8_109 (by repeat first | exact wu_eq | assumption | (apply wu_ne; first | omega | assumption | (apply Ne.symm; assumption))) (by rfl) ?_
      first | refine r_imulN dX8_set_52 ?_ | refine r_imul dX8_set_52 ?_
      refine r_iload_n dX8_set_53 rfl ?_
      refine r_iload_n dX8_set_54 rfl ?_
      refine r_invV dX8_set_55 kX8_244 (c_byteTo (s := 7) (z := 2 * half) (i := m) (b := y) (v := v) m1 m2 (by decide) hb (by omega) hy) rfl rfl (by repeat first | exact wu_eq | assumption | (apply wu_ne; first | omega | assumption | (apply Ne.symm; assumption))) rfl rfl ⟨by decide, by decide⟩ (Nat.le_of_ble_eq_true rfl) ⟨by decide, by decide⟩ ⟨rfl, rfl⟩ ?_
      rintro _ _ _ ⟨rfl, rfl, rfl⟩
      rw [m5]
      refine r_iload_n dX8_set_58 rfl ?_
      refine r_ret (r := (some (.int _))) dX8_set_59 (by decide) (by decide) ?_
      exact ⟨⟨bu, _, wu_ne (by decide) m1, wu_eq, m3.keep fun k a b => wu_ne (by omega) rfl, m4.keep fun k a b => wu_ne (by omega) rfl, us_eq, fun q => (us_ne (by decide)).trans (m6 q), fun q k hk => (us_ne (by omega)).trans (m7 q k hk), m8, m9, m10, m11⟩, fun k a => wu_ne (by omega) rfl, rfl, rfl⟩
    · omega
