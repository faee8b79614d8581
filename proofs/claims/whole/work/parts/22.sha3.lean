/-! SignHouse$Sha256: the hash of the first bytes of a row; its bytes; the constructor -/
theorem sC_0 {w st : Nat → Int32} (h : ∀ k, 8 ≤ k → st k = 0) : ∀ k, 8 ≤ k → sC w st k = 0 := fun k hk => by
  unfold sC
  rw [if_neg (by omega), h k hk]
theorem sS_0 (d : Nat → Nat) (n T : Nat) : ∀ j k, 8 ≤ k → sS d n T j k = 0
  | 0, k, hk => if_neg (by omega)
  | j + 1, k, hk => sC_0 (sS_0 d n T j) k hk
theorem sha_0 (d : Nat → Nat) (n : Nat) : ∀ k, 8 ≤ k → sha d n k = 0 := sS_0 d n _ _
set_option maxRecDepth 100000 in
set_option maxHeartbeats 4000000 in
theorem c_hashFirst {g : ab_G} {N s b m n : Nat} {d : Nat → Nat} {f st : Nat → Int32} {w : ab_W} (hs : w s = shO s) (hst : w (s + 1) = aI 8 st) (hst0 : ∀ k, 8 ≤ k → st k = 0) (hf : w (s + 2) = aI 64 f) (hb : w b = aB m (byt d)) (hd : ∀ i, d i < 256) (hm : m ≤ 1000) (hnm : n ≤ m) (hx0 : w 0 = xI 8 sH) (hx1 : w 1 = xI 64 sK) (h7 : 7 ≤ s) : ab_Ct MX6_hashFirst g [.ref s, .ref b, .int (nI n)] N w (fun r N' w' => ∃ f', r = none ∧ N = N' ∧ w' = wu (wu w (s + 2) (aI 64 f')) (s + 1) (aI 8 (sha d n))) := by
  have hb1 : b ≠ s + 1 := fun h => by subst h; rw [hst] at hb; cases hb
  have hb2 : b ≠ s + 2 := fun h => by subst h; rw [hf] at hb; cases hb
  have hT : 64 * ((n + 72) / 64) ≤ 2000 := by omega
  have hNB : (n + 72) / 64 ≤ 20 := by omega
  have hnT : n + 9 ≤ 64 * ((n + 72) / 64) := by omega
  unfold sha
  generalize hNe : (n + 72) / 64 = NB at hT hNB hnT
  have J : ∀ k j, j + k = NB → ∀ f, ab_St MX6_hashFirst g 0 0 52 [(4, .int (nI j)), (3, .int (nI NB)), (0, .ref s), (1, .ref b), (2, .int (nI n))] [] N (wu (wu w (s + 2) (aI 64 f)) (s + 1) (aI 8 (sS d n (64 * NB) j))) (fun r N' w' => ∃ f', r = none ∧ N = N' ∧ w' = wu (wu w (s + 2) (aI 64 f')) (s + 1) (aI 8 (sS d n (64 * NB) NB))) := by
    intro k
    induction k with
    | zero =>
      intro j hj f
      obtain rfl : j = NB := by omega
      refine r_iload dX6_hashFirst_52 rfl ?_
      refine r_iload_n dX6_hashFirst_54 rfl ?_
      first | refine r_icmp_geN (tgt := 118) dX6_hashFirst_55 (by decide) (by omega) (by omega) (fun h55 => ?_) (fun h55 => ?_) | refine r_icmp_ge (tgt := 118) dX6_hashFirst_55 (by decide) (fun h55 => ?_) (fun h55 => ?_)
      · refine r_ret (r := none) dX6_hashFirst_118 (by decide) (by decide) ?_
        exact ⟨f, rfl, rfl, rfl⟩
      · omega
    | succ k ih =>
      intro j hj f
      have I : ∀ k t, t + k = 16 → ab_St MX6_hashFirst g 0 0 61 [(5, .int (nI t)), (4, .int (nI j)), (3, .int (nI NB)), (0, .ref s), (1, .ref b), (2, .int (nI n))] [] N (wu (wu w (s + 2) (aI 64 (fl t (sB d n (64 * NB) j) f))) (s + 1) (aI 8 (sS d n (64 * NB) j))) (fun r N' w' => ∃ f', r = none ∧ N = N' ∧ w' = wu (wu w (s + 2) (aI 64 f')) (s + 1) (aI 8 (sS d n (64 * NB) NB))) := by
        intro k
        induction k with
        | zero =>
          intro t ht
          obtain rfl : t = 16 := by omega
          refine r_iload dX6_hashFirst_61 rfl ?_
          refine r_bipush (v := nI 16) dX6_hashFirst_63 (by decide) ?_
          first | refine r_icmp_geN (tgt := 104) dX6_hashFirst_65 (by decide) (by omega) (by omega) (fun h65 => ?_) (fun h65 => ?_) | refine r_icmp_ge (tgt := 104) dX6_hashFirst_65 (by decide) (fun h65 => ?_) (fun h65 => ?_)
          · refine r_aload_n dX6_hashFirst_104 rfl ?_
            refine r_invV dX6_hashFirst_105 kX6_23 (c_extendSchedule (f := fl 16 (sB d n (64 * NB) j) f) (by repeat first | exact wu_eq | assumption | (apply wu_ne; first | omega | assumption | (apply Ne.symm; assumption))) (by repeat first | exact wu_eq | assumption | (apply wu_ne; first | omega | assumption | (apply Ne.symm; assumption)))) rfl rfl (by repeat first | exact wu_eq | assumption | (apply wu_ne; first | omega | assumption | (apply Ne.symm; assumption))) rfl rfl ⟨by decide, by decide⟩ (Nat.le_of_ble_eq_true rfl) ⟨by decide, by decide⟩ ⟨rfl, rfl⟩ ?_
            rintro _ _ _ ⟨rfl, rfl, rfl⟩
            refine r_aload_n dX6_hashFirst_108 rfl ?_
            refine r_invV dX6_hashFirst_109 kX6_26 (c_mixBlock (f := sWt (fl 16 (sB d n (64 * NB) j) f) 48) (st := sS d n (64 * NB) j) (by repeat first | exact wu_eq | assumption | (apply wu_ne; first | omega | assumption | (apply Ne.symm; assumption))) (by repeat first | exact wu_eq | assumption | (apply wu_ne; first | omega | assumption | (apply Ne.symm; assumption))) (by repeat first | exact wu_eq | assumption | (apply wu_ne; first | omega | assumption | (apply Ne.symm; assumption))) (by repeat first | exact wu_eq | assumption | (apply wu_ne; first | omega | assumption | (apply Ne.symm; assumption)))) rfl rfl (by repeat first | exact wu_eq | assumption | (apply wu_ne; first | omega | assumption | (apply Ne.symm; assumption))) rfl rfl ⟨by decide, by decide⟩ (Nat.le_of_ble_eq_true rfl) ⟨by decide, by decide⟩ ⟨rfl, rfl⟩ ?_
            rintro _ _ _ ⟨rfl, rfl, rfl⟩
            refine r_iinc (L0 := [(5, _), (3, _), (0, _), (1, _), (2, _)]) dX6_hashFirst_112 rfl (by first | exact iinc1 _ | rfl) (by decide) rfl ?_
            refine r_goto (tgt := 52) dX6_hashFirst_115 (by decide) ?_
            refine r_sub [0, 2, 3, 4, 5] rfl ?_
            have h := ih (j + 1) (by omega) (sWt (fl 16 (sB d n (64 * NB) j) f) 48)
            rw [show sS d n (64 * NB) (j + 1) = sC (sWt (sB d n (64 * NB) j) 48) (sS d n (64 * NB) j) from rfl, ← sC_cong (w := sWt (fl 16 (sB d n (64 * NB) j) f) 48) (fun k hk => sWt_cong (fun t ht => fl_lo ht) 48 k (by omega))] at h
            rw [show wu (wu (wu (wu w (s + 2) (aI 64 (fl 16 (sB d n (64 * NB) j) f))) (s + 1) (aI 8 (sS d n (64 * NB) j))) (s + 2) (aI 64 (sWt (fl 16 (sB d n (64 * NB) j) f) 48))) (s + 1) (aI 8 (sC (sWt (fl 16 (sB d n (64 * NB) j) f) 48) (sS d n (64 * NB) j))) = wu (wu w (s + 2) (aI 64 (sWt (fl 16 (sB d n (64 * NB) j) f) 48))) (s + 1) (aI 8 (sC (sWt (fl 16 (sB d n (64 * NB) j) f) 48) (sS d n (64 * NB) j))) by funext i; simp only [wu]; (repeat' split) <;> first | rfl | omega]
            exact h
          · omega
        | succ k ith =>
          intro t ht
          refine r_iload dX6_hashFirst_61 rfl ?_
          refine r_bipush (v := nI 16) dX6_hashFirst_63 (by decide) ?_
          first | refine r_icmp_geN (tgt := 104) dX6_hashFirst_65 (by decide) (by omega) (by omega) (fun h65 => ?_) (fun h65 => ?_) | refine r_icmp_ge (tgt := 104) dX6_hashFirst_65 (by decide) (fun h65 => ?_) (fun h65 => ?_)
          · omega
          · refine r_bipush (v := nI 64) dX6_hashFirst_68 (by decide) ?_
            refine r_iload dX6_hashFirst_70 rfl ?_
            first | refine r_imulN dX6_hashFirst_72 ?_ | refine r_imul dX6_hashFirst_72 ?_
            refine r_iconst (v := nI 4) dX6_hashFirst_73 (by decide) ?_
            refine r_iload dX6_hashFirst_74 rfl ?_
            first | refine r_imulN dX6_hashFirst_76 ?_ | refine r_imul dX6_hashFirst_76 ?_
            first | refine r_iaddN dX6_hashFirst_77 ?_ | refine r_iadd dX6_hashFirst_77 ?_
            refine r_istore (i := 6) (L0 := [(5, _), (4, _), (3, _), (0, _), (1, _), (2, _)]) dX6_hashFirst_78 (by decide) rfl ?_
            refine r_aload_n dX6_hashFirst_80 rfl ?_
            refine r_getf dX6_hashFirst_81 fX6_13 (by repeat first | exact wu_eq | assumption | (apply wu_ne; first | omega | assumption | (apply Ne.symm; assumption))) (by rfl) ?_
            refine r_iload dX6_hashFirst_84 rfl ?_
            refine r_aload_n dX6_hashFirst_86 rfl ?_
            refine r_iload_n dX6_hashFirst_87 rfl ?_
            refine r_iload dX6_hashFirst_88 rfl ?_
            refine r_bipush (v := nI 64) dX6_hashFirst_90 (by decide) ?_
            refine r_iload_n dX6_hashFirst_92 rfl ?_
            first | refine r_imulN dX6_hashFirst_93 ?_ | refine r_imul dX6_hashFirst_93 ?_
            refine r_invS dX6_hashFirst_94 kX6_19 (c_paddedWord (m := m) (n := n) (T := 64 * NB) (p := 64 * j + 4 * t) (d := d) (by repeat first | exact wu_eq | assumption | (apply wu_ne; first | omega | assumption | (apply Ne.symm; assumption))) hd hm hnm hnT hT (by omega) (by omega)) rfl rfl ⟨by decide, by decide⟩ (Nat.le_of_ble_eq_true rfl) ⟨by decide, by decide⟩ ⟨rfl, rfl⟩ ?_
            rintro _ _ _ ⟨rfl, rfl, rfl⟩
            refine r_iastore dX6_hashFirst_97 (by repeat first | exact wu_eq | assumption | (apply wu_ne; first | omega | assumption | (apply Ne.symm; assumption))) _ rfl (by omega) (by omega) ?_
            refine r_iinc (L0 := [(6, _), (4, _), (3, _), (0, _), (1, _), (2, _)]) dX6_hashFirst_98 rfl (by first | exact iinc1 _ | rfl) (by decide) rfl ?_
            refine r_goto (tgt := 61) dX6_hashFirst_101 (by decide) ?_
            refine r_sub [0, 2, 3, 4, 5, 6] rfl ?_
            have h := ith (t + 1) (by omega)
            rw [← fl_up' (show nI (pw d n (64 * NB) (64 * j + 4 * t) 4) = sB d n (64 * NB) j t from rfl)] at h
            rw [show ∀ X Y, wu (wu (wu w (s + 2) (aI 64 (fl t (sB d n (64 * NB) j) f))) (s + 1) X) (s + 2) Y = wu (wu w (s + 2) Y) (s + 1) X from fun X Y => by funext i; simp only [wu]; (repeat' split) <;> first | rfl | omega]
            exact h
      refine r_iload dX6_hashFirst_52 rfl ?_
      refine r_iload_n dX6_hashFirst_54 rfl ?_
      first | refine r_icmp_geN (tgt := 118) dX6_hashFirst_55 (by decide) (by omega) (by omega) (fun h55 => ?_) (fun h55 => ?_) | refine r_icmp_ge (tgt := 118) dX6_hashFirst_55 (by decide) (fun h55 => ?_) (fun h55 => ?_)
      · omega
      · refine r_iconst (v := nI 0) dX6_hashFirst_58 (by decide) ?_
        refine r_istore (i := 5) (L0 := [(4, _), (3, _), (0, _), (1, _), (2, _)]) dX6_hashFirst_59 (by decide) rfl ?_
        have h := I 16 0 (by omega)
        rw [fl_0] at h
        exact h
  have A : ∀ k i, i + k = 8 → ab_St MX6_hashFirst g 0 0 2 [(3, .int (nI i)), (0, .ref s), (1, .ref b), (2, .int (nI n))] [] N (wu w (s + 1) (aI 8 (fl i sH st))) (fun r N' w' => ∃ f', r = none ∧ N = N' ∧ w' = wu (wu w (s + 2) (aI 64 f')) (s + 1) (aI 8 (sS d n (64 * NB) NB))) := by
    intro k
    induction k with
    | zero =>
      intro i hi
      obtain rfl : i = 8 := by omega
      have e8 : fl 8 sH st = sS d n (64 * NB) 0 := by
        funext k
        unfold fl
        show _ = if k < 8 then sH k else 0
        by_cases h : k < 8
        · rw [if_pos h, if_pos h]
        · rw [if_neg h, if_neg h, hst0 k (by omega)]
      rw [e8]
      refine r_iload_n dX6_hashFirst_2 rfl ?_
      refine r_aload_n dX6_hashFirst_3 rfl ?_
      refine r_getf dX6_hashFirst_4 fX6_7 (by repeat first | exact wu_eq | assumption | (apply wu_ne; first | omega | assumption | (apply Ne.symm; assumption))) (by rfl) ?_
      refine r_alen' dX6_hashFirst_7 (by repeat first | exact wu_eq | assumption | (apply wu_ne; first | omega | assumption | (apply Ne.symm; assumption))) (by rfl) ?_
      first | refine r_icmp_geN (tgt := 36) dX6_hashFirst_8 (by decide) (by omega) (by omega) (fun h8 => ?_) (fun h8 => ?_) | refine r_icmp_ge (tgt := 36) dX6_hashFirst_8 (by decide) (fun h8 => ?_) (fun h8 => ?_)
      · refine r_iload_n dX6_hashFirst_36 rfl ?_
        refine r_bipush (v := nI 9) dX6_hashFirst_37 (by decide) ?_
        first | refine r_iaddN dX6_hashFirst_39 ?_ | refine r_iadd dX6_hashFirst_39 ?_
        refine r_bipush (v := nI 64) dX6_hashFirst_40 (by decide) ?_
        first | refine r_iaddN dX6_hashFirst_42 ?_ | refine r_iadd dX6_hashFirst_42 ?_
        refine r_iconst (v := nI 1) dX6_hashFirst_43 (by decide) ?_
        first | refine r_isubN dX6_hashFirst_44 (by omega) ?_ | refine r_isub dX6_hashFirst_44 ?_
        refine r_bipush (v := nI 64) dX6_hashFirst_45 (by decide) ?_
        refine r_idivN dX6_hashFirst_47 (by omega) (by omega) (by omega) ?_
        refine r_istore_n (i := 3) (L0 := [(0, _), (1, _), (2, _)]) dX6_hashFirst_48 rfl (by decide) rfl ?_
        refine r_iconst (v := nI 0) dX6_hashFirst_49 (by decide) ?_
        refine r_istore (i := 4) (L0 := [(3, _), (0, _), (1, _), (2, _)]) dX6_hashFirst_50 (by decide) rfl ?_
        rw [show (n + 9 + 64 - 1) / 64 = NB by omega]
        have h := J NB 0 (by omega) f
        rw [show wu (wu w (s + 2) (aI 64 f)) (s + 1) (aI 8 (sS d n (64 * NB) 0)) = wu w (s + 1) (aI 8 (sS d n (64 * NB) 0)) by rw [wu_self hf]] at h
        exact h
      · omega
    | succ k ih =>
      intro i hi
      refine r_iload_n dX6_hashFirst_2 rfl ?_
      refine r_aload_n dX6_hashFirst_3 rfl ?_
      refine r_getf dX6_hashFirst_4 fX6_7 (by repeat first | exact wu_eq | assumption | (apply wu_ne; first | omega | assumption | (apply Ne.symm; assumption))) (by rfl) ?_
      refine r_alen' dX6_hashFirst_7 (by repeat first | exact wu_eq | assumption | (apply wu_ne; first | omega | assumption | (apply Ne.symm; assumption))) (by rfl) ?_
      first | refine r_icmp_geN (tgt := 36) dX6_hashFirst_8 (by decide) (by omega) (by omega) (fun h8 => ?_) (fun h8 => ?_) | refine r_icmp_ge (tgt := 36) dX6_hashFirst_8 (by decide) (fun h8 => ?_) (fun h8 => ?_)
      · omega
      · refine r_iload_n dX6_hashFirst_11 rfl ?_
        refine r_gets dX6_hashFirst_12 (by decide) sX6_16 ?_
        refine r_alen' dX6_hashFirst_15 (by repeat first | exact wu_eq | assumption | (apply wu_ne; first | omega | assumption | (apply Ne.symm; assumption))) (by rfl) ?_
        first | refine r_icmp_geN (tgt := 36) dX6_hashFirst_16 (by decide) (by omega) (by omega) (fun h16 => ?_) (fun h16 => ?_) | refine r_icmp_ge (tgt := 36) dX6_hashFirst_16 (by decide) (fun h16 => ?_) (fun h16 => ?_)
        · omega
        · refine r_aload_n dX6_hashFirst_19 rfl ?_
          refine r_getf dX6_hashFirst_20 fX6_7 (by repeat first | exact wu_eq | assumption | (apply wu_ne; first | omega | assumption | (apply Ne.symm; assumption))) (by rfl) ?_
          refine r_iload_n dX6_hashFirst_23 rfl ?_
          refine r_gets dX6_hashFirst_24 (by decide) sX6_16 ?_
          refine r_iload_n dX6_hashFirst_27 rfl ?_
          refine r_iaload' dX6_hashFirst_28 (by repeat first | exact wu_eq | assumption | (apply wu_ne; first | omega | assumption | (apply Ne.symm; assumption))) (by rfl) _ rfl (by omega) (by omega) ?_
          refine r_iastore dX6_hashFirst_29 (by repeat first | exact wu_eq | assumption | (apply wu_ne; first | omega | assumption | (apply Ne.symm; assumption))) _ rfl (by omega) (by omega) ?_
          refine r_iinc (L0 := [(0, _), (1, _), (2, _)]) dX6_hashFirst_30 rfl (by first | exact iinc1 _ | rfl) (by decide) rfl ?_
          refine r_goto (tgt := 2) dX6_hashFirst_33 (by decide) ?_
          rw [wu_wu, fl_up]
          exact ih (i + 1) (by omega)
  refine ab_Ct.of (by decide +kernel) (Nat.le_of_ble_eq_true rfl) (by rintro _ _ _ ⟨_, rfl, -, -⟩; trivial) ?_
  show ab_St MX6_hashFirst g 0 0 0 [(0, .ref s), (1, .ref b), (2, .int (nI n))] [] _ _ _
  refine r_iconst (v := nI 0) dX6_hashFirst_0 (by decide) ?_
  refine r_istore_n (i := 3) (L0 := [(0, _), (1, _), (2, _)]) dX6_hashFirst_1 rfl (by decide) rfl ?_
  have h := A 8 0 (by omega)
  rw [fl_0, wu_self hst] at h
  exact h
set_option maxRecDepth 100000 in
set_option maxHeartbeats 4000000 in
theorem c_shaByte {g : ab_G} {N s q : Nat} {st : Nat → Int32} {w : ab_W} (hs : w s = shO s) (hst : w (s + 1) = aI 8 st) (hq : q < 32) : ab_Ct MX6_byteAt g [.ref s, .int (nI q)] N w (rp (some (.int (nI (hby st q)))) N w) := by
  have hu := u32_lt (st (q / 2 ^ 2))
  have hx : u32 (st (q / 2 ^ 2)) / 2 ^ (24 - 8 * (q % 2 ^ 2)) < 4294967296 := Nat.lt_of_le_of_lt (Nat.div_le_self _ _) hu
  refine ab_Ct.of (by decide +kernel) (Nat.le_of_ble_eq_true rfl) (by rintro _ _ _ ⟨rfl, rfl, rfl⟩; trivial) ?_
  show ab_St MX6_byteAt g 0 0 0 [(0, .ref s), (1, .int (nI q))] [] _ _ _
  refine r_iload_n dX6_byteAt_0 rfl ?_
  refine r_iconst (v := nI 2) dX6_byteAt_1 (by decide) ?_
  first | refine r_ishrN 2 (by decide) dX6_byteAt_2 (by omega) ?_ | refine r_ishr dX6_byteAt_2 ?_
  refine r_istore_n (i := 2) (L0 := [(0, _), (1, _)]) dX6_byteAt_3 rfl (by decide) rfl ?_
  refine r_iload_n dX6_byteAt_4 rfl ?_
  first | refine r_if_ltN (tgt := 17) dX6_byteAt_5 (by decide) (by omega) (fun h5 => ?_) | refine r_if_lt (tgt := 17) dX6_byteAt_5 (by decide) (fun h5 => ?_) (fun h5 => ?_)
  refine r_iload_n dX6_byteAt_8 rfl ?_
  refine r_aload_n dX6_byteAt_9 rfl ?_
  refine r_getf dX6_byteAt_10 fX6_7 (by repeat first | exact wu_eq | assumption | (apply wu_ne; first | omega | assumption | (apply Ne.symm; assumption))) (by rfl) ?_
  refine r_alen' dX6_byteAt_13 (by repeat first | exact wu_eq | assumption | (apply wu_ne; first | omega | assumption | (apply Ne.symm; assumption))) (by rfl) ?_
  first | refine r_icmp_ltN (tgt := 19) dX6_byteAt_14 (by decide) (by omega) (by omega) (fun h14 => ?_) (fun h14 => ?_) | refine r_icmp_lt (tgt := 19) dX6_byteAt_14 (by decide) (fun h14 => ?_) (fun h14 => ?_)
  · refine r_aload_n dX6_byteAt_19 rfl ?_
    refine r_getf dX6_byteAt_20 fX6_7 (by repeat first | exact wu_eq | assumption | (apply wu_ne; first | omega | assumption | (apply Ne.symm; assumption))) (by rfl) ?_
    refine r_iload_n dX6_byteAt_23 rfl ?_
    refine r_iaload' dX6_byteAt_24 (by repeat first | exact wu_eq | assumption | (apply wu_ne; first | omega | assumption | (apply Ne.symm; assumption))) (by rfl) _ rfl (by omega) (by omega) ?_
    refine r_toI (u32_nI _) ?_
    refine r_bipush (v := nI 24) dX6_byteAt_25 (by decide) ?_
    refine r_bipush (v := nI 8) dX6_byteAt_27 (by decide) ?_
    refine r_iload_n dX6_byteAt_29 rfl ?_
    refine r_iconst (v := nI 3) dX6_byteAt_30 (by decide) ?_
    first | refine r_iandN 2 (by decide) dX6_byteAt_31 (by omega) ?_ | refine r_iand dX6_byteAt_31 ?_
    first | refine r_imulN dX6_byteAt_32 ?_ | refine r_imul dX6_byteAt_32 ?_
    first | refine r_isubN dX6_byteAt_33 (by omega) ?_ | refine r_isub dX6_byteAt_33 ?_
    refine r_iushrN _ (by omega) dX6_byteAt_34 hu ?_
    refine r_sipush (v := nI 255) dX6_byteAt_35 (by decide) ?_
    refine r_iandN 8 (by decide) dX6_byteAt_38 hx ?_
    refine r_ret (r := (some (.int _))) dX6_byteAt_39 (by decide) (by decide) ?_
    exact ⟨rfl, rfl, rfl⟩
  · omega
set_option maxRecDepth 100000 in
set_option maxHeartbeats 4000000 in
theorem c_Sha_init {g : ab_G} {s : Nat} {w : ab_W} (hs : w s = aO 5 [.null, .null]) : ab_Ct MX6_init g [.ref s] (s + 1) w (fun r N' w' => r = none ∧ s + 3 = N' ∧ w' = wu (wu (wu w (s + 1) (aI 8 (fun _ => 0))) (s + 2) (aI 64 (fun _ => 0))) s (shO s)) := by
  refine ab_Ct.of (by decide +kernel) (Nat.le_of_ble_eq_true rfl) (by rintro _ _ _ ⟨rfl, -, -⟩; trivial) ?_
  show ab_St MX6_init g 0 0 0 [(0, .ref s)] [] _ _ _
  refine r_aload_n dX6_init_0 rfl ?_
  refine r_obj dX6_init_1 obX6 obI obC (by decide) (by decide) ?_
  refine r_aload_n dX6_init_4 rfl ?_
  refine r_bipush (v := nI 8) dX6_init_5 (by decide) ?_
  refine r_newaI dX6_init_7 rfl (by omega) arI (by decide) (by first | decide | (show _ ≤ 72; omega)) ?_
  refine r_putF dX6_init_9 fX6_7 (by repeat first | exact wu_eq | assumption | (apply wu_ne; first | omega | assumption | (apply Ne.symm; assumption))) rfl rfl rfl (by exact Nat.le_of_ble_eq_true rfl) (by rfl) (by rfl) ?_
  refine r_aload_n dX6_init_12 rfl ?_
  refine r_bipush (v := nI 64) dX6_init_13 (by decide) ?_
  refine r_newaI dX6_init_15 rfl (by omega) arI (by decide) (by first | decide | (show _ ≤ 72; omega)) ?_
  refine r_putF dX6_init_17 fX6_13 (by repeat first | exact wu_eq | assumption | (apply wu_ne; first | omega | assumption | (apply Ne.symm; assumption))) rfl rfl rfl (by exact Nat.le_of_ble_eq_true rfl) (by rfl) (by rfl) ?_
  refine r_ret (r := none) dX6_init_20 (by decide) (by first | decide | (show _ ≤ 72; omega)) ?_
  refine ⟨rfl, rfl, ?_⟩
  funext j
  simp only [wu]
  (repeat' split) <;> first | rfl | omega
