/-! SignHouse$Hunt: what is good; a candidate examined -/
theorem odd_uniq : ∀ {k k' m m' : Nat}, m * 2 ^ k = m' * 2 ^ k' → m % 2 = 1 → m' % 2 = 1 → k = k' ∧ m = m'
  | 0, 0, m, m', h, _, _ => ⟨rfl, by simpa using h⟩
  | 0, k' + 1, m, m', h, h1, _ => by
    exfalso
    rw [Nat.pow_zero, Nat.mul_one, Nat.pow_succ, ← Nat.mul_assoc] at h
    omega
  | k + 1, 0, m, m', h, _, h2 => by
    exfalso
    rw [Nat.pow_zero, Nat.mul_one, Nat.pow_succ, ← Nat.mul_assoc] at h
    omega
  | k + 1, k' + 1, m, m', h, h1, h2 => by
    rw [Nat.pow_succ, Nat.pow_succ, ← Nat.mul_assoc, ← Nat.mul_assoc] at h
    obtain ⟨e1, e2⟩ := odd_uniq (k := k) (k' := k') (m := m) (m' := m') (by omega) h1 h2
    exact ⟨by omega, e2⟩
/-- the candidate passes by a -/
def MRC (C a : Nat) : Prop := ∃ k m, C - 1 = m * 2 ^ k ∧ m % 2 = 1 ∧ MRB C k m a
theorem MRC_iff {C a k m : Nat} (h : C - 1 = m * 2 ^ k) (hm : m % 2 = 1) : MRC C a ↔ MRB C k m a := by
  constructor
  · rintro ⟨k', m', h', hm', hb⟩
    obtain ⟨rfl, rfl⟩ := odd_uniq (h.symm.trans h') hm hm'
    exact hb
  · intro hb
    exact ⟨k, m, h, hm, hb⟩
def TZ (C k m : Nat) : Prop := C - 1 = m * 2 ^ k ∧ m % 2 = 1
def G2 (C pf fi : Nat) : Prop := C % 65537 ≠ 1 ∧ ¬ (0 < pf ∧ C = fi)
/-- a good candidate, pf primes being found, fi the first -/
def GD (C rounds pf fi : Nat) : Prop := C % 65537 ≠ 1 ∧ ¬ (0 < pf ∧ C = fi) ∧ ∀ i, i < rounds → MRC C (bse i)
/-- the rows that a candidate's rounds use -/
def RW3 (w : ab_W) (W : Nat) : Prop := ∃ cl op rs, w 23 = aN W cl ∧ w 24 = aN W op ∧ w 25 = aN W rs ∧ cl < 4294967296 ^ W ∧ op < 4294967296 ^ W ∧ rs < 4294967296 ^ W
set_option maxRecDepth 100000 in
set_option maxHeartbeats 1000000 in
theorem c_isGood {g : ab_G} {N half rounds bg pf ex un W C fi : Nat} {w : ab_W} (h13 : w 13 = huO half rounds bg pf ex un) (h22 : w 22 = aN W C) (h26 : w 26 = aN W fi) (hM : MSH w 14 W) (hR : RW3 w W) (hW : W ≤ 20) (hC : C < 4294967296 ^ W) (hodd : C % 2 = 1) (hbig : 100 < C) (hfi : fi < 4294967296 ^ W) (hr : rounds ≤ 8) (hpf : pf ≤ 2) (hx3 : w 3 = xI 8 sBs) : ab_Ct MX1_isGood g [.ref 13] N w (fun r N' w' => ∃ b, b < 2 ∧ (b = 1 ↔ GD C rounds pf fi) ∧ MSH w' 14 W ∧ RW3 w' W ∧ (∀ j, (j < 14 ∨ (21 < j ∧ j < 23) ∨ 25 < j) → w' j = w j) ∧ r = some (.int (nI b)) ∧ N = N') := by
  obtain ⟨cl, op, rs, h23, h24, h25, b23, b24, b25⟩ := id hR
  have hC1 : C - 1 < 4294967296 ^ W := by omega
  have hW1 : 1 ≤ W := by
    obtain ⟨_, _, _, _, _, _, _, _, _, _, _, _, _, _, _, _, _, _, _, _, _, _, _, h, _⟩ := hM
    exact h
  have K : ∀ n i k m w2 rs2, i + n = rounds → TZ C k m → k < 32000 → m < 4294967296 ^ W → G2 C pf fi → (∀ j, j < i → MRC C (bse j)) → MOK w2 14 W C → w2 23 = aN W (C - 1) → w2 24 = aN W m → w2 25 = aN W rs2 → rs2 < 4294967296 ^ W → (∀ j, (j < 14 ∨ (21 < j ∧ j < 23) ∨ 25 < j) → w2 j = w j) → ab_St MX1_isGood g 0 0 90 [(2, .int (nI i)), (1, .int (nI k)), (0, .ref 13)] [] N w2 (fun r N' w' => ∃ b, b < 2 ∧ (b = 1 ↔ GD C rounds pf fi) ∧ MSH w' 14 W ∧ RW3 w' W ∧ (∀ j, (j < 14 ∨ (21 < j ∧ j < 23) ∨ 25 < j) → w' j = w j) ∧ r = some (.int (nI b)) ∧ N = N') := by
    intro n
    induction n with
    | zero =>
      intro i k m w2 rs2 hi hz hk hml gg g3 d14 e23 e24 e25 hrs2 hfr
      have e13 := (hfr 13 (by decide)).trans h13
      refine r_iload_n dX1_isGood_90 rfl ?_
      refine r_aload_n dX1_isGood_91 rfl ?_
      refine r_getf dX1_isGood_92 fX1_17 (by repeat first | exact wu_eq | assumption | (apply wu_ne; first | omega | assumption | (apply Ne.symm; assumption))) (by rfl) ?_
      first | refine r_icmp_geN (tgt := 127) dX1_isGood_95 (by decide) (by omega) (by omega) (fun h95 => ?_) (fun h95 => ?_) | refine r_icmp_ge (tgt := 127) dX1_isGood_95 (by decide) (fun h95 => ?_) (fun h95 => ?_)
      · refine r_iconst (v := nI 1) dX1_isGood_127 (by decide) ?_
        refine r_ret (r := (some (.int _))) dX1_isGood_128 (by decide) (by decide) ?_
        obtain rfl : i = rounds := by omega
        exact ⟨1, by decide, ⟨fun _ => ⟨gg.1, gg.2, g3⟩, fun _ => rfl⟩, d14.sh, ⟨C - 1, m, rs2, e23, e24, e25, hC1, hml, hrs2⟩, hfr, rfl, rfl⟩
      · omega
    | succ n ih =>
      intro i k m w2 rs2 hi hz hk hml gg g3 d14 e23 e24 e25 hrs2 hfr
      have e13 := (hfr 13 (by decide)).trans h13
      have e3 := (hfr 3 (by decide)).trans hx3
      obtain ⟨p1, p2⟩ := bse_in i (by omega)
      refine r_iload_n dX1_isGood_90 rfl ?_
      refine r_aload_n dX1_isGood_91 rfl ?_
      refine r_getf dX1_isGood_92 fX1_17 (by repeat first | exact wu_eq | assumption | (apply wu_ne; first | omega | assumption | (apply Ne.symm; assumption))) (by rfl) ?_
      first | refine r_icmp_geN (tgt := 127) dX1_isGood_95 (by decide) (by omega) (by omega) (fun h95 => ?_) (fun h95 => ?_) | refine r_icmp_ge (tgt := 127) dX1_isGood_95 (by decide) (fun h95 => ?_) (fun h95 => ?_)
      · omega
      · refine r_iload_n dX1_isGood_98 rfl ?_
        refine r_gets dX1_isGood_99 (by decide) sX1_120 ?_
        refine r_alen' dX1_isGood_102 (by repeat first | exact wu_eq | assumption | (apply wu_ne; first | omega | assumption | (apply Ne.symm; assumption))) (by rfl) ?_
        first | refine r_icmp_geN (tgt := 127) dX1_isGood_103 (by decide) (by omega) (by omega) (fun h103 => ?_) (fun h103 => ?_) | refine r_icmp_ge (tgt := 127) dX1_isGood_103 (by decide) (fun h103 => ?_) (fun h103 => ?_)
        · omega
        · refine r_aload_n dX1_isGood_106 rfl ?_
          refine r_gets dX1_isGood_107 (by decide) sX1_120 ?_
          refine r_iload_n dX1_isGood_110 rfl ?_
          refine r_iaload' dX1_isGood_111 (by repeat first | exact wu_eq | assumption | (apply wu_ne; first | omega | assumption | (apply Ne.symm; assumption))) (by rfl) _ rfl (by omega) (by omega) ?_
          rw [show sBs i = nI (bse i) from rfl]
          refine r_iload_n dX1_isGood_112 rfl ?_
          refine r_invV dX1_isGood_113 kX1_123 (c_passes (W := W) (C := C) (k := k) (m := m) (a := bse i) (rs := rs2) e13 d14 e23 e24 e25 hrs2 hml hW1 hW (by omega) (by omega) hk hC) rfl rfl (by repeat first | exact wu_eq | assumption | (apply wu_ne; first | omega | assumption | (apply Ne.symm; assumption))) rfl rfl ⟨by decide, by decide⟩ (Nat.le_of_ble_eq_true rfl) ⟨by decide, by decide⟩ ⟨rfl, rfl⟩ ?_
          rintro _ _ w3 ⟨b, rs3, hb, hbi, d3, f25, hrs3, hf3, rfl, rfl⟩
          have hfr3 : ∀ j, (j < 14 ∨ (21 < j ∧ j < 23) ∨ 25 < j) → w3 j = w j := fun j h => (hf3 j (by omega) (by omega)).trans (hfr j h)
          have f23 := (hf3 23 (by decide) (by decide)).trans e23
          have f24 := (hf3 24 (by decide) (by decide)).trans e24
          first | refine r_if_neN (tgt := 121) dX1_isGood_116 (by decide) (by omega) (fun h116 => ?_) (fun h116 => ?_) | refine r_if_ne (tgt := 121) dX1_isGood_116 (by decide) (fun h116 => ?_) (fun h116 => ?_)
          · refine r_iinc (L0 := [(1, _), (0, _)]) dX1_isGood_121 rfl (by first | exact iinc1 _ | rfl) (by decide) rfl ?_
            refine r_goto (tgt := 90) dX1_isGood_124 (by decide) ?_
            have hb1 : b = 1 := by omega
            refine ih (i + 1) k m w3 rs3 (by omega) hz hk hml gg ?_ d3 f23 f24 f25 hrs3 hfr3
            intro j hj
            by_cases h : j = i
            · rw [h]
              exact (MRC_iff hz.1 hz.2).mpr (hbi.mp hb1)
            · exact g3 j (by omega)
          · refine r_iconst (v := nI 0) dX1_isGood_119 (by decide) ?_
            refine r_ret (r := (some (.int _))) dX1_isGood_120 (by decide) (by decide) ?_
            refine ⟨0, by decide, Iff.intro (fun h => absurd h (by decide)) (fun h => ?_), d3.sh, ⟨C - 1, m, rs3, f23, f24, f25, hC1, hml, hrs3⟩, hfr3, rfl, rfl⟩
            have h2 := hbi.mpr ((MRC_iff hz.1 hz.2).mp (h.2.2 i (by omega)))
            omega
  -- behind the tests of the remainder and of the first prime
  have K39 : G2 C pf fi → ab_St MX1_isGood g 0 0 39 [(0, .ref 13)] [] N w (fun r N' w' => ∃ b, b < 2 ∧ (b = 1 ↔ GD C rounds pf fi) ∧ MSH w' 14 W ∧ RW3 w' W ∧ (∀ j, (j < 14 ∨ (21 < j ∧ j < 23) ∨ 25 < j) → w' j = w j) ∧ r = some (.int (nI b)) ∧ N = N') := by
    intro gg
    refine r_aload_n dX1_isGood_39 rfl ?_
    refine r_getf dX1_isGood_40 fX1_39 (by repeat first | exact wu_eq | assumption | (apply wu_ne; first | omega | assumption | (apply Ne.symm; assumption))) (by rfl) ?_
    refine r_aload_n dX1_isGood_43 rfl ?_
    refine r_getf dX1_isGood_44 fX1_35 (by repeat first | exact wu_eq | assumption | (apply wu_ne; first | omega | assumption | (apply Ne.symm; assumption))) (by rfl) ?_
    refine r_invS dX1_isGood_47 kX1_77 (c_copy (n := W) (m := W) (u := cl) (v := C) (by omega) h23 h22 (by omega) (by omega) b23 hC) rfl rfl ⟨by decide, by decide⟩ (Nat.le_of_ble_eq_true rfl) ⟨by decide, by decide⟩ ⟨rfl, rfl⟩ ?_
    rintro _ _ _ ⟨rfl, rfl, rfl⟩
    rw [Nat.mod_eq_of_lt hC]
    refine r_aload_n dX1_isGood_50 rfl ?_
    refine r_getf dX1_isGood_51 fX1_39 (by repeat first | exact wu_eq | assumption | (apply wu_ne; first | omega | assumption | (apply Ne.symm; assumption))) (by rfl) ?_
    refine r_lconst (v := lN 1) dX1_isGood_54 (by decide) ?_
    refine r_invS dX1_isGood_55 kX1_108 (c_lessen (n := W) (u := C) (y := 1) wu_eq (by omega) hC (by decide) (by omega)) rfl rfl ⟨by decide, by decide⟩ (Nat.le_of_ble_eq_true rfl) ⟨by decide, by decide⟩ ⟨rfl, rfl⟩ ?_
    rintro _ _ _ ⟨rfl, rfl, rfl⟩
    rw [wu_wu]
    refine r_aload_n dX1_isGood_58 rfl ?_
    refine r_getf dX1_isGood_59 fX1_42 (by repeat first | exact wu_eq | assumption | (apply wu_ne; first | omega | assumption | (apply Ne.symm; assumption))) (by rfl) ?_
    refine r_aload_n dX1_isGood_62 rfl ?_
    refine r_getf dX1_isGood_63 fX1_39 (by repeat first | exact wu_eq | assumption | (apply wu_ne; first | omega | assumption | (apply Ne.symm; assumption))) (by rfl) ?_
    refine r_invS dX1_isGood_66 kX1_77 (c_copy (n := W) (m := W) (u := op) (v := C - 1) (by omega) (by repeat first | exact wu_eq | assumption | (apply wu_ne; first | omega | assumption | (apply Ne.symm; assumption))) (by repeat first | exact wu_eq | assumption | (apply wu_ne; first | omega | assumption | (apply Ne.symm; assumption))) (by omega) (by omega) b24 (by omega)) rfl rfl ⟨by decide, by decide⟩ (Nat.le_of_ble_eq_true rfl) ⟨by decide, by decide⟩ ⟨rfl, rfl⟩ ?_
    rintro _ _ _ ⟨rfl, rfl, rfl⟩
    rw [Nat.mod_eq_of_lt hC1]
    refine r_aload_n dX1_isGood_69 rfl ?_
    refine r_getf dX1_isGood_70 fX1_42 (by repeat first | exact wu_eq | assumption | (apply wu_ne; first | omega | assumption | (apply Ne.symm; assumption))) (by rfl) ?_
    refine r_invS dX1_isGood_73 kX1_112 (c_halveUntilOdd (n := W) (u := C - 1) wu_eq hW1 (by omega) (by omega) (by omega)) rfl rfl ⟨by decide, by decide⟩ (Nat.le_of_ble_eq_true rfl) ⟨by decide, by decide⟩ ⟨rfl, rfl⟩ ?_
    rintro _ _ _ ⟨k, m, hkm, hm, hk, rfl, rfl, rfl⟩
    have hml : m < 4294967296 ^ W := by
      have h := Nat.mul_le_mul_left m (Nat.two_pow_pos k)
      omega
    rw [wu_wu]
    have hM2 : MSH (wu (wu w 23 (aN W (C - 1))) 24 (aN W m)) 14 W := hM.keep fun j h1 h2 => wu_ne (by omega) (wu_ne (by omega) rfl)
    obtain ⟨_, _, _, _, _, _, _, _, e14, -⟩ := id hM2
    refine r_istore_n (i := 1) (L0 := [(0, _)]) dX1_isGood_76 rfl (by decide) rfl ?_
    refine r_aload_n dX1_isGood_77 rfl ?_
    refine r_getf dX1_isGood_78 fX1_31 (by repeat first | exact wu_eq | assumption | (apply wu_ne; first | omega | assumption | (apply Ne.symm; assumption))) (by rfl) ?_
    refine r_aload_n dX1_isGood_81 rfl ?_
    refine r_getf dX1_isGood_82 fX1_35 (by repeat first | exact wu_eq | assumption | (apply wu_ne; first | omega | assumption | (apply Ne.symm; assumption))) (by rfl) ?_
    refine r_invV dX1_isGood_85 kX1_116 (c_choose (W := W) (c := C) (o := 22) hM2 (by repeat first | exact wu_eq | assumption | (apply wu_ne; first | omega | assumption | (apply Ne.symm; assumption))) (by omega) hodd (by omega) hC) rfl rfl (by repeat first | exact wu_eq | assumption | (apply wu_ne; first | omega | assumption | (apply Ne.symm; assumption))) rfl rfl ⟨by decide, by decide⟩ (Nat.le_of_ble_eq_true rfl) ⟨by decide, by decide⟩ ⟨rfl, rfl⟩ ?_
    rintro _ _ w2 ⟨d2, hf2, rfl, rfl⟩
    have e13 : w2 13 = huO half rounds bg pf ex un := (hf2 13 (by decide) (by decide)).trans (wu_ne (by omega) (wu_ne (by omega) h13))
    refine r_iconst (v := nI 0) dX1_isGood_88 (by decide) ?_
    refine r_istore_n (i := 2) (L0 := [(1, _), (0, _)]) dX1_isGood_89 rfl (by decide) rfl ?_
    refine K rounds 0 k m w2 rs (Nat.zero_add _) ⟨hkm, hm⟩ hk hml gg (fun j hj => absurd hj (Nat.not_lt_zero j)) d2 ?_ ?_ ?_ b25 ?_
    · exact (hf2 23 (by decide) (by decide)).trans (wu_ne (by omega) wu_eq)
    · exact (hf2 24 (by decide) (by decide)).trans wu_eq
    · exact (hf2 25 (by decide) (by decide)).trans (wu_ne (by omega) (wu_ne (by omega) h25))
    · intro j hj
      exact (hf2 j (by omega) (by omega)).trans (wu_ne (by omega) (wu_ne (by omega) rfl))
  refine ab_Ct.of (by decide +kernel) (Nat.le_of_ble_eq_true rfl) (by rintro _ _ _ ⟨b, hb, -, -, -, -, rfl, -⟩; exact nI_zk hb) ?_
  show ab_St MX1_isGood g 0 0 0 [(0, .ref 13)] [] _ _ _
  refine r_aload_n dX1_isGood_0 rfl ?_
  refine r_getf dX1_isGood_1 fX1_35 (by repeat first | exact wu_eq | assumption | (apply wu_ne; first | omega | assumption | (apply Ne.symm; assumption))) (by rfl) ?_
  refine r_ldc dX1_isGood_4 qX1_103 ?_
  refine r_toI (y := nI 65537) rfl ?_
  have hrm : C % 65537 < 65537 := Nat.mod_lt _ (by decide)
  refine r_invS dX1_isGood_6 kX1_97 (c_remainder (n := W) (u := C) (d := 65537) h22 (by omega) hC (by decide) (by decide)) rfl rfl ⟨by decide, by decide⟩ (Nat.le_of_ble_eq_true rfl) ⟨by decide, by decide⟩ ⟨rfl, rfl⟩ ?_
  rintro _ _ _ ⟨rfl, rfl, rfl⟩
  refine r_lconst (v := lN 1) dX1_isGood_9 (by decide) ?_
  first | refine r_lcmp_neN (tgt := 16) dX1_isGood_10 dX1_isGood_11 (by decide) (by omega) (by omega) (fun h10 => ?_) (fun h10 => ?_) | refine r_lcmp_ne (tgt := 16) dX1_isGood_10 dX1_isGood_11 (by decide) (fun h10 => ?_) (fun h10 => ?_)
  · refine r_aload_n dX1_isGood_16 rfl ?_
    refine r_getf dX1_isGood_17 fX1_58 (by repeat first | exact wu_eq | assumption | (apply wu_ne; first | omega | assumption | (apply Ne.symm; assumption))) (by rfl) ?_
    first | refine r_if_leN (tgt := 39) dX1_isGood_20 (by decide) (by omega) (fun h20 => ?_) (fun h20 => ?_) | refine r_if_le (tgt := 39) dX1_isGood_20 (by decide) (fun h20 => ?_) (fun h20 => ?_)
    · exact K39 ⟨h10, fun h => absurd h.1 (Nat.not_lt.mpr (Nat.le_of_eq h20))⟩
    · refine r_aload_n dX1_isGood_23 rfl ?_
      refine r_getf dX1_isGood_24 fX1_35 (by repeat first | exact wu_eq | assumption | (apply wu_ne; first | omega | assumption | (apply Ne.symm; assumption))) (by rfl) ?_
      refine r_aload_n dX1_isGood_27 rfl ?_
      refine r_getf dX1_isGood_28 fX1_48 (by repeat first | exact wu_eq | assumption | (apply wu_ne; first | omega | assumption | (apply Ne.symm; assumption))) (by rfl) ?_
      refine r_invS dX1_isGood_31 kX1_104 (c_order (n := W) (u := C) (v := fi) h22 h26 (by omega) hC hfi) rfl rfl ⟨by decide, by decide⟩ (Nat.le_of_ble_eq_true rfl) ⟨by decide, by decide⟩ ⟨rfl, rfl⟩ ?_
      rintro _ _ _ ⟨rfl, rfl, rfl⟩
      refine r_if_ne (tgt := 39) dX1_isGood_34 (by decide) (fun h34 => ?_) (fun h34 => ?_)
      · exact K39 ⟨h10, fun h => h34 (ord0.mpr h.2)⟩
      · refine r_iconst (v := nI 0) dX1_isGood_37 (by decide) ?_
        refine r_ret (r := (some (.int _))) dX1_isGood_38 (by decide) (by decide) ?_
        refine ⟨0, by decide, Iff.intro (fun h => absurd h (by decide)) (fun h => absurd ⟨h20, ord0.mp h34⟩ h.2.1), hM, hR, fun _ _ => rfl, rfl, rfl⟩
  · refine r_iconst (v := nI 0) dX1_isGood_14 (by decide) ?_
    refine r_ret (r := (some (.int _))) dX1_isGood_15 (by decide) (by decide) ?_
    exact ⟨0, by decide, Iff.intro (fun h => absurd h (by decide)) (fun h => absurd h10 h.1), hM, hR, fun _ _ => rfl, rfl, rfl⟩
