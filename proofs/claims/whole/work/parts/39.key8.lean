/-! SignHouse$KeyRows: a key made -/
/-- the key of p and q in order -/
def KOK (w : ab_W) (W p q : Nat) : Prop := KN w W (p * q) (dE ((p - 1) * (q - 1))) p q (dE (p - 1)) (dE (q - 1)) (q ^ (p - 2) % p) ∧ MOK w 29 (2 * W) (p * q) ∧ MOK w 37 W p ∧ MOK w 45 W q
set_option maxRecDepth 100000 in
set_option maxHeartbeats 4000000 in
theorem c_make {g : ab_G} {N made W n d p q dP dQ qI fi se a b : Nat} {w : ab_W} (h : w 28 = krO made) (hK : KN w W n d p q dP dQ qI) (hT : KT w W) (m1 : MSH w 29 (2 * W)) (m2 : MSH w 37 W) (m3 : MSH w 45 W) (ha : w a = aN W fi) (hb : w b = aN W se) (hf : fi < 4294967296 ^ W) (hs : se < 4294967296 ^ W) (hf1 : 1 < fi) (hs1 : 1 < se) (hf2 : fi % 2 = 1) (hs2 : se % 2 = 1) (hne : fi ≠ se) (ha1 : a < 28) (hb1 : b < 28) (hW : 1 ≤ W) (hW2 : W ≤ 10) : ab_Ct MX2_make g [.ref 28, .ref a, .ref b] N w (fun r N' w' => w' 28 = krO 1 ∧ KOK w' W (max fi se) (min fi se) ∧ KT w' W ∧ (∀ k, (k < 28 ∨ 65 < k) → w' k = w k) ∧ r = none ∧ N = N') := by
  obtain ⟨n53, n54, n55, n56, n57, n58, n59, b53, b54, b55, b56, b57, b58, b59⟩ := hK
  have T : ∀ (P Q : Nat) (w1 : ab_W), P < 4294967296 ^ W → Q < 4294967296 ^ W → 1 < Q → Q < P → P % 2 = 1 → Q % 2 = 1 → w1 55 = aN W P → w1 56 = aN W Q → (∀ k, k ≠ 55 → k ≠ 56 → w1 k = w k) → ab_St MX2_make g 0 0 46 [(0, .ref 28)] [] N w1 (fun r N' w' => w' 28 = krO 1 ∧ KOK w' W P Q ∧ KT w' W ∧ (∀ k, (k < 28 ∨ 65 < k) → w' k = w k) ∧ r = none ∧ N = N') := by
    intro P Q w1 hP hQ hQ1 hQP hP2 hQ2 e55 e56 H
    have hpq : P * Q < 4294967296 ^ (2 * W) := by
      rw [show 2 * W = W + W by omega, Nat.pow_add]
      exact Nat.mul_lt_mul'' hP hQ
    have hodd : P * Q % 2 = 1 := by rw [Nat.mul_mod, hP2, hQ2]
    have hpq1 : 1 < P * Q := Nat.lt_of_lt_of_le hQ1 (Nat.le_mul_of_pos_left Q (by omega))
    obtain ⟨i1, -, -, -, -, -, -, -, k29, -⟩ := id m1
    obtain ⟨i2, -, -, -, -, -, -, -, k37, -⟩ := id m2
    obtain ⟨i3, -, -, -, -, -, -, -, k45, -⟩ := id m3
    have e28 := (H 28 (by decide) (by decide)).trans h
    have e29 := (H 29 (by decide) (by decide)).trans k29
    have e53 := (H 53 (by decide) (by decide)).trans n53
    refine r_aload_n dX2_make_46 rfl ?_
    refine r_getf dX2_make_47 fX2_30 (by repeat first | exact wu_eq | assumption | (apply wu_ne; first | omega | assumption | (apply Ne.symm; assumption))) (by rfl) ?_
    refine r_aload_n dX2_make_50 rfl ?_
    refine r_getf dX2_make_51 fX2_37 (by repeat first | exact wu_eq | assumption | (apply wu_ne; first | omega | assumption | (apply Ne.symm; assumption))) (by rfl) ?_
    refine r_aload_n dX2_make_54 rfl ?_
    refine r_getf dX2_make_55 fX2_40 (by repeat first | exact wu_eq | assumption | (apply wu_ne; first | omega | assumption | (apply Ne.symm; assumption))) (by rfl) ?_
    refine r_invS dX2_make_58 kX2_84 (c_multiply (n := 2 * W) (lb := W) (lc := W) (u := n) (vb := P) (vc := Q) (by decide) (by decide) e53 e55 e56 (by omega) (by omega) b53 hP hQ) rfl rfl ⟨by decide, by decide⟩ (Nat.le_of_ble_eq_true rfl) ⟨by decide, by decide⟩ ⟨rfl, rfl⟩ ?_
    rintro _ _ _ ⟨rfl, rfl, rfl⟩
    refine r_aload_n dX2_make_61 rfl ?_
    refine r_getf dX2_make_62 fX2_18 (by repeat first | exact wu_eq | assumption | (apply wu_ne; first | omega | assumption | (apply Ne.symm; assumption))) (by rfl) ?_
    refine r_aload_n dX2_make_65 rfl ?_
    refine r_getf dX2_make_66 fX2_30 (by repeat first | exact wu_eq | assumption | (apply wu_ne; first | omega | assumption | (apply Ne.symm; assumption))) (by rfl) ?_
    refine r_invV dX2_make_69 kX2_88 (c_choose (W := 2 * W) (c := P * Q) ((m1.keep fun k a b ↦ H k (by omega) (by omega)).keep fun k a b ↦ wu_ne (by omega) rfl) wu_eq (Or.inr (by decide)) hodd hpq1 hpq) rfl rfl (by repeat first | exact wu_eq | assumption | (apply wu_ne; first | omega | assumption | (apply Ne.symm; assumption))) rfl rfl ⟨by decide, by decide⟩ (Nat.le_of_ble_eq_true rfl) ⟨by decide, by decide⟩ ⟨rfl, rfl⟩ ?_
    rintro _ _ w2 ⟨M1, F1, rfl, rfl⟩
    have G2 : ∀ k, 36 < k → k ≠ 53 → w2 k = w1 k := fun k a b => (F1 k (by omega) (by omega)).trans (wu_ne b rfl)
    have f28 := (F1 28 (by decide) (by decide)).trans ((wu_ne (by decide) rfl).trans e28)
    have f37 := (G2 37 (by decide) (by decide)).trans ((H 37 (by decide) (by decide)).trans k37)
    refine r_aload_n dX2_make_72 rfl ?_
    refine r_getf dX2_make_73 fX2_24 (by repeat first | exact wu_eq | assumption | (apply wu_ne; first | omega | assumption | (apply Ne.symm; assumption))) (by rfl) ?_
    refine r_aload_n dX2_make_76 rfl ?_
    refine r_getf dX2_make_77 fX2_37 (by repeat first | exact wu_eq | assumption | (apply wu_ne; first | omega | assumption | (apply Ne.symm; assumption))) (by rfl) ?_
    refine r_invV dX2_make_80 kX2_88 (c_choose (W := W) (c := P) (m2.keep fun k a b ↦ (G2 k (by omega) (by omega)).trans (H k (by omega) (by omega))) ((G2 55 (by decide) (by decide)).trans e55) (Or.inr (by decide)) hP2 (by omega) hP) rfl rfl (by repeat first | exact wu_eq | assumption | (apply wu_ne; first | omega | assumption | (apply Ne.symm; assumption))) rfl rfl ⟨by decide, by decide⟩ (Nat.le_of_ble_eq_true rfl) ⟨by decide, by decide⟩ ⟨rfl, rfl⟩ ?_
    rintro _ _ w3 ⟨M2, F2, rfl, rfl⟩
    have G3 : ∀ k, 44 < k → k ≠ 53 → w3 k = w1 k := fun k a b => (F2 k (by omega) (by omega)).trans (G2 k (by omega) b)
    have g28 := (F2 28 (by decide) (by decide)).trans f28
    have g45 := (G3 45 (by decide) (by decide)).trans ((H 45 (by decide) (by decide)).trans k45)
    refine r_aload_n dX2_make_83 rfl ?_
    refine r_getf dX2_make_84 fX2_27 (by repeat first | exact wu_eq | assumption | (apply wu_ne; first | omega | assumption | (apply Ne.symm; assumption))) (by rfl) ?_
    refine r_aload_n dX2_make_87 rfl ?_
    refine r_getf dX2_make_88 fX2_40 (by repeat first | exact wu_eq | assumption | (apply wu_ne; first | omega | assumption | (apply Ne.symm; assumption))) (by rfl) ?_
    refine r_invV dX2_make_91 kX2_88 (c_choose (W := W) (c := Q) (m3.keep fun k a b ↦ (G3 k (by omega) (by omega)).trans (H k (by omega) (by omega))) ((G3 56 (by decide) (by decide)).trans e56) (Or.inr (by decide)) hQ2 hQ1 hQ) rfl rfl (by repeat first | exact wu_eq | assumption | (apply wu_ne; first | omega | assumption | (apply Ne.symm; assumption))) rfl rfl ⟨by decide, by decide⟩ (Nat.le_of_ble_eq_true rfl) ⟨by decide, by decide⟩ ⟨rfl, rfl⟩ ?_
    rintro _ _ w4 ⟨M3, F3, rfl, rfl⟩
    have G4 : ∀ k, 52 < k → k ≠ 53 → w4 k = w1 k := fun k a b => (F3 k (by omega) (by omega)).trans (G3 k (by omega) b)
    have h28 := (F3 28 (by decide) (by decide)).trans g28
    have M2' : MOK w4 37 W P := M2.keep fun k a b => F3 k (by omega) (by omega)
    have M1' : MOK w4 29 (2 * W) (P * Q) := M1.keep fun k a b => (F3 k (by omega) (by omega)).trans (F2 k (by omega) (by omega))
    have h53 : w4 53 = aN (2 * W) (P * Q) := (F3 53 (by decide) (by decide)).trans ((F2 53 (by decide) (by decide)).trans ((F1 53 (by decide) (by decide)).trans wu_eq))
    have Gw : ∀ k, 52 < k → k ≠ 53 → k ≠ 55 → k ≠ 56 → w4 k = w k := fun k a b c d => (G4 k a b).trans (H k c d)
    have K4 : KN w4 W (P * Q) d P Q dP dQ qI := ⟨h53, (Gw 54 (by decide) (by decide) (by decide) (by decide)).trans n54, (G4 55 (by decide) (by decide)).trans e55, (G4 56 (by decide) (by decide)).trans e56, (Gw 57 (by decide) (by decide) (by decide) (by decide)).trans n57, (Gw 58 (by decide) (by decide) (by decide) (by decide)).trans n58, (Gw 59 (by decide) (by decide) (by decide) (by decide)).trans n59, hpq, b54, hP, hQ, b57, b58, b59⟩
    have T4 : KT w4 W := hT.keep fun k a b => Gw k (by omega) (by omega) (by omega) (by omega)
    have L4 : ∀ k, (k < 28 ∨ 65 < k) → w4 k = w k := fun k hk => (F3 k (by omega) (by omega)).trans ((F2 k (by omega) (by omega)).trans ((F1 k (by omega) (by omega)).trans ((wu_ne (by omega) rfl).trans (H k (by omega) (by omega)))))
    refine r_aload_n dX2_make_94 rfl ?_
    refine r_invV dX2_make_95 kX2_92 (c_findPrivateNumbers h28 K4 T4 (by omega) (by omega) hW hW2) rfl rfl (by repeat first | exact wu_eq | assumption | (apply wu_ne; first | omega | assumption | (apply Ne.symm; assumption))) rfl rfl ⟨by decide, by decide⟩ (Nat.le_of_ble_eq_true rfl) ⟨by decide, by decide⟩ ⟨rfl, rfl⟩ ?_
    rintro _ _ w5 ⟨K5, T5, F5, rfl, rfl⟩
    have i28 := (F5 28 (by decide)).trans h28
    refine r_aload_n dX2_make_98 rfl ?_
    refine r_invV dX2_make_99 kX2_95 (c_findInverseOfQ i28 (M2'.keep fun k a b ↦ F5 k (by omega)) K5 T5 (by omega) hQP hW hW2) rfl rfl (by repeat first | exact wu_eq | assumption | (apply wu_ne; first | omega | assumption | (apply Ne.symm; assumption))) rfl rfl ⟨by decide, by decide⟩ (Nat.le_of_ble_eq_true rfl) ⟨by decide, by decide⟩ ⟨rfl, rfl⟩ ?_
    rintro _ _ w6 ⟨K6, T6, M6, F6, rfl, rfl⟩
    have j28 := (F6 28 (by decide) (by decide)).trans i28
    refine r_aload_n dX2_make_102 rfl ?_
    refine r_iconst (v := nI 1) dX2_make_103 (by decide) ?_
    refine r_putf dX2_make_104 fX2_70 (by repeat first | exact wu_eq | assumption | (apply wu_ne; first | omega | assumption | (apply Ne.symm; assumption))) rfl (by exact Nat.le_of_ble_eq_true rfl) (by rfl) (by rfl) ?_
    refine r_ret (r := none) dX2_make_107 (by decide) (by decide) ?_
    refine ⟨wu_eq, ⟨K6.keep fun k a b => wu_ne (by omega) rfl, M1'.keep fun k a b => ?_, M6.keep fun k a b => wu_ne (by omega) rfl, M3.keep fun k a b => ?_⟩, T6.keep fun k a b => wu_ne (by omega) rfl, fun k hk => ?_, rfl, rfl⟩
    · exact (wu_ne (by omega) rfl).trans ((F6 k (by omega) (by omega)).trans (F5 k (by omega)))
    · exact (wu_ne (by omega) rfl).trans ((F6 k (by omega) (by omega)).trans (F5 k (by omega)))
    · exact (wu_ne (by omega) rfl).trans ((F6 k (by omega) (by omega)).trans ((F5 k (by omega)).trans (L4 k hk)))
  have hfm : fi % 4294967296 ^ W = fi := Nat.mod_eq_of_lt hf
  have hsm : se % 4294967296 ^ W = se := Nat.mod_eq_of_lt hs
  refine ab_Ct.of (by decide +kernel) (Nat.le_of_ble_eq_true rfl) (by rintro _ _ _ ⟨-, -, -, -, rfl, -⟩; trivial) ?_
  show ab_St MX2_make g 0 0 0 [(0, .ref 28), (1, .ref a), (2, .ref b)] [] _ _ _
  refine r_aload_n dX2_make_0 rfl ?_
  refine r_aload_n dX2_make_1 rfl ?_
  refine r_invS dX2_make_2 kX2_74 (c_order (n := W) (u := fi) (v := se) ha hb (by omega) hf hs) rfl rfl ⟨by decide, by decide⟩ (Nat.le_of_ble_eq_true rfl) ⟨by decide, by decide⟩ ⟨rfl, rfl⟩ ?_
  rintro _ _ _ ⟨rfl, rfl, rfl⟩
  refine r_if_lt (tgt := 12) dX2_make_5 (by decide) (fun h5 => ?_) (fun h5 => ?_)
  · have hl : fi < se := by
      refine Classical.not_not.mp fun hh => ?_
      rw [if_neg hh] at h5
      split at h5 <;> exact absurd h5 (by decide)
    rw [Nat.max_eq_right (Nat.le_of_lt hl), Nat.min_eq_left (Nat.le_of_lt hl)]
    refine r_iconst (v := nI 0) dX2_make_12 (by decide) ?_
    refine r_istore_n (i := 3) (L0 := [(0, _), (1, _), (2, _)]) dX2_make_13 rfl (by decide) rfl ?_
    refine r_aload_n dX2_make_14 rfl ?_
    refine r_getf dX2_make_15 fX2_37 (by repeat first | exact wu_eq | assumption | (apply wu_ne; first | omega | assumption | (apply Ne.symm; assumption))) (by rfl) ?_
    refine r_iload_n dX2_make_18 rfl ?_
    first | refine r_if_eqN (tgt := 26) dX2_make_19 (by decide) (by omega) (fun h19 => ?_) (fun h19 => ?_) | refine r_if_eq (tgt := 26) dX2_make_19 (by decide) (fun h19 => ?_) (fun h19 => ?_)
    · refine r_aload_n dX2_make_26 rfl ?_
      refine r_invS dX2_make_27 kX2_80 (c_copy (n := W) (m := W) (u := p) (v := se) (by omega) n55 hb (by omega) (by omega) b55 hs) rfl rfl ⟨by decide, by decide⟩ (Nat.le_of_ble_eq_true rfl) ⟨by decide, by decide⟩ ⟨rfl, rfl⟩ ?_
      rintro _ _ _ ⟨rfl, rfl, rfl⟩
      rw [hsm]
      refine r_aload_n dX2_make_30 rfl ?_
      refine r_getf dX2_make_31 fX2_40 (by repeat first | exact wu_eq | assumption | (apply wu_ne; first | omega | assumption | (apply Ne.symm; assumption))) (by rfl) ?_
      refine r_iload_n dX2_make_34 rfl ?_
      first | refine r_if_eqN (tgt := 42) dX2_make_35 (by decide) (by omega) (fun h35 => ?_) (fun h35 => ?_) | refine r_if_eq (tgt := 42) dX2_make_35 (by decide) (fun h35 => ?_) (fun h35 => ?_)
      · refine r_aload_n dX2_make_42 rfl ?_
        refine r_invS dX2_make_43 kX2_80 (c_copy (n := W) (m := W) (u := q) (v := fi) (by omega) (wu_ne (by decide) n56) (wu_ne (by omega) ha) (by omega) (by omega) b56 hf) rfl rfl ⟨by decide, by decide⟩ (Nat.le_of_ble_eq_true rfl) ⟨by decide, by decide⟩ ⟨rfl, rfl⟩ ?_
        rintro _ _ _ ⟨rfl, rfl, rfl⟩
        rw [hfm]
        refine r_sub [1] rfl ?_
        exact T se fi _ hs hf hf1 hl hs2 hf2 (wu_ne (by decide) wu_eq) wu_eq fun k h1 h2 => wu_ne h2 (wu_ne h1 rfl)
      · omega
    · omega
  · have hl : se < fi := by
      refine Classical.not_not.mp fun hh => ?_
      rw [if_pos (by omega)] at h5
      exact h5 (by decide)
    rw [Nat.max_eq_left (Nat.le_of_lt hl), Nat.min_eq_right (Nat.le_of_lt hl)]
    refine r_iconst (v := nI 1) dX2_make_8 (by decide) ?_
    refine r_goto (tgt := 13) dX2_make_9 (by decide) ?_
    refine r_istore_n (i := 3) (L0 := [(0, _), (1, _), (2, _)]) dX2_make_13 rfl (by decide) rfl ?_
    refine r_aload_n dX2_make_14 rfl ?_
    refine r_getf dX2_make_15 fX2_37 (by repeat first | exact wu_eq | assumption | (apply wu_ne; first | omega | assumption | (apply Ne.symm; assumption))) (by rfl) ?_
    refine r_iload_n dX2_make_18 rfl ?_
    first | refine r_if_eqN (tgt := 26) dX2_make_19 (by decide) (by omega) (fun h19 => ?_) (fun h19 => ?_) | refine r_if_eq (tgt := 26) dX2_make_19 (by decide) (fun h19 => ?_) (fun h19 => ?_)
    · omega
    · refine r_aload_n dX2_make_22 rfl ?_
      refine r_goto (tgt := 27) dX2_make_23 (by decide) ?_
      refine r_invS dX2_make_27 kX2_80 (c_copy (n := W) (m := W) (u := p) (v := fi) (by omega) n55 ha (by omega) (by omega) b55 hf) rfl rfl ⟨by decide, by decide⟩ (Nat.le_of_ble_eq_true rfl) ⟨by decide, by decide⟩ ⟨rfl, rfl⟩ ?_
      rintro _ _ _ ⟨rfl, rfl, rfl⟩
      rw [hfm]
      refine r_aload_n dX2_make_30 rfl ?_
      refine r_getf dX2_make_31 fX2_40 (by repeat first | exact wu_eq | assumption | (apply wu_ne; first | omega | assumption | (apply Ne.symm; assumption))) (by rfl) ?_
      refine r_iload_n dX2_make_34 rfl ?_
      first | refine r_if_eqN (tgt := 42) dX2_make_35 (by decide) (by omega) (fun h35 => ?_) (fun h35 => ?_) | refine r_if_eq (tgt := 42) dX2_make_35 (by decide) (fun h35 => ?_) (fun h35 => ?_)
      · omega
      · refine r_aload_n dX2_make_38 rfl ?_
        refine r_goto (tgt := 43) dX2_make_39 (by decide) ?_
        refine r_invS dX2_make_43 kX2_80 (c_copy (n := W) (m := W) (u := q) (v := se) (by omega) (wu_ne (by decide) n56) (wu_ne (by omega) hb) (by omega) (by omega) b56 hs) rfl rfl ⟨by decide, by decide⟩ (Nat.le_of_ble_eq_true rfl) ⟨by decide, by decide⟩ ⟨rfl, rfl⟩ ?_
        rintro _ _ _ ⟨rfl, rfl, rfl⟩
        rw [hsm]
        refine r_sub [1] rfl ?_
        exact T fi se _ hf hs hs1 hl hf2 hs2 (wu_ne (by decide) wu_eq) wu_eq fun k h1 h2 => wu_ne h2 (wu_ne h1 rfl)
