/-! SignHouse$KeyRows: the signature by remainders -/
def sgn (x p q dP dQ qI : Nat) : Nat := ((if (x % p) ^ dP % p < (x % q) ^ dQ % q then (x % p) ^ dP % p + p - (x % q) ^ dQ % q else (x % p) ^ dP % p - (x % q) ^ dQ % q) * qI % p) * q + (x % q) ^ dQ % q
set_option maxRecDepth 100000 in
set_option maxHeartbeats 4000000 in
theorem c_makeSignature {g : ab_G} {N made W n d p q dP dQ qI t a u x : Nat} {w : ab_W} (h : w 28 = krO made) (hMp : MOK w 37 W p) (hMq : MOK w 45 W q) (hK : KN w W n d p q dP dQ qI) (hT : KT w W) (hqp : q ≤ p) (hW : 1 ≤ W) (hW2 : W ≤ 10) (ht : w t = aN (2 * W) u) (hu : u < 4294967296 ^ (2 * W)) (ha : w a = aN (2 * W) x) (hx : x < 4294967296 ^ (2 * W)) (ht1 : 65 < t) (ha1 : 65 < a) (hta : t ≠ a) : ab_Ct MX2_makeSignature g [.ref 28, .ref t, .ref a] N w (fun r N' w' => w' t = aN (2 * W) (sgn x p q dP dQ qI) ∧ MOK w' 37 W p ∧ MOK w' 45 W q ∧ KT w' W ∧ (∀ k, k ≠ t → (k < 37 ∨ 52 < k) → k ≠ 64 → k ≠ 65 → w' k = w k) ∧ r = none ∧ N = N') := by
  obtain ⟨n53, n54, n55, n56, n57, n58, n59, b53, b54, b55, b56, b57, b58, b59⟩ := hK
  obtain ⟨v0, v1, v2, f, v4, v5, t60, t61, t62, t63, t64, t65, c0, c1, c2, c4, c5⟩ := hT
  obtain ⟨ni, bb, rr, S0, k37, k38, -, -, -, -, -, -, -, -, -, -, -, hp1, -, -, -⟩ := id hMp
  obtain ⟨ni', bb', rr', S0', k45, k46, -, -, -, -, -, -, -, -, -, -, -, hq1, -, -, -⟩ := id hMq
  have hsp : (x % p) ^ dP % p < p := Nat.mod_lt _ (by omega)
  have hsq : (x % q) ^ dQ % q < q := Nat.mod_lt _ (by omega)
  refine ab_Ct.of (by decide +kernel) (Nat.le_of_ble_eq_true rfl) (by rintro _ _ _ ⟨-, -, -, -, -, rfl, -⟩; trivial) ?_
  show ab_St MX2_makeSignature g 0 0 0 [(0, .ref 28), (1, .ref t), (2, .ref a)] [] _ _ _
  refine r_aload_n dX2_makeSignature_0 rfl ?_
  refine r_getf dX2_makeSignature_1 fX2_24 (by repeat first | exact wu_eq | assumption | (apply wu_ne; first | omega | assumption | (apply Ne.symm; assumption))) (by rfl) ?_
  refine r_aload_n dX2_makeSignature_4 rfl ?_
  refine r_getf dX2_makeSignature_5 fX2_64 (by repeat first | exact wu_eq | assumption | (apply wu_ne; first | omega | assumption | (apply Ne.symm; assumption))) (by rfl) ?_
  refine r_aload_n dX2_makeSignature_8 rfl ?_
  refine r_invV dX2_makeSignature_9 kX2_126 (c_reduce (W := W) (c := p) (n := 2 * W) (x := x) k37 k38 t64 ha (by omega) (by decide) (by decide) (by omega) (by omega) (by omega) b55 (by omega) c4 hx) rfl rfl (by repeat first | exact wu_eq | assumption | (apply wu_ne; first | omega | assumption | (apply Ne.symm; assumption))) rfl rfl ⟨by decide, by decide⟩ (Nat.le_of_ble_eq_true rfl) ⟨by decide, by decide⟩ ⟨rfl, rfl⟩ ?_
  rintro _ _ _ ⟨rfl, rfl, rfl⟩
  refine r_aload_n dX2_makeSignature_12 rfl ?_
  refine r_getf dX2_makeSignature_13 fX2_24 (by repeat first | exact wu_eq | assumption | (apply wu_ne; first | omega | assumption | (apply Ne.symm; assumption))) (by rfl) ?_
  refine r_aload_n dX2_makeSignature_16 rfl ?_
  refine r_getf dX2_makeSignature_17 fX2_64 (by repeat first | exact wu_eq | assumption | (apply wu_ne; first | omega | assumption | (apply Ne.symm; assumption))) (by rfl) ?_
  refine r_aload_n dX2_makeSignature_20 rfl ?_
  refine r_getf dX2_makeSignature_21 fX2_64 (by repeat first | exact wu_eq | assumption | (apply wu_ne; first | omega | assumption | (apply Ne.symm; assumption))) (by rfl) ?_
  refine r_aload_n dX2_makeSignature_24 rfl ?_
  refine r_getf dX2_makeSignature_25 fX2_43 (by repeat first | exact wu_eq | assumption | (apply wu_ne; first | omega | assumption | (apply Ne.symm; assumption))) (by rfl) ?_
  refine r_invV dX2_makeSignature_28 kX2_107 (c_raise (W := W) (c := p) (n := W) (ev := dP) (hMp.keep fun k a b ↦ wu_ne (by omega) rfl) wu_eq (Nat.lt_trans (Nat.mod_lt _ (by omega)) b55) wu_eq (Nat.mod_lt _ (by omega)) (wu_ne (by decide) n57) (Or.inl rfl) (by omega) (by omega) b57 (Or.inr (by decide)) (Or.inr (by decide)) (Or.inr (by decide))) rfl rfl (by repeat first | exact wu_eq | assumption | (apply wu_ne; first | omega | assumption | (apply Ne.symm; assumption))) rfl rfl ⟨by decide, by decide⟩ (Nat.le_of_ble_eq_true rfl) ⟨by decide, by decide⟩ ⟨rfl, rfl⟩ ?_
  rintro _ _ w1 ⟨M1, r1, F1, rfl, rfl⟩
  have G1 : ∀ k, k ≠ 64 → (k < 37 ∨ 44 < k) → w1 k = w k := fun k a b => (F1 k a b).trans (wu_ne a rfl)
  have g28 := (G1 28 (by decide) (by decide)).trans h
  have g45 := (G1 45 (by decide) (by decide)).trans k45
  refine r_aload_n dX2_makeSignature_31 rfl ?_
  refine r_getf dX2_makeSignature_32 fX2_27 (by repeat first | exact wu_eq | assumption | (apply wu_ne; first | omega | assumption | (apply Ne.symm; assumption))) (by rfl) ?_
  refine r_aload_n dX2_makeSignature_35 rfl ?_
  refine r_getf dX2_makeSignature_36 fX2_67 (by repeat first | exact wu_eq | assumption | (apply wu_ne; first | omega | assumption | (apply Ne.symm; assumption))) (by rfl) ?_
  refine r_aload_n dX2_makeSignature_39 rfl ?_
  refine r_invV dX2_makeSignature_40 kX2_126 (c_reduce (W := W) (c := q) (n := 2 * W) (x := x) g45 ((G1 46 (by decide) (by decide)).trans k46) ((G1 65 (by decide) (by decide)).trans t65) ((G1 a (by omega) (by omega)).trans ha) (by omega) (by decide) (by decide) (by omega) (by omega) (by omega) b56 (by omega) c5 hx) rfl rfl (by repeat first | exact wu_eq | assumption | (apply wu_ne; first | omega | assumption | (apply Ne.symm; assumption))) rfl rfl ⟨by decide, by decide⟩ (Nat.le_of_ble_eq_true rfl) ⟨by decide, by decide⟩ ⟨rfl, rfl⟩ ?_
  rintro _ _ _ ⟨rfl, rfl, rfl⟩
  refine r_aload_n dX2_makeSignature_43 rfl ?_
  refine r_getf dX2_makeSignature_44 fX2_27 (by repeat first | exact wu_eq | assumption | (apply wu_ne; first | omega | assumption | (apply Ne.symm; assumption))) (by rfl) ?_
  refine r_aload_n dX2_makeSignature_47 rfl ?_
  refine r_getf dX2_makeSignature_48 fX2_67 (by repeat first | exact wu_eq | assumption | (apply wu_ne; first | omega | assumption | (apply Ne.symm; assumption))) (by rfl) ?_
  refine r_aload_n dX2_makeSignature_51 rfl ?_
  refine r_getf dX2_makeSignature_52 fX2_67 (by repeat first | exact wu_eq | assumption | (apply wu_ne; first | omega | assumption | (apply Ne.symm; assumption))) (by rfl) ?_
  refine r_aload_n dX2_makeSignature_55 rfl ?_
  refine r_getf dX2_makeSignature_56 fX2_46 (by repeat first | exact wu_eq | assumption | (apply wu_ne; first | omega | assumption | (apply Ne.symm; assumption))) (by rfl) ?_
  refine r_invV dX2_makeSignature_59 kX2_107 (c_raise (W := W) (c := q) (n := W) (ev := dQ) (hMq.keep fun k a b ↦ (wu_ne (by omega) (G1 k (by omega) (by omega)))) wu_eq (Nat.lt_trans (Nat.mod_lt _ (by omega)) b56) wu_eq (Nat.mod_lt _ (by omega)) (wu_ne (by decide) ((G1 58 (by decide) (by decide)).trans n58)) (Or.inl rfl) (by omega) (by omega) b58 (Or.inr (by decide)) (Or.inr (by decide)) (Or.inr (by decide))) rfl rfl (by repeat first | exact wu_eq | assumption | (apply wu_ne; first | omega | assumption | (apply Ne.symm; assumption))) rfl rfl ⟨by decide, by decide⟩ (Nat.le_of_ble_eq_true rfl) ⟨by decide, by decide⟩ ⟨rfl, rfl⟩ ?_
  rintro _ _ w2 ⟨M2, r2, F2, rfl, rfl⟩
  have G2 : ∀ k, k ≠ 64 → k ≠ 65 → (k < 37 ∨ 52 < k) → w2 k = w k := fun k a b c => (F2 k b (by omega)).trans ((wu_ne b rfl).trans (G1 k a (by omega)))
  have M1' : MOK w2 37 W p := M1.keep fun k a b => (F2 k (by omega) (by omega)).trans (wu_ne (by omega) rfl)
  have e64 : w2 64 = aN W ((x % p) ^ dP % p) := (F2 64 (by decide) (by decide)).trans (wu_ne (by decide) r1)
  have e28 := (G2 28 (by decide) (by decide) (by decide)).trans h
  have e55 := (G2 55 (by decide) (by decide) (by decide)).trans n55
  unfold sgn
  generalize (x % p) ^ dP % p = A at hsp e64 ⊢
  generalize (x % q) ^ dQ % q = B at hsq r2 ⊢
  have hdf : (if A < B then A + p - B else A - B) < p := by split <;> omega
  have T : ∀ w3 : ab_W, w3 64 = aN W (if A < B then A + p - B else A - B) → (∀ k, k ≠ 64 → w3 k = w2 k) → ab_St MX2_makeSignature g 0 0 91 [(0, .ref 28), (1, .ref t), (2, .ref a)] [] N w3 (fun r N' w' => w' t = aN (2 * W) ((if A < B then A + p - B else A - B) * qI % p * q + B) ∧ MOK w' 37 W p ∧ MOK w' 45 W q ∧ KT w' W ∧ (∀ k, k ≠ t → (k < 37 ∨ 52 < k) → k ≠ 64 → k ≠ 65 → w' k = w k) ∧ r = none ∧ N = N') := by
    intro w3 d64 H
    generalize (if A < B then A + p - B else A - B) = D at hdf d64 ⊢
    have d28 := (H 28 (by decide)).trans e28
    have M3 : MOK w3 37 W p := M1'.keep fun k a b => H k (by omega)
    obtain ⟨ni3, bb3, rr3, S3, l37, -⟩ := id M3
    refine r_aload_n dX2_makeSignature_91 rfl ?_
    refine r_getf dX2_makeSignature_92 fX2_24 (by repeat first | exact wu_eq | assumption | (apply wu_ne; first | omega | assumption | (apply Ne.symm; assumption))) (by rfl) ?_
    refine r_aload_n dX2_makeSignature_95 rfl ?_
    refine r_getf dX2_makeSignature_96 fX2_64 (by repeat first | exact wu_eq | assumption | (apply wu_ne; first | omega | assumption | (apply Ne.symm; assumption))) (by rfl) ?_
    refine r_aload_n dX2_makeSignature_99 rfl ?_
    refine r_getf dX2_makeSignature_100 fX2_64 (by repeat first | exact wu_eq | assumption | (apply wu_ne; first | omega | assumption | (apply Ne.symm; assumption))) (by rfl) ?_
    refine r_aload_n dX2_makeSignature_103 rfl ?_
    refine r_getf dX2_makeSignature_104 fX2_49 (by repeat first | exact wu_eq | assumption | (apply wu_ne; first | omega | assumption | (apply Ne.symm; assumption))) (by rfl) ?_
    refine r_invV dX2_makeSignature_107 kX2_136 (c_times (W := W) (c := p) M3 d64 (Nat.lt_trans hdf b55) d64 hdf ((H 59 (by decide)).trans ((G2 59 (by decide) (by decide) (by decide)).trans n59)) b59 (Or.inr (by decide)) (Or.inr (by decide)) (Or.inr (by decide))) rfl rfl (by repeat first | exact wu_eq | assumption | (apply wu_ne; first | omega | assumption | (apply Ne.symm; assumption))) rfl rfl ⟨by decide, by decide⟩ (Nat.le_of_ble_eq_true rfl) ⟨by decide, by decide⟩ ⟨rfl, rfl⟩ ?_
    rintro _ _ w4 ⟨M4, r4, F4, rfl, rfl⟩
    have hpp : 0 < p := by omega
    have hD2 : D * qI % p < p := Nat.mod_lt _ hpp
    generalize D * qI % p = h2 at hD2 r4 ⊢
    have G4 : ∀ k, k ≠ 64 → (k < 37 ∨ 44 < k) → w4 k = w2 k := fun k a b => (F4 k a b).trans (H k a)
    have q28 := (G4 28 (by decide) (by decide)).trans e28
    have G5 : ∀ k, k ≠ 64 → k ≠ 65 → (k < 37 ∨ 52 < k) → w4 k = w k := fun k a b c => (G4 k a (by omega)).trans (G2 k a b c)
    have hfit : h2 * q + B < 4294967296 ^ (2 * W) := by
      have a1 : (h2 + 1) * q ≤ 4294967296 ^ W * 4294967296 ^ W := Nat.mul_le_mul (Nat.le_trans hD2 (Nat.le_of_lt b55)) (Nat.le_of_lt b56)
      rw [← Nat.pow_add, show W + W = 2 * W by omega, Nat.add_mul, Nat.one_mul] at a1
      omega
    have s65 : w4 65 = aN W B := (G4 65 (by decide) (by decide)).trans r2
    refine r_aload_n dX2_makeSignature_110 rfl ?_
    refine r_aload_n dX2_makeSignature_111 rfl ?_
    refine r_getf dX2_makeSignature_112 fX2_64 (by repeat first | exact wu_eq | assumption | (apply wu_ne; first | omega | assumption | (apply Ne.symm; assumption))) (by rfl) ?_
    refine r_aload_n dX2_makeSignature_115 rfl ?_
    refine r_getf dX2_makeSignature_116 fX2_40 (by repeat first | exact wu_eq | assumption | (apply wu_ne; first | omega | assumption | (apply Ne.symm; assumption))) (by rfl) ?_
    refine r_invS dX2_makeSignature_119 kX2_84 (c_multiply (n := 2 * W) (lb := W) (lc := W) (u := u) (vb := h2) (vc := q) (by omega) (by omega) ((G5 t (by omega) (by omega) (by omega)).trans ht) r4 ((G5 56 (by decide) (by decide) (by decide)).trans n56) (by omega) (by omega) hu (Nat.lt_trans hD2 b55) b56) rfl rfl ⟨by decide, by decide⟩ (Nat.le_of_ble_eq_true rfl) ⟨by decide, by decide⟩ ⟨rfl, rfl⟩ ?_
    rintro _ _ _ ⟨rfl, rfl, rfl⟩
    refine r_aload_n dX2_makeSignature_122 rfl ?_
    refine r_aload_n dX2_makeSignature_123 rfl ?_
    refine r_getf dX2_makeSignature_124 fX2_67 (by repeat first | exact wu_eq | assumption | (apply wu_ne; first | omega | assumption | (apply Ne.symm; assumption))) (by rfl) ?_
    refine r_invS dX2_makeSignature_127 kX2_133 (c_add (n := 2 * W) (m := W) (u := h2 * q) (v := B) (by omega) wu_eq (wu_ne (by omega) s65) (by omega) (by omega) (by omega) (Nat.lt_trans hsq b56)) rfl rfl ⟨by decide, by decide⟩ (Nat.le_of_ble_eq_true rfl) ⟨by decide, by decide⟩ ⟨rfl, rfl⟩ ?_
    rintro _ _ _ ⟨rfl, rfl, rfl⟩
    refine r_ret (r := none) dX2_makeSignature_130 (by decide) (by decide) ?_
    rw [wu_wu, Nat.mod_eq_of_lt hfit]
    refine ⟨wu_eq, M4.keep fun k a b => wu_ne (by omega) rfl, M2.keep fun k a b => (wu_ne (by omega) (G4 k (by omega) (by omega))), ⟨v0, v1, v2, f, h2, B, ?_, ?_, ?_, ?_, ?_, ?_, c0, c1, c2, Nat.lt_trans hD2 b55, Nat.lt_trans hsq b56⟩, ?_, rfl, rfl⟩
    · exact (wu_ne (by omega) (G5 60 (by decide) (by decide) (by decide))).trans t60
    · exact (wu_ne (by omega) (G5 61 (by decide) (by decide) (by decide))).trans t61
    · exact (wu_ne (by omega) (G5 62 (by decide) (by decide) (by decide))).trans t62
    · exact (wu_ne (by omega) (G5 63 (by decide) (by decide) (by decide))).trans t63
    · exact wu_ne (by omega) r4
    · exact wu_ne (by omega) s65
    · exact fun k a b c d => wu_ne a (G5 k c d b)
  refine r_aload_n dX2_makeSignature_62 rfl ?_
  refine r_getf dX2_makeSignature_63 fX2_64 (by repeat first | exact wu_eq | assumption | (apply wu_ne; first | omega | assumption | (apply Ne.symm; assumption))) (by rfl) ?_
  refine r_aload_n dX2_makeSignature_66 rfl ?_
  refine r_getf dX2_makeSignature_67 fX2_64 (by repeat first | exact wu_eq | assumption | (apply wu_ne; first | omega | assumption | (apply Ne.symm; assumption))) (by rfl) ?_
  refine r_aload_n dX2_makeSignature_70 rfl ?_
  refine r_getf dX2_makeSignature_71 fX2_67 (by repeat first | exact wu_eq | assumption | (apply wu_ne; first | omega | assumption | (apply Ne.symm; assumption))) (by rfl) ?_
  have hX : 0 < 4294967296 ^ W := Nat.pow_pos (by decide)
  refine r_invS dX2_makeSignature_74 kX2_129 (c_subtract (n := W) (u := A) (v := B) (by decide) e64 r2 (by omega) (Nat.lt_trans hsp b55) (Nat.lt_trans hsq b56)) rfl rfl ⟨by decide, by decide⟩ (Nat.le_of_ble_eq_true rfl) ⟨by decide, by decide⟩ ⟨rfl, rfl⟩ ?_
  rintro _ _ _ ⟨rfl, rfl, rfl⟩
  refine r_if_eq (tgt := 91) dX2_makeSignature_77 (by decide) (fun h77 => ?_) (fun h77 => ?_)
  · have hn : ¬ A < B := fun h => by rw [if_pos h] at h77; exact absurd h77 (by decide)
    refine T _ ?_ (fun k hk => wu_ne hk rfl)
    rw [if_neg hn, wu_eq]
    generalize 4294967296 ^ W = X at *
    rw [show A + X - B = A - B + X by omega, Nat.add_mod_right, Nat.mod_eq_of_lt (by omega)]
  · refine r_aload_n dX2_makeSignature_80 rfl ?_
    refine r_getf dX2_makeSignature_81 fX2_64 (by repeat first | exact wu_eq | assumption | (apply wu_ne; first | omega | assumption | (apply Ne.symm; assumption))) (by rfl) ?_
    refine r_aload_n dX2_makeSignature_84 rfl ?_
    refine r_getf dX2_makeSignature_85 fX2_37 (by repeat first | exact wu_eq | assumption | (apply wu_ne; first | omega | assumption | (apply Ne.symm; assumption))) (by rfl) ?_
    have hl : A < B := Classical.not_not.mp fun h => by rw [if_neg h] at h77; exact h77 (by decide)
    refine r_invS dX2_makeSignature_88 kX2_133 (c_add (n := W) (m := W) (u := (A + 4294967296 ^ W - B) % 4294967296 ^ W) (v := p) (by decide) wu_eq (wu_ne (by decide) e55) (by omega) (by omega) (Nat.mod_lt _ hX) b55) rfl rfl ⟨by decide, by decide⟩ (Nat.le_of_ble_eq_true rfl) ⟨by decide, by decide⟩ ⟨rfl, rfl⟩ ?_
    rintro _ _ _ ⟨rfl, rfl, rfl⟩
    refine T _ ?_ (fun k hk => (wu_ne hk (wu_ne hk rfl)))
    rw [if_pos hl, wu_eq]
    generalize 4294967296 ^ W = X at *
    rw [Nat.mod_eq_of_lt (a := A + X - B) (by omega), show A + X - B + p = A + p - B + X by omega, Nat.add_mod_right, Nat.mod_eq_of_lt (by omega)]
