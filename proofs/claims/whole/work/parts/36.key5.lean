/-! SignHouse$KeyRows: the signature by remainders -/
def sgn (x p q dP dQ qI : Nat) : Nat := ((if (x % p) ^ dP % p < (x % q) ^ dQ % q then (x % p) ^ dP % p + p - (x % q) ^ dQ % q else (x % p) ^ dP % p - (x % q) ^ dQ % q) * qI % p) * q + (x % q) ^ dQ % q
set_option maxRecDepth 100000 in
set_option maxHeartbeats 4000000 in
theorem c_makeSignature {g : ab_G} {N made W n d p q dP dQ qI t a u x : Nat} {w : ab_W} (h : w 28 = krO made) (hMp : MOK w 37 W p) (hMq : MOK w 45 W q) (hK : KN w W n d p q dP dQ qI) (hT : KT w W) (hqp : q ≤ p) (hW : 1 ≤ W) (hW2 : W ≤ 10) (ht : w t = aN (2 * W) u) (hu : u < 4294967296 ^ (2 * W)) (ha : w a = aN (2 * W) x) (hx : x < 4294967296 ^ (2 * W)) (ht1 : 65 < t) (ha1 : 65 < a) (hta : t ≠ a) : ab_Ct MX2_makeSignature g [.ref 28, .ref t, .ref a] N w (fun r N' w' => w' t = aN (2 * W) (sgn x p q dP dQ qI) ∧ MOK w' 37 W p ∧ MOK w' 45 W q ∧ KT w' W ∧ (∀ k, k ≠ t → (k < 37 ∨ 52 < k) → k ≠ 64 → k ≠ 65 → w' k = w k) ∧ r = none ∧ N = N') := by
  obtain ⟨n53, n54, n55, n56, n57, n58, n59, b53, b54, b55, b56, b57, b58, b59⟩ := hK
  obtain ⟨v0, v1, v2, f, v4, v5, t60, t61, t62, t63, t64, t65, c0, c1, c2, c4, c5⟩ := hT
  obtain ⟨ni, bb, rr, S0, k37, k38, -, -, -, -, -, -, -, -, -, -, -, hp1, -, -, -⟩ := id hMp
  obtain ⟨ni', bb', rr', S0', k45, k46, -, -, -, -, -, -, -, -, -, -, -, hq1, -, -, -⟩ := id hMq
  have hsp : (x % p) ^ dP % p < p := Nat.mod_lt _ (by omega)
  have hsq : (x % q) ^ dQ % q < q := Nat.mod_lt _ (by omega)
  refine ab_Ct.of (by decide +kernel) (Nat.le_of_ble_eq_true rfl) (by rintro _ _ _ ⟨-, -, -, -, -, rfl, -⟩; trivial) ?_
  show ab_St MX2_makeSignature g 0 0 0 [(0, .ref 28), (1, .ref t), (2, .ref a)] [] _ _ _
  refine r_aload_n dX2_makeSignature_0 rfl ?_
  refine r_getf dX2_makeSignature_1 fX2_24 (by repeat first | exact wu_eq | assumption | (apply wu_ne; first | omega | assumption | (apply Ne.symm; assumption))) (by rfl) ?_
  refine r_aload_n dX2_makeSignature_4 rfl ?_
  refine r_getf dX2_makeSignature_5 fX2_64 (by repeat first | exact wu_eq | assumption | (apply wu_ne; first | omega | assumption | (apply Ne.symm; assumption))) (by rfl) ?_
  refine r_aload_n dX2_makeSignature_8 rfl ?_
  refine r_invV dX2_makeSignature_9 kX2_126 (c_reduce (W := W) (c := p) (n := 2 * W) (x := x) k37 k38 t64 ha (by omega) (by decide) (by decide) (by omega) (by omega) (by omega) b55 (by omega) c4 hx) rfl rfl (by repeat first | exact wu_eq | assumption | (apply wu_ne; first | omega | assumption | (apply Ne.symm; assumption))) rfl rfl ⟨by decide, by decide⟩ (Nat.le_of_ble_eq_true rfl) ⟨by decide, by decide⟩ ⟨rfl, rfl⟩ ?_
  rintro _ _ _ ⟨rfl, rfl, rfl⟩
  refine r_aload_n dX2_makeSignature_12 rfl ?_
  refine r_getf dX2_makeSignature_13 fX2_24 (by repeat first | exact wu_eq | assumption | (apply wu_ne; first | omega | assumption | (apply Ne.symm; assumption))) (by rfl) ?_
  refine r_aload_n dX2_makeSignature_16 rfl ?_
  refine r_getf dX2_makeSignature_17 fX2_64 (by repeat first | exact wu_eq | assumption | (apply wu_ne; first | omega | assumption | (apply Ne.symm; assumption))) (by rfl) ?_
  refine r_aload_n dX2_makeSignature_20 rfl ?_
  refine r_getf dX2_makeSignature_21 fX2_64 (by repeat first | exact wu_eq | assumption | (apply wu_ne; first | omega | assumption | (apply Ne.symm; assumption))) (by rfl) ?_
  refine r_aload_n dX2_makeSignature_24 rfl ?_
  refine r_getf dX2_makeSignature_25 fX2_43 (by repeat first | exact wu_eq | assumption | (apply wu_ne; first | omega | assumption | (apply Ne.symm; assumption))) (by rfl) ?_
  refine r_invV dX2_makeSignature_28 kX2_107 (c_raise (W := W) (c := p) (n := W) (ev := dP) (hMp.keep fun k a b ↦ wu_ne (by omega) rfl) wu_eq (Nat.lt_trans (Nat.mod_lt _ (by omega)) b55) wu_eq (Nat.mod_lt _ (by omega)) (wu_ne (by decide) n57) (Or.inl rfl) (by omega) (by omega) b57 (Or.inr (by decide)) (Or.inr (by decide)) (Or.inr (by decide))) rfl rfl (by repeat first | exact wu_eq | assumption | (apply wu_ne; first | omega | assumption | (apply Ne.symm; assumption))) rfl rfl ⟨by decide, by decide⟩ (Nat.le_of_ble_eq_true rfl) ⟨by decide, by decide⟩ ⟨rfl, rfl⟩ ?_
  rintro _ _ w1 ⟨M1, r1, F1, rfl, rfl⟩
  have G1 : ∀ k, k ≠ 64 → (k < 37 ∨ 44 < k) → w1 k = w k := fun k a b => (F1 k a b).trans (wu_ne a rfl)
  have g28 := (G1 28 (by decide) (by decide)).trans h
  have g45 := (G1 45 (by decide) (by decide)).trans k45
  refine r_aload_n dX2_makeSignature_31 rfl ?_
  refine r_getf dX2_makeSignature_32 fX2_27 (by repeat first | exact wu_eq | assumption | (apply wu_ne; first | omega | assumption | (apply Ne.symm; assumption))) (by rfl) ?_
  refine r_aload_n dX2_makeSignature_35 rfl ?_
  refine r_getf dX2_makeSignature_36 fX2_67 (by repeat first | exact wu_eq | assumption | (apply wu_ne; first | omega | assumption | (apply Ne.symm; assumption))) (by rfl) ?_
  refine r_aload_n dX2_makeSignature_39 rfl ?_
  refine r_invV dX2_makeSignature_40 kX2_126 (c_reduce (W := W) (c := q) (n := 2 * W) (x := x) g45 ((G1 46 (by decide) (by decide)).trans k46) ((G1 65 (by decide) (by decide)).trans t65) ((G1 a (by omega) (by omega)).trans ha) (by omega) (by decide) (by decide) (by omega) (by omega) (by omega) b56 (by omega) c5 hx) rfl rfl (by repeat first | exact wu_eq | assumption | (apply wu_ne; first | omega | assumption | (apply Ne.symm; assumption))) rfl rfl ⟨by decide, by decide⟩ (Nat.le_of_ble_eq_true rfl) ⟨by decide, by decide⟩ ⟨rfl, rfl⟩ ?_
  rintro _ _ _ ⟨rfl, rfl, rfl⟩
  refine r_aload_n dX2_makeSignature_43 rfl ?_
  refine r_getf dX2_makeSignature_44 fX2_27 (by repeat first | exact wu_eq | assumption | (apply wu_ne; first | omega | assumption | (apply Ne.symm; assumption))) (by rfl) ?_
  refine r_aload_n dX2_makeSignature_47 rfl ?_
  refine r_getf dX2_makeSignature_48 fX2_67 (by repeat first | exact wu_eq | assumption | (apply wu_ne; first | omega | assumption | (apply Ne.symm; assumption))) (by rfl) ?_
  refine r_aload_n dX2_makeSignature_51 rfl ?_
  refine r_getf dX2_makeSignature_52 fX2_67 (by repeat first | exact wu_eq | assumption | (apply wu_ne; first | omega | assumption | (apply Ne.symm; assumption))) (by rfl) ?_
  refine r_aload_n dX2_makeSignature_55 rfl ?_
  refine r_getf dX2_makeSignature_56 fX2_46 (by repeat first | exact wu_eq | assumption | (apply wu_ne; first | omega | assumption | (apply Ne.symm; assumption))) (by rfl) ?_
  refine r_invV dX2_makeSignature_59 kX2_107 (c_raise (W := W) (c := q) (n := W) (ev := dQ) (hMq.keep fun k a b ↦ (wu_ne (by omega) (G1 k (by omega) (by omega)))) wu_eq (Nat.lt_trans (Nat.mod_lt _ (by omega)) b56) wu_eq (Nat.mod_lt _ (by omega)) (wu_ne (by decide) ((G1 58 (by decide) (by decide)).trans n58)) (Or.inl rfl) (by omega) (by omega) b58 (Or.inr (by decide)) (Or.inr (by decide)) (Or.inr (by decide))) rfl rfl (by repeat first | exact wu_eq | assumption | (apply wu_ne; first | omega | assumption | (apply Ne.symm; assumption))) rfl rfl ⟨by decide, by decide⟩ (Nat.le_of_ble_eq_true rfl) ⟨by decide, by decide⟩ ⟨rfl, rfl⟩ ?_
  rintro _ _ w2 ⟨M2, r2, F2, rfl, rfl⟩
  sorry
