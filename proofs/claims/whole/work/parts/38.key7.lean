/-! SignHouse$KeyRows: the inverse of q -/
set_option maxRecDepth 100000 in
set_option maxHeartbeats 4000000 in
theorem c_findInverseOfQ {g : ab_G} {N made W n d p q dP dQ qI : Nat} {w : ab_W} (h : w 28 = krO made) (hMp : MOK w 37 W p) (hK : KN w W n d p q dP dQ qI) (hT : KT w W) (hp : 2 ≤ p) (hqp : q < p) (hW : 1 ≤ W) (hW2 : W ≤ 10) : ab_Ct MX2_findInverseOfQ g [.ref 28] N w (fun r N' w' => KN w' W n d p q dP dQ (q ^ (p - 2) % p) ∧ KT w' W ∧ MOK w' 37 W p ∧ (∀ k, (k < 37 ∨ 44 < k) → (k < 53 ∨ 65 < k) → w' k = w k) ∧ r = none ∧ N = N') := by
  obtain ⟨n53, n54, n55, n56, n57, n58, n59, b53, b54, b55, b56, b57, b58, b59⟩ := hK
  obtain ⟨v0, v1, v2, f, v4, v5, t60, t61, t62, t63, t64, t65, c0, c1, c2, c4, c5⟩ := hT
  obtain ⟨ni, bb, rr, S0, k37, -⟩ := id hMp
  have hpm : p % 4294967296 ^ W = p := Nat.mod_eq_of_lt b55
  have lp : p - 2 < 4294967296 ^ W := by omega
  have lr : q ^ (p - 2) % p < 4294967296 ^ W := Nat.lt_trans (Nat.mod_lt _ (by omega)) b55
  refine ab_Ct.of (by decide +kernel) (Nat.le_of_ble_eq_true rfl) (by rintro _ _ _ ⟨-, -, -, -, rfl, -⟩; trivial) ?_
  show ab_St MX2_findInverseOfQ g 0 0 0 [(0, .ref 28)] [] _ _ _
  refine r_aload_n dX2_findInverseOfQ_0 rfl ?_
  refine r_getf dX2_findInverseOfQ_1 fX2_52 (by repeat first | exact wu_eq | assumption | (apply wu_ne; first | omega | assumption | (apply Ne.symm; assumption))) (by rfl) ?_
  refine r_aload_n dX2_findInverseOfQ_4 rfl ?_
  refine r_getf dX2_findInverseOfQ_5 fX2_37 (by repeat first | exact wu_eq | assumption | (apply wu_ne; first | omega | assumption | (apply Ne.symm; assumption))) (by rfl) ?_
  refine r_invS dX2_findInverseOfQ_8 kX2_80 (c_copy (n := W) (m := W) (u := v0) (v := p) (by decide) t60 n55 (by omega) (by omega) c0 b55) rfl rfl ⟨by decide, by decide⟩ (Nat.le_of_ble_eq_true rfl) ⟨by decide, by decide⟩ ⟨rfl, rfl⟩ ?_
  rintro _ _ _ ⟨rfl, rfl, rfl⟩
  rw [hpm]
  refine r_aload_n dX2_findInverseOfQ_11 rfl ?_
  refine r_getf dX2_findInverseOfQ_12 fX2_52 (by repeat first | exact wu_eq | assumption | (apply wu_ne; first | omega | assumption | (apply Ne.symm; assumption))) (by rfl) ?_
  refine r_ldc2 dX2_findInverseOfQ_15 qX2_105 ?_
  refine r_toJ (y := lN 2) rfl ?_
  refine r_invS dX2_findInverseOfQ_18 kX2_98 (c_lessen (n := W) (u := p) (y := 2) wu_eq (by omega) b55 (by decide) hp) rfl rfl ⟨by decide, by decide⟩ (Nat.le_of_ble_eq_true rfl) ⟨by decide, by decide⟩ ⟨rfl, rfl⟩ ?_
  rintro _ _ _ ⟨rfl, rfl, rfl⟩
  rw [wu_wu]
  refine r_aload_n dX2_findInverseOfQ_21 rfl ?_
  refine r_getf dX2_findInverseOfQ_22 fX2_24 (by repeat first | exact wu_eq | assumption | (apply wu_ne; first | omega | assumption | (apply Ne.symm; assumption))) (by rfl) ?_
  refine r_aload_n dX2_findInverseOfQ_25 rfl ?_
  refine r_getf dX2_findInverseOfQ_26 fX2_49 (by repeat first | exact wu_eq | assumption | (apply wu_ne; first | omega | assumption | (apply Ne.symm; assumption))) (by rfl) ?_
  refine r_aload_n dX2_findInverseOfQ_29 rfl ?_
  refine r_getf dX2_findInverseOfQ_30 fX2_40 (by repeat first | exact wu_eq | assumption | (apply wu_ne; first | omega | assumption | (apply Ne.symm; assumption))) (by rfl) ?_
  refine r_aload_n dX2_findInverseOfQ_33 rfl ?_
  refine r_getf dX2_findInverseOfQ_34 fX2_52 (by repeat first | exact wu_eq | assumption | (apply wu_ne; first | omega | assumption | (apply Ne.symm; assumption))) (by rfl) ?_
  refine r_invV dX2_findInverseOfQ_37 kX2_107 (c_raise (W := W) (c := p) (n := W) (ev := p - 2) (u := qI) (x := q) (hMp.keep fun k a b ↦ wu_ne (by omega) rfl) (wu_ne (by decide) n59) b59 (wu_ne (by decide) n56) hqp wu_eq (Or.inl rfl) (by omega) (by omega) lp (Or.inr (by decide)) (Or.inr (by decide)) (Or.inr (by decide))) rfl rfl (by repeat first | exact wu_eq | assumption | (apply wu_ne; first | omega | assumption | (apply Ne.symm; assumption))) rfl rfl ⟨by decide, by decide⟩ (Nat.le_of_ble_eq_true rfl) ⟨by decide, by decide⟩ ⟨rfl, rfl⟩ ?_
  rintro _ _ w1 ⟨M1, r1, F1, rfl, rfl⟩
  refine r_ret (r := none) dX2_findInverseOfQ_40 (by decide) (by decide) ?_
  have G1 : ∀ k, k ≠ 59 → k ≠ 60 → (k < 37 ∨ 44 < k) → w1 k = w k := fun k a b c => (F1 k a c).trans (wu_ne b rfl)
  have G : ∀ k, k ≠ 59 → k ≠ 60 → 44 < k → w1 k = w k := fun k a b c => G1 k a b (Or.inr c)
  have e60 := (F1 60 (by decide) (by decide)).trans wu_eq
  exact ⟨⟨(G _ (by decide) (by decide) (by decide)).trans n53, (G _ (by decide) (by decide) (by decide)).trans n54, (G _ (by decide) (by decide) (by decide)).trans n55, (G _ (by decide) (by decide) (by decide)).trans n56, (G _ (by decide) (by decide) (by decide)).trans n57, (G _ (by decide) (by decide) (by decide)).trans n58, r1, b53, b54, b55, b56, b57, b58, lr⟩, ⟨p - 2, v1, v2, f, v4, v5, e60, (G _ (by decide) (by decide) (by decide)).trans t61, (G _ (by decide) (by decide) (by decide)).trans t62, (G _ (by decide) (by decide) (by decide)).trans t63, (G _ (by decide) (by decide) (by decide)).trans t64, (G _ (by decide) (by decide) (by decide)).trans t65, lp, c1, c2, c4, c5⟩, M1, fun k a b => G1 k (by omega) (by omega) a, rfl, rfl⟩
