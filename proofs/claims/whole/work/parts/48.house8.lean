/-! SignHouse: search -/
theorem DRW.c16 {w : ab_W} {D c : Nat} {ω : Nat → Nat} {P : Nat} (h : DRW w D c ω P) : c ≤ 16 := by
  obtain ⟨e, st, f, a0, a1, a2, a3, a4, b1, b2, b3, b4, b5, b6⟩ := h
  exact b5
noncomputable def hs1 (half rounds c : Nat) (ω : Nat → Nat) (σ : hT) : hT := if hF σ = 2 then σ else (hP σ + half, (xs (cand ω c half (hP σ)) rounds (hF σ) (hU σ) (hA σ) (hB σ)).1, hX σ + 1, (xs (cand ω c half (hP σ)) rounds (hF σ) (hU σ) (hA σ) (hB σ)).2.1, (xs (cand ω c half (hP σ)) rounds (hF σ) (hU σ) (hA σ) (hB σ)).2.2.1, (xs (cand ω c half (hP σ)) rounds (hF σ) (hU σ) (hA σ) (hB σ)).2.2.2)
noncomputable def hsn (half rounds c : Nat) (ω : Nat → Nat) : Nat → hT → hT
  | 0, σ => σ
  | j + 1, σ => hs1 half rounds c ω (hsn half rounds c ω j σ)
theorem hsn_stop {half rounds c : Nat} {ω : Nat → Nat} {σ : hT} {j : Nat} (h : hF (hsn half rounds c ω j σ) = 2) : ∀ k, hsn half rounds c ω (j + k) σ = hsn half rounds c ω j σ
  | 0 => rfl
  | k + 1 => by
    show hs1 half rounds c ω (hsn half rounds c ω (j + k) σ) = _
    rw [hsn_stop h k]
    unfold hs1
    rw [if_pos h]
theorem PRM_cand {ω : Nat → Nat} {c half P : Nat} (hh : 31 ≤ half) (h : cand ω c half P % 65537 ≠ 1) : PRM (cand ω c half P) half := ⟨cand_odd ω c half P (by omega), cand_big ω c half P (by omega), cand_lt ω c half P, h⟩
theorem INV.step {half rounds c : Nat} {ω : Nat → Nat} {σ : hT} (hh : 31 ≤ half) (h : INV half σ) : INV half (hs1 half rounds c ω σ) := by
  unfold hs1
  by_cases h2 : hF σ = 2
  · rw [if_pos h2]
    exact h
  · rw [if_neg h2]
    obtain ⟨P, pf, ex, un, fi, se⟩ := σ
    obtain ⟨a1, a2, a3⟩ := h
    dsimp only [hP, hF, hX, hU, hA, hB] at *
    have hP := PRM_cand (ω := ω) (c := c) (P := P) hh
    generalize cand ω c half P = C at *
    unfold xs
    by_cases hnd : ND C
    · rw [xif_t hnd]
      by_cases hg : GD C rounds pf fi
      · rw [xif_t hg]
        have hC := hP hg.1
        rcases (by omega : pf = 0 ∨ pf = 1) with rfl | rfl
        · refine ⟨fun _ => ?_, fun e => absurd (show (1 : Nat) = 2 from e) (by decide), (show (1 : Nat) ≤ 2 by decide)⟩
          exact hC
        · refine ⟨fun _ => ?_, fun _ => ⟨?_, ?_⟩, (show (2 : Nat) ≤ 2 by decide)⟩
          · exact a1 (by decide)
          · exact hC
          · exact fun e => hg.2.1 ⟨(by decide : 0 < 1), e.symm⟩
      · rw [xif_f hg]
        exact ⟨a1, fun e => absurd e h2, a3⟩
    · rw [xif_f hnd]
      exact ⟨a1, fun e => absurd e h2, a3⟩
theorem INV.steps {half rounds c : Nat} {ω : Nat → Nat} {σ : hT} (hh : 31 ≤ half) (h : INV half σ) : ∀ j, INV half (hsn half rounds c ω j σ)
  | 0 => h
  | j + 1 => (INV.steps hh h j).step hh
set_option maxRecDepth 100000 in
set_option maxHeartbeats 4000000 in
theorem c_search_neg {g : ab_G} {N : Nat} {x : Int32} {w : ab_W} (hx : x < 0) : ab_Ct MX7_search g [.ref 7, .int x] N w (rp (some (.int (-2))) N w) := by
  refine ab_Ct.of (by decide +kernel) (Nat.le_of_ble_eq_true rfl) (by rintro _ _ _ ⟨rfl, rfl, rfl⟩; trivial) ?_
  show ab_St MX7_search g 0 0 0 [(0, .ref 7), (1, .int x)] [] _ _ _
  refine r_iload_n dX7_search_0 rfl ?_
  refine r_iconst (v := nI 1) dX7_search_1 (by decide) ?_
  first | refine r_icmp_ltN (tgt := 11) dX7_search_2 (by decide) (by omega) (by omega) (fun h2 => ?_) (fun h2 => ?_) | refine r_icmp_lt (tgt := 11) dX7_search_2 (by decide) (fun h2 => ?_) (fun h2 => ?_)
  · refine r_bipush (v := (-2)) dX7_search_11 (by decide) ?_
    refine r_ret (r := (some (.int _))) dX7_search_13 (by decide) (by decide) ?_
    exact ⟨rfl, rfl, rfl⟩
  · exact absurd (neg_lt (n := 1) hx (by decide)) (by assumption)
set_option maxRecDepth 100000 in
set_option maxHeartbeats 4000000 in
theorem c_search_bad {g : ab_G} {N m : Nat} {w : ab_W} (hm : m < 2147483648) (hb : m < 1 ∨ 60 < m) : ab_Ct MX7_search g [.ref 7, .int (nI m)] N w (rp (some (.int (-2))) N w) := by
  refine ab_Ct.of (by decide +kernel) (Nat.le_of_ble_eq_true rfl) (by rintro _ _ _ ⟨rfl, rfl, rfl⟩; trivial) ?_
  show ab_St MX7_search g 0 0 0 [(0, .ref 7), (1, .int (nI m))] [] _ _ _
  refine r_iload_n dX7_search_0 rfl ?_
  refine r_iconst (v := nI 1) dX7_search_1 (by decide) ?_
  first | refine r_icmp_ltN (tgt := 11) dX7_search_2 (by decide) (by omega) (by omega) (fun h2 => ?_) (fun h2 => ?_) | refine r_icmp_lt (tgt := 11) dX7_search_2 (by decide) (fun h2 => ?_) (fun h2 => ?_)
  · refine r_bipush (v := (-2)) dX7_search_11 (by decide) ?_
    refine r_ret (r := (some (.int _))) dX7_search_13 (by decide) (by decide) ?_
    exact ⟨rfl, rfl, rfl⟩
  · refine r_iload_n dX7_search_5 rfl ?_
    refine r_bipush (v := nI 60) dX7_search_6 (by decide) ?_
    first | refine r_icmp_leN (tgt := 14) dX7_search_8 (by decide) (by omega) (by omega) (fun h8 => ?_) (fun h8 => ?_) | refine r_icmp_le (tgt := 14) dX7_search_8 (by decide) (fun h8 => ?_) (fun h8 => ?_)
    · omega
    · refine r_bipush (v := (-2)) dX7_search_11 (by decide) ?_
      refine r_ret (r := (some (.int _))) dX7_search_13 (by decide) (by decide) ?_
      exact ⟨rfl, rfl, rfl⟩
set_option maxRecDepth 100000 in
set_option maxHeartbeats 4000000 in
theorem c_search_no {g : ab_G} {N m : Nat} {half rounds c bg : Nat} {ω : Nat → Nat} {σ : hT} {d : Nat → Nat} {len R sg vf : Nat} {w : ab_W} (h : HW w half rounds c ω bg σ d len R sg vf) (h1 : 1 ≤ m) (h2 : m ≤ 60) (hc : c = 0) : ab_Ct MX7_search g [.ref 7, .int (nI m)] N w (rp (some (.int (-3))) N w) := by
  obtain ⟨o1, o2, o3, o4, ⟨n, dd, p, q, dP, dQ, qI, o5⟩, o6, ⟨o7, o8, o9⟩, o10, o11, ⟨o12, o13⟩, ⟨e, o14, o15⟩, ⟨e2, o16, o17⟩, o18⟩ := id h
  refine ab_Ct.of (by decide +kernel) (Nat.le_of_ble_eq_true rfl) (by rintro _ _ _ ⟨rfl, rfl, rfl⟩; trivial) ?_
  show ab_St MX7_search g 0 0 0 [(0, .ref 7), (1, .int (nI m))] [] _ _ _
  refine r_iload_n dX7_search_0 rfl ?_
  refine r_iconst (v := nI 1) dX7_search_1 (by decide) ?_
  first | refine r_icmp_ltN (tgt := 11) dX7_search_2 (by decide) (by omega) (by omega) (fun h2 => ?_) (fun h2 => ?_) | refine r_icmp_lt (tgt := 11) dX7_search_2 (by decide) (fun h2 => ?_) (fun h2 => ?_)
  · omega
  · refine r_iload_n dX7_search_5 rfl ?_
    refine r_bipush (v := nI 60) dX7_search_6 (by decide) ?_
    first | refine r_icmp_leN (tgt := 14) dX7_search_8 (by decide) (by omega) (by omega) (fun h8 => ?_) (fun h8 => ?_) | refine r_icmp_le (tgt := 14) dX7_search_8 (by decide) (fun h8 => ?_) (fun h8 => ?_)
    · refine r_aload_n dX7_search_14 rfl ?_
      refine r_getf dX7_search_15 fX7_31 (by repeat first | exact wu_eq | assumption | exact HS.o (by assumption) | exact MSG.o (by assumption) | exact DRW.o (by assumption) | (apply wu_ne; first | omega | assumption | (apply Ne.symm; assumption))) (by rfl) ?_
      refine r_invV dX7_search_18 kX7_74 (c_Draw_wordCount o2) rfl rfl (by repeat first | exact wu_eq | assumption | exact HS.o (by assumption) | exact MSG.o (by assumption) | exact DRW.o (by assumption) | (apply wu_ne; first | omega | assumption | (apply Ne.symm; assumption))) rfl rfl ⟨by decide, by decide⟩ (Nat.le_of_ble_eq_true rfl) ⟨by decide, by decide⟩ ⟨rfl, rfl⟩ ?_
      rintro _ _ _ ⟨rfl, rfl, rfl⟩
      first | refine r_if_neN (tgt := 27) dX7_search_21 (by decide) (by omega) (fun h21 => ?_) (fun h21 => ?_) | refine r_if_ne (tgt := 27) dX7_search_21 (by decide) (fun h21 => ?_) (fun h21 => ?_)
      · omega
      · refine r_bipush (v := (-3)) dX7_search_24 (by decide) ?_
        refine r_ret (r := (some (.int _))) dX7_search_26 (by decide) (by decide) ?_
        exact ⟨rfl, rfl, rfl⟩
    · omega
set_option maxRecDepth 100000 in
set_option maxHeartbeats 4000000 in
theorem c_search {g : ab_G} {N m : Nat} {half rounds c bg : Nat} {ω : Nat → Nat} {σ : hT} {d : Nat → Nat} {len R sg vf : Nat} {w : ab_W} (h : HW w half rounds c ω bg σ d len R sg vf) (hI : INV half σ) (h1 : 1 ≤ m) (h2 : m ≤ 60) (hc : 0 < c) : ab_Ct MX7_search g [.ref 7, .int (nI m)] N w (fun r N' w' => HW w' half rounds c ω 1 (hsn half rounds c ω m σ) d len R sg vf ∧ (∀ k, 73 < k → w' k = w k) ∧ r = some (.int (nI (mk1 (hF (hsn half rounds c ω m σ))))) ∧ N = N') := by
  have hh := h.half
  have Kend : ∀ w1 τ, HW w1 half rounds c ω 1 τ d len R sg vf → (∀ k, 73 < k → w1 k = w k) → hsn half rounds c ω m σ = τ → ∀ L, lk L 0 = some (.ref 7) → ab_St MX7_search g 0 0 95 L [] N w1 (fun r N' w' => HW w' half rounds c ω 1 (hsn half rounds c ω m σ) d len R sg vf ∧ (∀ k, 73 < k → w' k = w k) ∧ r = some (.int (nI (mk1 (hF (hsn half rounds c ω m σ))))) ∧ N = N') := by
    intro w1 τ H F e L hL
    rw [e]
    obtain ⟨p7, -, -, p28, -⟩ := id H
    have hm := mk1_lt (hF τ)
    refine r_aload_n dX7_search_95 hL ?_
    refine r_getf dX7_search_96 fX7_49 (by repeat first | exact wu_eq | assumption | exact HS.o (by assumption) | exact MSG.o (by assumption) | exact DRW.o (by assumption) | (apply wu_ne; first | omega | assumption | (apply Ne.symm; assumption))) (by rfl) ?_
    refine r_invV dX7_search_99 kX7_84 (c_stand p28 (mk1_lt _)) rfl rfl (by repeat first | exact wu_eq | assumption | exact HS.o (by assumption) | exact MSG.o (by assumption) | exact DRW.o (by assumption) | (apply wu_ne; first | omega | assumption | (apply Ne.symm; assumption))) rfl rfl ⟨by decide, by decide⟩ (Nat.le_of_ble_eq_true rfl) ⟨by decide, by decide⟩ ⟨rfl, rfl⟩ ?_
    rintro _ _ _ ⟨rfl, rfl, rfl⟩
    first | refine r_if_eqN (tgt := 109) dX7_search_102 (by decide) (by omega) (fun h102 => ?_) (fun h102 => ?_) | refine r_if_eq (tgt := 109) dX7_search_102 (by decide) (fun h102 => ?_) (fun h102 => ?_)
    · refine r_iconst (v := nI 0) dX7_search_109 (by decide) ?_
      refine r_ret (r := (some (.int _))) dX7_search_110 (by decide) (by decide) ?_
      rw [h102]
      exact ⟨H, F, rfl, rfl⟩
    · refine r_iconst (v := nI 1) dX7_search_105 (by decide) ?_
      refine r_goto (tgt := 110) dX7_search_106 (by decide) ?_
      refine r_ret (r := (some (.int _))) dX7_search_110 (by decide) (by decide) ?_
      rw [show mk1 (hF τ) = 1 by omega]
      exact ⟨H, F, rfl, rfl⟩
  have K : ∀ k j, j + k = m → ∀ w1, HW w1 half rounds c ω 1 (hsn half rounds c ω j σ) d len R sg vf → (∀ k, 73 < k → w1 k = w k) → ab_St MX7_search g 0 0 36 [(2, .int (nI j)), (0, .ref 7), (1, .int (nI m))] [] N w1 (fun r N' w' => HW w' half rounds c ω 1 (hsn half rounds c ω m σ) d len R sg vf ∧ (∀ k, 73 < k → w' k = w k) ∧ r = some (.int (nI (mk1 (hF (hsn half rounds c ω m σ))))) ∧ N = N') := by
    intro k
    induction k with
    | zero =>
      intro j hj w1 H F
      obtain rfl : j = m := by omega
      refine r_iload_n dX7_search_36 rfl ?_
      refine r_iload_n dX7_search_37 rfl ?_
      first | refine r_icmp_geN (tgt := 95) dX7_search_38 (by decide) (by omega) (by omega) (fun h38 => ?_) (fun h38 => ?_) | refine r_icmp_ge (tgt := 95) dX7_search_38 (by decide) (fun h38 => ?_) (fun h38 => ?_)
      · exact Kend w1 _ H F rfl _ rfl
      · omega
    | succ k ih =>
      intro j hj w1 H F
      have hI1 := hI.steps (rounds := rounds) (c := c) (ω := ω) hh.1 j
      have hnext : hsn half rounds c ω (j + 1) σ = hs1 half rounds c ω (hsn half rounds c ω j σ) := rfl
      have hstop := hsn_stop (half := half) (rounds := rounds) (c := c) (ω := ω) (σ := σ) (j := j)
      have ih1 := ih (j + 1) (by omega)
      rw [hnext] at ih1
      generalize hsn half rounds c ω j σ = τ at H hI1 hstop ih1
      obtain ⟨o1, o2, o3, o4, ⟨n, dd, p, q, dP, dQ, qI, o5⟩, o6, ⟨o7, o8, o9⟩, o10, o11, ⟨o12, o13⟩, ⟨e, o14, o15⟩, ⟨e2, o16, o17⟩, o18⟩ := id H
      have hm := mk1_lt (hF τ)
      refine r_iload_n dX7_search_36 rfl ?_
      refine r_iload_n dX7_search_37 rfl ?_
      first | refine r_icmp_geN (tgt := 95) dX7_search_38 (by decide) (by omega) (by omega) (fun h38 => ?_) (fun h38 => ?_) | refine r_icmp_ge (tgt := 95) dX7_search_38 (by decide) (fun h38 => ?_) (fun h38 => ?_)
      · omega
      · refine r_aload_n dX7_search_41 rfl ?_
        refine r_getf dX7_search_42 fX7_49 (by repeat first | exact wu_eq | assumption | exact HS.o (by assumption) | exact MSG.o (by assumption) | exact DRW.o (by assumption) | (apply wu_ne; first | omega | assumption | (apply Ne.symm; assumption))) (by rfl) ?_
        refine r_invV dX7_search_45 kX7_84 (c_stand o4 (mk1_lt _)) rfl rfl (by repeat first | exact wu_eq | assumption | exact HS.o (by assumption) | exact MSG.o (by assumption) | exact DRW.o (by assumption) | (apply wu_ne; first | omega | assumption | (apply Ne.symm; assumption))) rfl rfl ⟨by decide, by decide⟩ (Nat.le_of_ble_eq_true rfl) ⟨by decide, by decide⟩ ⟨rfl, rfl⟩ ?_
        rintro _ _ _ ⟨rfl, rfl, rfl⟩
        first | refine r_if_neN (tgt := 95) dX7_search_48 (by decide) (by omega) (fun h48 => ?_) (fun h48 => ?_) | refine r_if_ne (tgt := 95) dX7_search_48 (by decide) (fun h48 => ?_) (fun h48 => ?_)
        · refine Kend w1 _ H F ?_ _ rfl
          rw [show m = j + (k + 1) by omega]
          exact hstop (mk1_1 h48) (k + 1)
        · refine r_aload_n dX7_search_51 rfl ?_
          refine r_getf dX7_search_52 fX7_40 (by repeat first | exact wu_eq | assumption | exact HS.o (by assumption) | exact MSG.o (by assumption) | exact DRW.o (by assumption) | (apply wu_ne; first | omega | assumption | (apply Ne.symm; assumption))) (by rfl) ?_
          have h2n := mk1_0 h48
          have hlt : hF τ < 2 := by have := hI1.2.2; omega
          refine r_invV dX7_search_55 kX7_87 (c_examineNext o3 o2 o18 hlt) rfl rfl (by repeat first | exact wu_eq | assumption | exact HS.o (by assumption) | exact MSG.o (by assumption) | exact DRW.o (by assumption) | (apply wu_ne; first | omega | assumption | (apply Ne.symm; assumption))) rfl rfl ⟨by decide, by decide⟩ (Nat.le_of_ble_eq_true rfl) ⟨by decide, by decide⟩ ⟨rfl, rfl⟩ ?_
          rintro _ _ w2 ⟨H3, D2, F2, rfl, rfl⟩
          have g7 := (F2 7 (by decide)).trans o1
          have g28 := (F2 28 (by decide)).trans o4
          have hI2 := hI1.step (rounds := rounds) (c := c) (ω := ω) hh.1
          unfold hs1 at hI2 ih1
          rw [if_neg h2n] at hI2 ih1
          generalize xs (cand ω c half (hP τ)) rounds (hF τ) (hU τ) (hA τ) (hB τ) = X at *
          obtain ⟨pf', un', fi', se'⟩ := X
          dsimp only [hP, hF, hX, hU, hA, hB] at *
          have hle := hI2.2.2
          have H5 : KN w2 ((half + 3) / 4) n dd p q dP dQ qI := o5.keep fun k a b => F2 k (by omega)
          have H6 : KT w2 ((half + 3) / 4) := o6.keep fun k a b => F2 k (by omega)
          have H7 : MSH w2 29 (2 * ((half + 3) / 4)) := o7.keep fun k a b => F2 k (by omega)
          have H8 : MSH w2 37 ((half + 3) / 4) := o8.keep fun k a b => F2 k (by omega)
          have H9 : MSH w2 45 ((half + 3) / 4) := o9.keep fun k a b => F2 k (by omega)
          have H11 : MSG w2 d len := o11.keep fun k a b => F2 k (by omega)
          refine r_aload_n dX7_search_58 rfl ?_
          refine r_getf dX7_search_59 fX7_40 (by repeat first | exact wu_eq | assumption | exact HS.o (by assumption) | exact MSG.o (by assumption) | exact DRW.o (by assumption) | (apply wu_ne; first | omega | assumption | (apply Ne.symm; assumption))) (by rfl) ?_
          refine r_invV dX7_search_62 kX7_90 (c_hasBothPrimes H3) rfl rfl (by repeat first | exact wu_eq | assumption | exact HS.o (by assumption) | exact MSG.o (by assumption) | exact DRW.o (by assumption) | (apply wu_ne; first | omega | assumption | (apply Ne.symm; assumption))) rfl rfl ⟨by decide, by decide⟩ (Nat.le_of_ble_eq_true rfl) ⟨by decide, by decide⟩ ⟨rfl, rfl⟩ ?_
          rintro _ _ _ ⟨rfl, rfl, rfl⟩
          by_cases hp2 : pf' = 2
          · rw [if_pos hp2]
            first | refine r_if_eqN (tgt := 89) dX7_search_65 (by decide) (by omega) (fun h65 => ?_) (fun h65 => ?_) | refine r_if_eq (tgt := 89) dX7_search_65 (by decide) (fun h65 => ?_) (fun h65 => ?_)
            · omega
            · refine r_aload_n dX7_search_68 rfl ?_
              refine r_getf dX7_search_69 fX7_49 (by repeat first | exact wu_eq | assumption | exact HS.o (by assumption) | exact MSG.o (by assumption) | exact DRW.o (by assumption) | (apply wu_ne; first | omega | assumption | (apply Ne.symm; assumption))) (by rfl) ?_
              refine r_aload_n dX7_search_72 rfl ?_
              refine r_getf dX7_search_73 fX7_40 (by repeat first | exact wu_eq | assumption | exact HS.o (by assumption) | exact MSG.o (by assumption) | exact DRW.o (by assumption) | (apply wu_ne; first | omega | assumption | (apply Ne.symm; assumption))) (by rfl) ?_
              refine r_invV dX7_search_76 kX7_93 (c_firstPrime H3) rfl rfl (by repeat first | exact wu_eq | assumption | exact HS.o (by assumption) | exact MSG.o (by assumption) | exact DRW.o (by assumption) | (apply wu_ne; first | omega | assumption | (apply Ne.symm; assumption))) rfl rfl ⟨by decide, by decide⟩ (Nat.le_of_ble_eq_true rfl) ⟨by decide, by decide⟩ ⟨rfl, rfl⟩ ?_
              rintro _ _ _ ⟨rfl, rfl, rfl⟩
              refine r_aload_n dX7_search_79 rfl ?_
              refine r_getf dX7_search_80 fX7_40 (by repeat first | exact wu_eq | assumption | exact HS.o (by assumption) | exact MSG.o (by assumption) | exact DRW.o (by assumption) | (apply wu_ne; first | omega | assumption | (apply Ne.symm; assumption))) (by rfl) ?_
              refine r_invV dX7_search_83 kX7_97 (c_secondPrime H3) rfl rfl (by repeat first | exact wu_eq | assumption | exact HS.o (by assumption) | exact MSG.o (by assumption) | exact DRW.o (by assumption) | (apply wu_ne; first | omega | assumption | (apply Ne.symm; assumption))) rfl rfl ⟨by decide, by decide⟩ (Nat.le_of_ble_eq_true rfl) ⟨by decide, by decide⟩ ⟨rfl, rfl⟩ ?_
              rintro _ _ _ ⟨rfl, rfl, rfl⟩
              obtain ⟨a1, a2, a3, a4, a6, a7, a8, a9, -⟩ := id H3
              have q1 := hI2.1 (show 1 ≤ pf' by omega)
              obtain ⟨q2, q3⟩ := hI2.2.1 hp2
              refine r_invV dX7_search_86 kX7_100 (c_make (W := (half + 3) / 4) (fi := fi') (se := se') g28 H5 H6 H7 H8 H9 a6 a7 a8 a9 (q1.one hh.1) (q2.one hh.1) q1.1 q2.1 q3 (by decide) (by decide) (by omega) (by omega)) rfl rfl (by repeat first | exact wu_eq | assumption | exact HS.o (by assumption) | exact MSG.o (by assumption) | exact DRW.o (by assumption) | (apply wu_ne; first | omega | assumption | (apply Ne.symm; assumption))) rfl rfl ⟨by decide, by decide⟩ (Nat.le_of_ble_eq_true rfl) ⟨by decide, by decide⟩ ⟨rfl, rfl⟩ ?_
              rintro _ _ w3 ⟨i28, KK, T3, F3, rfl, rfl⟩
              have G : ∀ k, (k < 8 ∨ 65 < k) → w3 k = w1 k := fun k a => (F3 k (by omega)).trans (F2 k (by omega))
              have HH : HW w3 half rounds c ω 1 (τ.1 + half, pf', τ.2.2.1 + 1, un', fi', se') d len R sg vf := ⟨(G 7 (by decide)).trans o1, D2.keep fun k a b => F3 k (by omega), H3.keep fun k a b => F3 k (by omega), by dsimp only [hF]; rw [hp2]; exact i28, ⟨_, _, _, _, _, _, _, KK.1⟩, T3, ⟨KK.2.1.sh, KK.2.2.1.sh, KK.2.2.2.sh⟩, fun _ => KK, H11.keep fun k a b => F3 k (by omega), ⟨(G 71 (by decide)).trans o12, o13⟩, ⟨e, (G 72 (by decide)).trans o14, o15⟩, ⟨e2, (G 73 (by decide)).trans o16, o17⟩, o18.keep fun k a => G k (by omega)⟩
              refine r_iinc (L0 := [(0, _), (1, _)]) dX7_search_89 rfl (by first | exact iinc1 _ | rfl) (by decide) rfl ?_
              refine r_goto (tgt := 36) dX7_search_92 (by decide) ?_
              exact ih1 w3 HH fun k a => (G k (by omega)).trans (F k a)
          · rw [if_neg hp2]
            first | refine r_if_eqN (tgt := 89) dX7_search_65 (by decide) (by omega) (fun h65 => ?_) (fun h65 => ?_) | refine r_if_eq (tgt := 89) dX7_search_65 (by decide) (fun h65 => ?_) (fun h65 => ?_)
            · refine r_iinc (L0 := [(0, _), (1, _)]) dX7_search_89 rfl (by first | exact iinc1 _ | rfl) (by decide) rfl ?_
              refine r_goto (tgt := 36) dX7_search_92 (by decide) ?_
              have G : ∀ k, (k < 8 ∨ 27 < k) → w2 k = w1 k := F2
              refine ih1 w2 ?_ fun k a => (G k (by omega)).trans (F k a)
              exact ⟨g7, D2, H3, by dsimp only [hF]; rw [show mk1 pf' = mk1 τ.2.1 by unfold mk1; rw [if_neg hp2, if_neg h2n]]; exact g28, ⟨_, _, _, _, _, _, _, H5⟩, H6, ⟨H7, H8, H9⟩, fun e => absurd e hp2, H11, ⟨(G 71 (by decide)).trans o12, o13⟩, ⟨e, (G 72 (by decide)).trans o14, o15⟩, ⟨e2, (G 73 (by decide)).trans o16, o17⟩, o18.keep fun k a => G k (by omega)⟩
            · omega
  obtain ⟨o1, o2, o3, o4, ⟨n, dd, p, q, dP, dQ, qI, o5⟩, o6, ⟨o7, o8, o9⟩, o10, o11, ⟨o12, o13⟩, ⟨e, o14, o15⟩, ⟨e2, o16, o17⟩, o18⟩ := id h
  have hc16 := o2.c16
  refine ab_Ct.of (by decide +kernel) (Nat.le_of_ble_eq_true rfl) (by rintro _ _ _ ⟨-, -, rfl, -⟩; trivial) ?_
  show ab_St MX7_search g 0 0 0 [(0, .ref 7), (1, .int (nI m))] [] _ _ _
  refine r_iload_n dX7_search_0 rfl ?_
  refine r_iconst (v := nI 1) dX7_search_1 (by decide) ?_
  first | refine r_icmp_ltN (tgt := 11) dX7_search_2 (by decide) (by omega) (by omega) (fun h2 => ?_) (fun h2 => ?_) | refine r_icmp_lt (tgt := 11) dX7_search_2 (by decide) (fun h2 => ?_) (fun h2 => ?_)
  · omega
  · refine r_iload_n dX7_search_5 rfl ?_
    refine r_bipush (v := nI 60) dX7_search_6 (by decide) ?_
    first | refine r_icmp_leN (tgt := 14) dX7_search_8 (by decide) (by omega) (by omega) (fun h8 => ?_) (fun h8 => ?_) | refine r_icmp_le (tgt := 14) dX7_search_8 (by decide) (fun h8 => ?_) (fun h8 => ?_)
    · refine r_aload_n dX7_search_14 rfl ?_
      refine r_getf dX7_search_15 fX7_31 (by repeat first | exact wu_eq | assumption | exact HS.o (by assumption) | exact MSG.o (by assumption) | exact DRW.o (by assumption) | (apply wu_ne; first | omega | assumption | (apply Ne.symm; assumption))) (by rfl) ?_
      refine r_invV dX7_search_18 kX7_74 (c_Draw_wordCount o2) rfl rfl (by repeat first | exact wu_eq | assumption | exact HS.o (by assumption) | exact MSG.o (by assumption) | exact DRW.o (by assumption) | (apply wu_ne; first | omega | assumption | (apply Ne.symm; assumption))) rfl rfl ⟨by decide, by decide⟩ (Nat.le_of_ble_eq_true rfl) ⟨by decide, by decide⟩ ⟨rfl, rfl⟩ ?_
      rintro _ _ _ ⟨rfl, rfl, rfl⟩
      first | refine r_if_neN (tgt := 27) dX7_search_21 (by decide) (by omega) (fun h21 => ?_) (fun h21 => ?_) | refine r_if_ne (tgt := 27) dX7_search_21 (by decide) (fun h21 => ?_) (fun h21 => ?_)
      · refine r_aload_n dX7_search_27 rfl ?_
        refine r_getf dX7_search_28 fX7_40 (by repeat first | exact wu_eq | assumption | exact HS.o (by assumption) | exact MSG.o (by assumption) | exact DRW.o (by assumption) | (apply wu_ne; first | omega | assumption | (apply Ne.symm; assumption))) (by rfl) ?_
        refine r_invV dX7_search_31 kX7_81 (c_begin o3) rfl rfl (by repeat first | exact wu_eq | assumption | exact HS.o (by assumption) | exact MSG.o (by assumption) | exact DRW.o (by assumption) | (apply wu_ne; first | omega | assumption | (apply Ne.symm; assumption))) rfl rfl ⟨by decide, by decide⟩ (Nat.le_of_ble_eq_true rfl) ⟨by decide, by decide⟩ ⟨rfl, rfl⟩ ?_
        rintro _ _ w1 ⟨H1, F1, rfl, rfl⟩
        refine r_iconst (v := nI 0) dX7_search_34 (by decide) ?_
        refine r_istore_n (i := 2) (L0 := [(0, _), (1, _)]) dX7_search_35 rfl (by decide) rfl ?_
        refine K m 0 (by omega) w1 ?_ fun k a => F1 k (by omega)
        exact ⟨(F1 7 (by decide)).trans o1, o2.keep fun k a b => F1 k (by omega), H1, (F1 28 (by decide)).trans o4, ⟨_, _, _, _, _, _, _, o5.keep fun k a b => F1 k (by omega)⟩, o6.keep fun k a b => F1 k (by omega), ⟨o7.keep fun k a b => F1 k (by omega), o8.keep fun k a b => F1 k (by omega), o9.keep fun k a b => F1 k (by omega)⟩, fun e => (o10 e).keep fun k a b => F1 k (by omega), o11.keep fun k a b => F1 k (by omega), ⟨(F1 71 (by decide)).trans o12, o13⟩, ⟨e, (F1 72 (by decide)).trans o14, o15⟩, ⟨e2, (F1 73 (by decide)).trans o16, o17⟩, o18.keep fun k a => F1 k (by omega)⟩
      · omega
    · omega
