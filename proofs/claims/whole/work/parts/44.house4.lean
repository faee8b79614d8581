/-! SignHouse: its world -/
theorem HS.o {w : ab_W} {half rounds W bg pf ex un fi se : Nat} (h : HS w half rounds W bg pf ex un fi se) : w 13 = huO half rounds bg pf ex un := h.1
theorem MSG.o {w : ab_W} {d : Nat → Nat} {n : Nat} (h : MSG w d n) : w 66 = meO n := by
  obtain ⟨f, a0, -⟩ := h
  exact a0
theorem DRW.o {w : ab_W} {D c : Nat} {ω : Nat → Nat} {P : Nat} (h : DRW w D c ω P) : w D = drO D c ((P + 31) / 32) (32 * ((P + 31) / 32) - P) := by
  obtain ⟨e, st, f, a0, -⟩ := h
  exact a0
abbrev hT : Type := Nat × Nat × Nat × Nat × Nat × Nat
abbrev hP (σ : hT) : Nat := σ.1
abbrev hF (σ : hT) : Nat := σ.2.1
abbrev hX (σ : hT) : Nat := σ.2.2.1
abbrev hU (σ : hT) : Nat := σ.2.2.2.1
abbrev hA (σ : hT) : Nat := σ.2.2.2.2.1
abbrev hB (σ : hT) : Nat := σ.2.2.2.2.2
def mk1 (pf : Nat) : Nat := if pf = 2 then 1 else 0
theorem mk1_lt (pf : Nat) : mk1 pf < 2 := by unfold mk1; split <;> decide
theorem mk1_0 {pf : Nat} (h : mk1 pf = 0) : pf ≠ 2 := by
  intro e
  unfold mk1 at h
  rw [if_pos e] at h
  exact absurd h (by decide)
theorem mk1_1 {pf : Nat} (h : ¬ mk1 pf = 0) : pf = 2 := by
  refine Classical.not_not.mp fun e => h ?_
  unfold mk1
  rw [if_neg e]
/-- a number that may be a key's prime -/
def PRM (C half : Nat) : Prop := C % 2 = 1 ∧ 256 ^ (half - 1) ≤ C ∧ C < 256 ^ half ∧ C % 65537 ≠ 1
def INV (half : Nat) (σ : hT) : Prop := (1 ≤ hF σ → PRM (hA σ) half) ∧ (hF σ = 2 → PRM (hB σ) half ∧ hA σ ≠ hB σ) ∧ hF σ ≤ 2
theorem PRM.one {C half : Nat} (h : PRM C half) (hh : 31 ≤ half) : 1 < C := by
  have o1 : (256 : Nat) ^ 1 ≤ 256 ^ (half - 1) := Nat.pow_le_pow_right (by decide) (by omega)
  have o2 := h.2.1
  omega
def HW (w : ab_W) (half rounds c : Nat) (ω : Nat → Nat) (bg : Nat) (σ : hT) (d : Nat → Nat) (len R sg vf : Nat) : Prop :=
  w 7 = hoO half rounds sg vf ∧ DRW w 8 c ω (hP σ) ∧ HS w half rounds ((half + 3) / 4) bg (hF σ) (hX σ) (hU σ) (hA σ) (hB σ) ∧ w 28 = krO (mk1 (hF σ)) ∧ (∃ n dd p q dP dQ qI, KN w ((half + 3) / 4) n dd p q dP dQ qI) ∧ KT w ((half + 3) / 4) ∧ (MSH w 29 (2 * ((half + 3) / 4)) ∧ MSH w 37 ((half + 3) / 4) ∧ MSH w 45 ((half + 3) / 4)) ∧ (hF σ = 2 → KOK w ((half + 3) / 4) (max (hA σ) (hB σ)) (min (hA σ) (hB σ))) ∧ MSG w d len ∧ (w 71 = aN (2 * ((half + 3) / 4)) R ∧ R < 256 ^ (2 * half)) ∧ (∃ e, w 72 = aN (2 * ((half + 3) / 4)) e ∧ e < 256 ^ (2 * half)) ∧ (∃ e, w 73 = aN (2 * ((half + 3) / 4)) e ∧ e < 4294967296 ^ (2 * ((half + 3) / 4))) ∧ EXT w
theorem KOK.keep {w w' : ab_W} {W p q : Nat} (h : KOK w W p q) (hk : ∀ k, 29 ≤ k → k ≤ 59 → w' k = w k) : KOK w' W p q := by
  obtain ⟨o1, o2, o3, o4⟩ := h
  exact ⟨o1.keep fun k a b => hk k (by omega) (by omega), o2.keep fun k a b => hk k (by omega) (by omega), o3.keep fun k a b => hk k (by omega) (by omega), o4.keep fun k a b => hk k (by omega) (by omega)⟩
theorem HW.keep {w w' : ab_W} {half rounds c : Nat} {ω : Nat → Nat} {bg : Nat} {σ : hT} {d : Nat → Nat} {len R sg vf : Nat} (h : HW w half rounds c ω bg σ d len R sg vf) (hk : ∀ k, k < 74 → w' k = w k) : HW w' half rounds c ω bg σ d len R sg vf := by
  obtain ⟨o1, o2, o3, o4, ⟨n, dd, p, q, dP, dQ, qI, o5⟩, o6, ⟨o7, o8, o9⟩, o10, o11, ⟨o12, o13⟩, ⟨e, o14, o15⟩, ⟨e2, o16, o17⟩, o18⟩ := h
  exact ⟨(hk 7 (by decide)).trans o1, o2.keep fun k a b => hk k (by omega), o3.keep fun k a b => hk k (by omega), (hk 28 (by decide)).trans o4, ⟨n, dd, p, q, dP, dQ, qI, o5.keep fun k a b => hk k (by omega)⟩, o6.keep fun k a b => hk k (by omega), ⟨o7.keep fun k a b => hk k (by omega), o8.keep fun k a b => hk k (by omega), o9.keep fun k a b => hk k (by omega)⟩, fun e => (o10 e).keep fun k a b => hk k (by omega), o11.keep fun k a b => hk k (by omega), ⟨(hk 71 (by decide)).trans o12, o13⟩, ⟨e, (hk 72 (by decide)).trans o14, o15⟩, ⟨e2, (hk 73 (by decide)).trans o16, o17⟩, o18.keep fun k a => hk k (by omega)⟩
theorem HW.half {w : ab_W} {half rounds c : Nat} {ω : Nat → Nat} {bg : Nat} {σ : hT} {d : Nat → Nat} {len R sg vf : Nat} (h : HW w half rounds c ω bg σ d len R sg vf) : 31 ≤ half ∧ half ≤ 40 ∧ rounds ≤ 8 ∧ hF σ ≤ 2 ∧ bg < 2 := by
  obtain ⟨o1, o2, o3, -⟩ := h
  obtain ⟨a1, a2, a3, a4, a6, a7, a8, a9, a10, a11, a12, a13, a14, a15⟩ := o3
  exact ⟨a11, a12, a13, a14, a15⟩
/-- an argument below 0 -/
theorem neg_lt {x : Int32} {n : Nat} (hx : x < 0) (hn : n < 2147483648) : x < nI n := by
  have o1 : (0 : Int32) ≤ nI n := nI_pos' hn
  exact Int32.lt_of_lt_of_le hx o1
theorem neg_nle {x : Int32} {n : Nat} (hx : x < 0) (hn : n < 2147483648) : ¬ nI n ≤ x := fun h => Int32.lt_irrefl (Int32.lt_of_lt_of_le (neg_lt hx hn) h)
theorem i32_cases (x : Int32) : x < 0 ∨ ∃ n, n < 2147483648 ∧ x = nI n := by
  obtain ⟨n, hn, rfl⟩ := wb_of32 x
  by_cases h : n < 2147483648
  · exact Or.inr ⟨n, h, rfl⟩
  · left
    rw [Int32.lt_iff_toInt_lt]
    show (BitVec.ofNat 32 n).toInt < 0
    rw [BitVec.toInt_eq_toNat_bmod, BitVec.toNat_ofNat, Int.bmod_def]
    have : n < 4294967296 := hn
    rw [if_neg (by omega)]
    omega
/-! SignHouse: seed -/
set_option maxRecDepth 100000 in
set_option maxHeartbeats 4000000 in
theorem c_seed_no {g : ab_G} {N half rounds c : Nat} {ω : Nat → Nat} {σ : hT} {d : Nat → Nat} {len R sg vf : Nat} {x : Int32} {w : ab_W} (h : HW w half rounds c ω 1 σ d len R sg vf) : ab_Ct MX7_seed g [.ref 7, .int x] N w (rp (some (.int (-3))) N w) := by
  obtain ⟨o1, o2, o3, -⟩ := id h
  refine ab_Ct.of (by decide +kernel) (Nat.le_of_ble_eq_true rfl) (by rintro _ _ _ ⟨rfl, rfl, rfl⟩; trivial) ?_
  show ab_St MX7_seed g 0 0 0 [(0, .ref 7), (1, .int x)] [] _ _ _
  refine r_aload_n dX7_seed_0 rfl ?_
  refine r_getf dX7_seed_1 fX7_40 (by repeat first | exact wu_eq | assumption | exact HS.o (by assumption) | exact MSG.o (by assumption) | exact DRW.o (by assumption) | (apply wu_ne; first | omega | assumption | (apply Ne.symm; assumption))) (by rfl) ?_
  refine r_invV dX7_seed_4 kX7_70 (c_hasBegun o3) rfl rfl (by repeat first | exact wu_eq | assumption | exact HS.o (by assumption) | exact MSG.o (by assumption) | exact DRW.o (by assumption) | (apply wu_ne; first | omega | assumption | (apply Ne.symm; assumption))) rfl rfl ⟨by decide, by decide⟩ (Nat.le_of_ble_eq_true rfl) ⟨by decide, by decide⟩ ⟨rfl, rfl⟩ ?_
  rintro _ _ _ ⟨rfl, rfl, rfl⟩
  first | refine r_if_eqN (tgt := 13) dX7_seed_7 (by decide) (by omega) (fun h7 => ?_) (fun h7 => ?_) | refine r_if_eq (tgt := 13) dX7_seed_7 (by decide) (fun h7 => ?_) (fun h7 => ?_)
  · omega
  · refine r_bipush (v := (-3)) dX7_seed_10 (by decide) ?_
    refine r_ret (r := (some (.int _))) dX7_seed_12 (by decide) (by decide) ?_
    exact ⟨rfl, rfl, rfl⟩
set_option maxRecDepth 100000 in
set_option maxHeartbeats 4000000 in
theorem c_seed_full {g : ab_G} {N half rounds c : Nat} {ω : Nat → Nat} {σ : hT} {d : Nat → Nat} {len R sg vf : Nat} {x : Int32} {w : ab_W} (h : HW w half rounds c ω 0 σ d len R sg vf) (hc : 16 ≤ c) (hc2 : c < 100) : ab_Ct MX7_seed g [.ref 7, .int x] N w (rp (some (.int (-4))) N w) := by
  obtain ⟨o1, o2, o3, -⟩ := id h
  refine ab_Ct.of (by decide +kernel) (Nat.le_of_ble_eq_true rfl) (by rintro _ _ _ ⟨rfl, rfl, rfl⟩; trivial) ?_
  show ab_St MX7_seed g 0 0 0 [(0, .ref 7), (1, .int x)] [] _ _ _
  refine r_aload_n dX7_seed_0 rfl ?_
  refine r_getf dX7_seed_1 fX7_40 (by repeat first | exact wu_eq | assumption | exact HS.o (by assumption) | exact MSG.o (by assumption) | exact DRW.o (by assumption) | (apply wu_ne; first | omega | assumption | (apply Ne.symm; assumption))) (by rfl) ?_
  refine r_invV dX7_seed_4 kX7_70 (c_hasBegun o3) rfl rfl (by repeat first | exact wu_eq | assumption | exact HS.o (by assumption) | exact MSG.o (by assumption) | exact DRW.o (by assumption) | (apply wu_ne; first | omega | assumption | (apply Ne.symm; assumption))) rfl rfl ⟨by decide, by decide⟩ (Nat.le_of_ble_eq_true rfl) ⟨by decide, by decide⟩ ⟨rfl, rfl⟩ ?_
  rintro _ _ _ ⟨rfl, rfl, rfl⟩
  first | refine r_if_eqN (tgt := 13) dX7_seed_7 (by decide) (by omega) (fun h7 => ?_) (fun h7 => ?_) | refine r_if_eq (tgt := 13) dX7_seed_7 (by decide) (fun h7 => ?_) (fun h7 => ?_)
  · refine r_aload_n dX7_seed_13 rfl ?_
    refine r_getf dX7_seed_14 fX7_31 (by repeat first | exact wu_eq | assumption | exact HS.o (by assumption) | exact MSG.o (by assumption) | exact DRW.o (by assumption) | (apply wu_ne; first | omega | assumption | (apply Ne.symm; assumption))) (by rfl) ?_
    refine r_invV dX7_seed_17 kX7_74 (c_Draw_wordCount o2) rfl rfl (by repeat first | exact wu_eq | assumption | exact HS.o (by assumption) | exact MSG.o (by assumption) | exact DRW.o (by assumption) | (apply wu_ne; first | omega | assumption | (apply Ne.symm; assumption))) rfl rfl ⟨by decide, by decide⟩ (Nat.le_of_ble_eq_true rfl) ⟨by decide, by decide⟩ ⟨rfl, rfl⟩ ?_
    rintro _ _ _ ⟨rfl, rfl, rfl⟩
    refine r_bipush (v := nI 16) dX7_seed_20 (by decide) ?_
    first | refine r_icmp_ltN (tgt := 28) dX7_seed_22 (by decide) (by omega) (by omega) (fun h22 => ?_) (fun h22 => ?_) | refine r_icmp_lt (tgt := 28) dX7_seed_22 (by decide) (fun h22 => ?_) (fun h22 => ?_)
    · omega
    · refine r_bipush (v := (-4)) dX7_seed_25 (by decide) ?_
      refine r_ret (r := (some (.int _))) dX7_seed_27 (by decide) (by decide) ?_
      exact ⟨rfl, rfl, rfl⟩
  · omega
set_option maxRecDepth 100000 in
set_option maxHeartbeats 4000000 in
theorem c_seed {g : ab_G} {N half rounds c u : Nat} {ω : Nat → Nat} {σ : hT} {d : Nat → Nat} {len R sg vf : Nat} {w : ab_W} (h : HW w half rounds c ω 0 σ d len R sg vf) (hc : c < 16) (hP0 : hP σ = 0) (hu : u < 4294967296) : ab_Ct MX7_seed g [.ref 7, .int (nI u)] N w (fun r N' w' => HW w' half rounds (c + 1) (fun k => if k = c then u else ω k) 0 σ d len R sg vf ∧ (∀ k, 73 < k → w' k = w k) ∧ r = some (.int (nI (c + 1))) ∧ N = N') := by
  obtain ⟨o1, o2, o3, o4, ⟨n, dd, p, q, dP, dQ, qI, o5⟩, o6, ⟨o7, o8, o9⟩, o10, o11, ⟨o12, o13⟩, ⟨e, o14, o15⟩, ⟨e2, o16, o17⟩, o18⟩ := id h
  rw [hP0] at o2
  refine ab_Ct.of (by decide +kernel) (Nat.le_of_ble_eq_true rfl) (by rintro _ _ _ ⟨-, -, rfl, -⟩; trivial) ?_
  show ab_St MX7_seed g 0 0 0 [(0, .ref 7), (1, .int (nI u))] [] _ _ _
  refine r_aload_n dX7_seed_0 rfl ?_
  refine r_getf dX7_seed_1 fX7_40 (by repeat first | exact wu_eq | assumption | exact HS.o (by assumption) | exact MSG.o (by assumption) | exact DRW.o (by assumption) | (apply wu_ne; first | omega | assumption | (apply Ne.symm; assumption))) (by rfl) ?_
  refine r_invV dX7_seed_4 kX7_70 (c_hasBegun o3) rfl rfl (by repeat first | exact wu_eq | assumption | exact HS.o (by assumption) | exact MSG.o (by assumption) | exact DRW.o (by assumption) | (apply wu_ne; first | omega | assumption | (apply Ne.symm; assumption))) rfl rfl ⟨by decide, by decide⟩ (Nat.le_of_ble_eq_true rfl) ⟨by decide, by decide⟩ ⟨rfl, rfl⟩ ?_
  rintro _ _ _ ⟨rfl, rfl, rfl⟩
  first | refine r_if_eqN (tgt := 13) dX7_seed_7 (by decide) (by omega) (fun h7 => ?_) (fun h7 => ?_) | refine r_if_eq (tgt := 13) dX7_seed_7 (by decide) (fun h7 => ?_) (fun h7 => ?_)
  · refine r_aload_n dX7_seed_13 rfl ?_
    refine r_getf dX7_seed_14 fX7_31 (by repeat first | exact wu_eq | assumption | exact HS.o (by assumption) | exact MSG.o (by assumption) | exact DRW.o (by assumption) | (apply wu_ne; first | omega | assumption | (apply Ne.symm; assumption))) (by rfl) ?_
    refine r_invV dX7_seed_17 kX7_74 (c_Draw_wordCount o2) rfl rfl (by repeat first | exact wu_eq | assumption | exact HS.o (by assumption) | exact MSG.o (by assumption) | exact DRW.o (by assumption) | (apply wu_ne; first | omega | assumption | (apply Ne.symm; assumption))) rfl rfl ⟨by decide, by decide⟩ (Nat.le_of_ble_eq_true rfl) ⟨by decide, by decide⟩ ⟨rfl, rfl⟩ ?_
    rintro _ _ _ ⟨rfl, rfl, rfl⟩
    refine r_bipush (v := nI 16) dX7_seed_20 (by decide) ?_
    first | refine r_icmp_ltN (tgt := 28) dX7_seed_22 (by decide) (by omega) (by omega) (fun h22 => ?_) (fun h22 => ?_) | refine r_icmp_lt (tgt := 28) dX7_seed_22 (by decide) (fun h22 => ?_) (fun h22 => ?_)
    · refine r_aload_n dX7_seed_28 rfl ?_
      refine r_getf dX7_seed_29 fX7_31 (by repeat first | exact wu_eq | assumption | exact HS.o (by assumption) | exact MSG.o (by assumption) | exact DRW.o (by assumption) | (apply wu_ne; first | omega | assumption | (apply Ne.symm; assumption))) (by rfl) ?_
      refine r_iload_n dX7_seed_32 rfl ?_
      refine r_invV dX7_seed_33 kX7_78 (c_addWord (c := c) o2 hc hu) rfl rfl (by repeat first | exact wu_eq | assumption | exact HS.o (by assumption) | exact MSG.o (by assumption) | exact DRW.o (by assumption) | (apply wu_ne; first | omega | assumption | (apply Ne.symm; assumption))) rfl rfl ⟨by decide, by decide⟩ (Nat.le_of_ble_eq_true rfl) ⟨by decide, by decide⟩ ⟨rfl, rfl⟩ ?_
      rintro _ _ w1 ⟨d1, f1, rfl, rfl⟩
      have e7 := (f1 7 (by decide)).trans o1
      refine r_aload_n dX7_seed_36 rfl ?_
      refine r_getf dX7_seed_37 fX7_31 (by repeat first | exact wu_eq | assumption | exact HS.o (by assumption) | exact MSG.o (by assumption) | exact DRW.o (by assumption) | (apply wu_ne; first | omega | assumption | (apply Ne.symm; assumption))) (by rfl) ?_
      refine r_invV dX7_seed_40 kX7_74 (c_Draw_wordCount d1) rfl rfl (by repeat first | exact wu_eq | assumption | exact HS.o (by assumption) | exact MSG.o (by assumption) | exact DRW.o (by assumption) | (apply wu_ne; first | omega | assumption | (apply Ne.symm; assumption))) rfl rfl ⟨by decide, by decide⟩ (Nat.le_of_ble_eq_true rfl) ⟨by decide, by decide⟩ ⟨rfl, rfl⟩ ?_
      rintro _ _ _ ⟨rfl, rfl, rfl⟩
      refine r_ret (r := (some (.int _))) dX7_seed_43 (by decide) (by decide) ?_
      have hk : ∀ k, (k < 8 ∨ 12 < k) → w1 k = w k := f1
      refine ⟨⟨e7, by rw [hP0]; exact d1, o3.keep fun k a b => hk k (by omega), (hk 28 (by decide)).trans o4, ⟨n, dd, p, q, dP, dQ, qI, o5.keep fun k a b => hk k (by omega)⟩, o6.keep fun k a b => hk k (by omega), ⟨o7.keep fun k a b => hk k (by omega), o8.keep fun k a b => hk k (by omega), o9.keep fun k a b => hk k (by omega)⟩, fun e => (o10 e).keep fun k a b => hk k (by omega), o11.keep fun k a b => hk k (by omega), ⟨(hk 71 (by decide)).trans o12, o13⟩, ⟨e, (hk 72 (by decide)).trans o14, o15⟩, ⟨e2, (hk 73 (by decide)).trans o16, o17⟩, o18.keep fun k a => hk k (by omega)⟩, fun k a => hk k (by omega), rfl, rfl⟩
    · omega
  · omega
/-! SignHouse: forget -/
set_option maxRecDepth 100000 in
set_option maxHeartbeats 4000000 in
theorem c_forget {g : ab_G} {N half rounds c bg : Nat} {ω : Nat → Nat} {σ : hT} {d : Nat → Nat} {len R sg vf : Nat} {w : ab_W} (h : HW w half rounds c ω bg σ d len R sg vf) : ab_Ct MX7_forget g [.ref 7] N w (fun r N' w' => HW w' half rounds 0 (fun _ => 0) 0 (0, 0, 0, 0, hA σ, hB σ) d len R sg vf ∧ (∀ k, 73 < k → w' k = w k) ∧ r = some (.int (nI (hX σ))) ∧ N = N') := by
  obtain ⟨o1, o2, o3, o4, ⟨n, dd, p, q, dP, dQ, qI, o5⟩, o6, ⟨o7, o8, o9⟩, o10, o11, ⟨o12, o13⟩, ⟨e, o14, o15⟩, ⟨e2, o16, o17⟩, o18⟩ := id h
  refine ab_Ct.of (by decide +kernel) (Nat.le_of_ble_eq_true rfl) (by rintro _ _ _ ⟨-, -, rfl, -⟩; trivial) ?_
  show ab_St MX7_forget g 0 0 0 [(0, .ref 7)] [] _ _ _
  refine r_aload_n dX7_forget_0 rfl ?_
  refine r_getf dX7_forget_1 fX7_40 (by repeat first | exact wu_eq | assumption | exact HS.o (by assumption) | exact MSG.o (by assumption) | exact DRW.o (by assumption) | (apply wu_ne; first | omega | assumption | (apply Ne.symm; assumption))) (by rfl) ?_
  refine r_invV dX7_forget_4 kX7_104 (c_examinedCount o3) rfl rfl (by repeat first | exact wu_eq | assumption | exact HS.o (by assumption) | exact MSG.o (by assumption) | exact DRW.o (by assumption) | (apply wu_ne; first | omega | assumption | (apply Ne.symm; assumption))) rfl rfl ⟨by decide, by decide⟩ (Nat.le_of_ble_eq_true rfl) ⟨by decide, by decide⟩ ⟨rfl, rfl⟩ ?_
  rintro _ _ _ ⟨rfl, rfl, rfl⟩
  refine r_istore_n (i := 1) (L0 := [(0, _)]) dX7_forget_7 rfl (by decide) rfl ?_
  refine r_aload_n dX7_forget_8 rfl ?_
  refine r_getf dX7_forget_9 fX7_31 (by repeat first | exact wu_eq | assumption | exact HS.o (by assumption) | exact MSG.o (by assumption) | exact DRW.o (by assumption) | (apply wu_ne; first | omega | assumption | (apply Ne.symm; assumption))) (by rfl) ?_
  refine r_invV dX7_forget_12 kX7_107 (c_Draw_clear o2) rfl rfl (by repeat first | exact wu_eq | assumption | exact HS.o (by assumption) | exact MSG.o (by assumption) | exact DRW.o (by assumption) | (apply wu_ne; first | omega | assumption | (apply Ne.symm; assumption))) rfl rfl ⟨by decide, by decide⟩ (Nat.le_of_ble_eq_true rfl) ⟨by decide, by decide⟩ ⟨rfl, rfl⟩ ?_
  rintro _ _ w1 ⟨d1, f1, rfl, rfl⟩
  have e7 := (f1 7 (by decide)).trans o1
  have H3 : HS w1 half rounds ((half + 3) / 4) bg (hF σ) (hX σ) (hU σ) (hA σ) (hB σ) := o3.keep fun k a b => f1 k (by omega)
  refine r_aload_n dX7_forget_15 rfl ?_
  refine r_getf dX7_forget_16 fX7_40 (by repeat first | exact wu_eq | assumption | exact HS.o (by assumption) | exact MSG.o (by assumption) | exact DRW.o (by assumption) | (apply wu_ne; first | omega | assumption | (apply Ne.symm; assumption))) (by rfl) ?_
  refine r_invV dX7_forget_19 kX7_110 (c_Hunt_clear H3) rfl rfl (by repeat first | exact wu_eq | assumption | exact HS.o (by assumption) | exact MSG.o (by assumption) | exact DRW.o (by assumption) | (apply wu_ne; first | omega | assumption | (apply Ne.symm; assumption))) rfl rfl ⟨by decide, by decide⟩ (Nat.le_of_ble_eq_true rfl) ⟨by decide, by decide⟩ ⟨rfl, rfl⟩ ?_
  rintro _ _ w2 ⟨H4, f2, rfl, rfl⟩
  have g7 := (f2 7 (by decide)).trans e7
  have g28 := (f2 28 (by decide)).trans ((f1 28 (by decide)).trans o4)
  refine r_aload_n dX7_forget_22 rfl ?_
  refine r_getf dX7_forget_23 fX7_49 (by repeat first | exact wu_eq | assumption | exact HS.o (by assumption) | exact MSG.o (by assumption) | exact DRW.o (by assumption) | (apply wu_ne; first | omega | assumption | (apply Ne.symm; assumption))) (by rfl) ?_
  refine r_invV dX7_forget_26 kX7_111 (c_K_clear g28) rfl rfl (by repeat first | exact wu_eq | assumption | exact HS.o (by assumption) | exact MSG.o (by assumption) | exact DRW.o (by assumption) | (apply wu_ne; first | omega | assumption | (apply Ne.symm; assumption))) rfl rfl ⟨by decide, by decide⟩ (Nat.le_of_ble_eq_true rfl) ⟨by decide, by decide⟩ ⟨rfl, rfl⟩ ?_
  rintro _ _ _ ⟨rfl, rfl, rfl⟩
  refine r_iload_n dX7_forget_29 rfl ?_
  refine r_ret (r := (some (.int _))) dX7_forget_30 (by decide) (by decide) ?_
  have hk : ∀ k, k ≠ 8 → k ≠ 13 → k ≠ 28 → wu w2 28 (krO 0) k = w k := fun k a b c => (wu_ne c rfl).trans ((f2 k b).trans (f1 k a))
  refine ⟨⟨(wu_ne (by decide) rfl).trans g7, (d1.keep fun k a b => f2 k (by omega)).keep fun k a b => wu_ne (by omega) rfl, H4.keep fun k a b => wu_ne (by omega) rfl, wu_eq, ⟨n, dd, p, q, dP, dQ, qI, o5.keep fun k a b => hk k (by omega) (by omega) (by omega)⟩, o6.keep fun k a b => hk k (by omega) (by omega) (by omega), ⟨o7.keep fun k a b => hk k (by omega) (by omega) (by omega), o8.keep fun k a b => hk k (by omega) (by omega) (by omega), o9.keep fun k a b => hk k (by omega) (by omega) (by omega)⟩, fun e => absurd (show (0 : Nat) = 2 from e) (by decide), o11.keep fun k a b => hk k (by omega) (by omega) (by omega), ⟨(hk 71 (by decide) (by decide) (by decide)).trans o12, o13⟩, ⟨e, (hk 72 (by decide) (by decide) (by decide)).trans o14, o15⟩, ⟨e2, (hk 73 (by decide) (by decide) (by decide)).trans o16, o17⟩, o18.keep fun k a => hk k (by omega) (by omega) (by omega)⟩, fun k a => hk k (by omega) (by omega) (by omega), rfl, rfl⟩
