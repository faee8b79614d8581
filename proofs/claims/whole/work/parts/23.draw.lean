/-! SignHouse$Draw: the object at D, its bytes at D + 1, its hash at D + 2 -/
abbrev drO (D : Nat) (c b l : Nat) : ab_C := aO 0 [.ref (D + 1), .ref (D + 2), .int (nI c), .int (nI b), .int (nI l)]
/-- byte j of a word, the highest first -/
def wb (u j : Nat) : Nat := u / 2 ^ (24 - 8 * j) % 256
theorem wb_lt (u j : Nat) : wb u j < 256 := Nat.mod_lt _ (by decide)
theorem i8_low (y : Nat) : (nI y).toInt8.toInt32 = (nI (y % 256)).toInt8.toInt32 := by
  congr 1
  apply Int8.toBitVec_inj.mp
  show (BitVec.ofNat 32 y).signExtend 8 = (BitVec.ofNat 32 (y % 256)).signExtend 8
  rw [BitVec.signExtend_eq_setWidth_of_le _ (by decide), BitVec.signExtend_eq_setWidth_of_le _ (by decide)]
  apply BitVec.eq_of_toNat_eq
  simp only [BitVec.toNat_setWidth, BitVec.toNat_ofNat]
  omega
theorem i8_i8 (a : Int8) : a.toInt32.toInt8.toInt32 = a.toInt32 := by
  congr 1
  exact Int8.toInt8_toInt32 a
/-- the words' bytes, then those of the block's number -/
def dwd (ω : Nat → Nat) (c k : Nat) : Nat → Nat := fun i => if i < 4 * c then wb (ω (i / 4)) (i % 4) else wb k (i - 4 * c)
def blk (ω : Nat → Nat) (c k : Nat) : Nat → Int32 := sha (dwd ω c (k % 4294967296)) (4 * c + 4)
/-- byte P of the draw -/
def dby (ω : Nat → Nat) (c P : Nat) : Nat := hby (blk ω c (P / 32)) (P % 32)
theorem nI_mod (n : Nat) : nI n = nI (n % 4294967296) := by
  apply Int32.toBitVec_inj.mp
  show BitVec.ofNat 32 n = BitVec.ofNat 32 (n % 4294967296)
  apply BitVec.eq_of_toNat_eq
  simp
set_option maxRecDepth 100000 in
set_option maxHeartbeats 4000000 in
theorem c_putWord {g : ab_G} {N D c b l u : Nat} {e : Nat → Nat} {w : ab_W} (hD : w D = drO D c b l) (he : w (D + 1) = aB 68 (byt e)) (hc : c ≤ 16) (hu : u < 4294967296) : ab_Ct MX0_putWord g [.ref D, .int (nI u)] N w (rt none N (wu w (D + 1) (aB 68 (byt (fun i => if 4 * c ≤ i ∧ i < 4 * c + 4 then wb u (i - 4 * c) else e i))))) := by
  have K : ∀ k j, j + k = 4 → ab_St MX0_putWord g 0 0 2 [(2, .int (nI j)), (0, .ref D), (1, .int (nI u))] [] N (wu w (D + 1) (aB 68 (byt (fun i => if 4 * c ≤ i ∧ i < 4 * c + j then wb u (i - 4 * c) else e i)))) (rt none N (wu w (D + 1) (aB 68 (byt (fun i => if 4 * c ≤ i ∧ i < 4 * c + 4 then wb u (i - 4 * c) else e i))))) := by
    intro k
    induction k with
    | zero =>
      intro j hj
      obtain rfl : j = 4 := by omega
      refine r_iload_n dX0_putWord_2 rfl ?_
      refine r_iconst (v := nI 4) dX0_putWord_3 (by decide) ?_
      first | refine r_icmp_geN (tgt := 51) dX0_putWord_4 (by decide) (by omega) (by omega) (fun h4 => ?_) (fun h4 => ?_) | refine r_icmp_ge (tgt := 51) dX0_putWord_4 (by decide) (fun h4 => ?_) (fun h4 => ?_)
      · refine r_ret (r := none) dX0_putWord_51 (by decide) (by decide) ?_
        exact ⟨rfl, rfl, rfl⟩
      · omega
    | succ k ih =>
      intro j hj
      refine r_iload_n dX0_putWord_2 rfl ?_
      refine r_iconst (v := nI 4) dX0_putWord_3 (by decide) ?_
      first | refine r_icmp_geN (tgt := 51) dX0_putWord_4 (by decide) (by omega) (by omega) (fun h4 => ?_) (fun h4 => ?_) | refine r_icmp_ge (tgt := 51) dX0_putWord_4 (by decide) (fun h4 => ?_) (fun h4 => ?_)
      · omega
      · refine r_iconst (v := nI 4) dX0_putWord_7 (by decide) ?_
        refine r_aload_n dX0_putWord_8 rfl ?_
        refine r_getf dX0_putWord_9 fX0_22 (by repeat first | exact wu_eq | assumption | (apply wu_ne; first | omega | assumption | (apply Ne.symm; assumption))) (by rfl) ?_
        first | refine r_imulN dX0_putWord_12 ?_ | refine r_imul dX0_putWord_12 ?_
        refine r_iload_n dX0_putWord_13 rfl ?_
        first | refine r_iaddN dX0_putWord_14 ?_ | refine r_iadd dX0_putWord_14 ?_
        refine r_istore_n (i := 3) (L0 := [(2, _), (0, _), (1, _)]) dX0_putWord_15 rfl (by decide) rfl ?_
        refine r_iload_n dX0_putWord_16 rfl ?_
        first | refine r_if_ltN (tgt := 45) dX0_putWord_17 (by decide) (by omega) (fun h17 => ?_) | refine r_if_lt (tgt := 45) dX0_putWord_17 (by decide) (fun h17 => ?_) (fun h17 => ?_)
        refine r_iload_n dX0_putWord_20 rfl ?_
        refine r_aload_n dX0_putWord_21 rfl ?_
        refine r_getf dX0_putWord_22 fX0_11 (by repeat first | exact wu_eq | assumption | (apply wu_ne; first | omega | assumption | (apply Ne.symm; assumption))) (by rfl) ?_
        refine r_alen' dX0_putWord_25 (by repeat first | exact wu_eq | assumption | (apply wu_ne; first | omega | assumption | (apply Ne.symm; assumption))) (by rfl) ?_
        first | refine r_icmp_geN (tgt := 45) dX0_putWord_26 (by decide) (by omega) (by omega) (fun h26 => ?_) (fun h26 => ?_) | refine r_icmp_ge (tgt := 45) dX0_putWord_26 (by decide) (fun h26 => ?_) (fun h26 => ?_)
        · omega
        · refine r_aload_n dX0_putWord_29 rfl ?_
          refine r_getf dX0_putWord_30 fX0_11 (by repeat first | exact wu_eq | assumption | (apply wu_ne; first | omega | assumption | (apply Ne.symm; assumption))) (by rfl) ?_
          refine r_iload_n dX0_putWord_33 rfl ?_
          refine r_iload_n dX0_putWord_34 rfl ?_
          refine r_bipush (v := nI 24) dX0_putWord_35 (by decide) ?_
          refine r_bipush (v := nI 8) dX0_putWord_37 (by decide) ?_
          refine r_iload_n dX0_putWord_39 rfl ?_
          first | refine r_imulN dX0_putWord_40 ?_ | refine r_imul dX0_putWord_40 ?_
          first | refine r_isubN dX0_putWord_41 (by omega) ?_ | refine r_isub dX0_putWord_41 ?_
          refine r_iushrN _ (by omega) dX0_putWord_42 hu ?_
          refine r_i2b dX0_putWord_43 ?_
          refine r_bastore dX0_putWord_44 (by repeat first | exact wu_eq | assumption | (apply wu_ne; first | omega | assumption | (apply Ne.symm; assumption))) _ rfl (by omega) (by omega) ?_
          refine r_iinc (L0 := [(3, _), (0, _), (1, _)]) dX0_putWord_45 rfl (by first | exact iinc1 _ | rfl) (by decide) rfl ?_
          refine r_goto (tgt := 2) dX0_putWord_48 (by decide) ?_
          rw [wu_wu, i8_i8, i8_low]
          refine r_sub [0, 2, 3] rfl ?_
          have h := ih (j + 1) (by omega)
          rw [show byt (fun i => if 4 * c ≤ i ∧ i < 4 * c + (j + 1) then wb u (i - 4 * c) else e i) = va_up (byt (fun i => if 4 * c ≤ i ∧ i < 4 * c + j then wb u (i - 4 * c) else e i)) (4 * c + j) ((nI (u / 2 ^ (24 - 8 * j) % 256)).toInt8.toInt32) by
            funext i
            unfold va_up byt
            try dsimp only
            by_cases h1 : i = 4 * c + j
            · rw [if_pos h1, if_pos ⟨by omega, by omega⟩, h1, show 4 * c + j - 4 * c = j by omega]
              rfl
            · rw [if_neg h1]
              by_cases h2 : 4 * c ≤ i ∧ i < 4 * c + j
              · rw [if_pos h2, if_pos ⟨h2.1, by omega⟩]
              · rw [if_neg h2, if_neg (by omega)]] at h
          exact h
  refine ab_Ct.of (by decide +kernel) (Nat.le_of_ble_eq_true rfl) (by rintro _ _ _ ⟨rfl, rfl, rfl⟩; trivial) ?_
  show ab_St MX0_putWord g 0 0 0 [(0, .ref D), (1, .int (nI u))] [] _ _ _
  refine r_iconst (v := nI 0) dX0_putWord_0 (by decide) ?_
  refine r_istore_n (i := 2) (L0 := [(0, _), (1, _)]) dX0_putWord_1 rfl (by decide) rfl ?_
  have h := K 4 0 (by omega)
  rw [show (fun i => if 4 * c ≤ i ∧ i < 4 * c + 0 then wb u (i - 4 * c) else e i) = e from funext fun i => if_neg (by omega), wu_self he] at h
  exact h
/-- the draw: c words, P bytes drawn -/
def DRW (w : ab_W) (D c : Nat) (ω : Nat → Nat) (P : Nat) : Prop := ∃ e st f, w D = drO D c ((P + 31) / 32) (32 * ((P + 31) / 32) - P) ∧ w (D + 1) = aB 68 (byt e) ∧ w (D + 2) = shO (D + 2) ∧ w (D + 3) = aI 8 st ∧ w (D + 4) = aI 64 f ∧ (∀ i, e i < 256) ∧ (∀ i, i < 4 * c → e i = wb (ω (i / 4)) (i % 4)) ∧ (∀ k, 8 ≤ k → st k = 0) ∧ (P % 32 ≠ 0 → st = blk ω c (P / 32)) ∧ c ≤ 16 ∧ 7 ≤ D
theorem DRW.keep {w w' : ab_W} {D c : Nat} {ω : Nat → Nat} {P : Nat} (h : DRW w D c ω P) (hk : ∀ k, D ≤ k → k ≤ D + 4 → w' k = w k) : DRW w' D c ω P := by
  obtain ⟨e, st, f, a0, a1, a2, a3, a4, hb⟩ := h
  exact ⟨e, st, f, (hk _ (by omega) (by omega)).trans a0, (hk _ (by omega) (by omega)).trans a1, (hk _ (by omega) (by omega)).trans a2, (hk _ (by omega) (by omega)).trans a3, (hk _ (by omega) (by omega)).trans a4, hb⟩
theorem DRW.words {w : ab_W} {D c : Nat} {ω ω' : Nat → Nat} {P : Nat} (h : DRW w D c ω P) (hω : ∀ k, k < c → ω k = ω' k) : DRW w D c ω' P := by
  obtain ⟨e, st, f, a0, a1, a2, a3, a4, b1, b2, b3, b4, b5⟩ := h
  refine ⟨e, st, f, a0, a1, a2, a3, a4, b1, fun i hi => by rw [b2 i hi, hω _ (by omega)], b3, fun hP => ?_, b5⟩
  rw [b4 hP]
  unfold blk
  congr 1
  funext i
  unfold dwd
  split
  · rw [hω _ (by omega)]
  · rfl
set_option maxRecDepth 100000 in
set_option maxHeartbeats 4000000 in
theorem c_Draw_clear {g : ab_G} {N D c P : Nat} {ω : Nat → Nat} {w : ab_W} (h : DRW w D c ω P) : ab_Ct MX0_clear g [.ref D] N w (fun r N' w' => DRW w' D 0 (fun _ => 0) 0 ∧ (∀ k, k ≠ D → w' k = w k) ∧ r = none ∧ N = N') := by
  obtain ⟨e, st, f, a0, a1, a2, a3, a4, b1, b2, b3, b4, b5, b6⟩ := h
  refine ab_Ct.of (by decide +kernel) (Nat.le_of_ble_eq_true rfl) (by rintro _ _ _ ⟨-, -, rfl, -⟩; trivial) ?_
  show ab_St MX0_clear g 0 0 0 [(0, .ref D)] [] _ _ _
  refine r_aload_n dX0_clear_0 rfl ?_
  refine r_iconst (v := nI 0) dX0_clear_1 (by decide) ?_
  refine r_putf dX0_clear_2 fX0_22 (by repeat first | exact wu_eq | assumption | (apply wu_ne; first | omega | assumption | (apply Ne.symm; assumption))) rfl (by exact Nat.le_of_ble_eq_true rfl) (by rfl) (by rfl) ?_
  refine r_aload_n dX0_clear_5 rfl ?_
  refine r_iconst (v := nI 0) dX0_clear_6 (by decide) ?_
  refine r_putf dX0_clear_7 fX0_26 (by repeat first | exact wu_eq | assumption | (apply wu_ne; first | omega | assumption | (apply Ne.symm; assumption))) rfl (by exact Nat.le_of_ble_eq_true rfl) (by rfl) (by rfl) ?_
  refine r_aload_n dX0_clear_10 rfl ?_
  refine r_iconst (v := nI 0) dX0_clear_11 (by decide) ?_
  refine r_putf dX0_clear_12 fX0_29 (by repeat first | exact wu_eq | assumption | (apply wu_ne; first | omega | assumption | (apply Ne.symm; assumption))) rfl (by exact Nat.le_of_ble_eq_true rfl) (by rfl) (by rfl) ?_
  refine r_ret (r := none) dX0_clear_15 (by decide) (by decide) ?_
  rw [wu_wu, wu_wu]
  refine ⟨⟨e, st, f, wu_eq, (by repeat first | exact wu_eq | assumption | (apply wu_ne; first | omega | assumption | (apply Ne.symm; assumption))), (by repeat first | exact wu_eq | assumption | (apply wu_ne; first | omega | assumption | (apply Ne.symm; assumption))), (by repeat first | exact wu_eq | assumption | (apply wu_ne; first | omega | assumption | (apply Ne.symm; assumption))), (by repeat first | exact wu_eq | assumption | (apply wu_ne; first | omega | assumption | (apply Ne.symm; assumption))), b1, fun i hi => by omega, b3, fun h => absurd rfl h, by omega, b6⟩, ?_, rfl, rfl⟩
  intro k hk
  exact wu_ne hk rfl
set_option maxRecDepth 100000 in
set_option maxHeartbeats 4000000 in
theorem c_Draw_wordCount {g : ab_G} {N D c P : Nat} {ω : Nat → Nat} {w : ab_W} (h : DRW w D c ω P) : ab_Ct MX0_wordCount g [.ref D] N w (rp (some (.int (nI c))) N w) := by
  obtain ⟨e, st, f, a0, -⟩ := h
  refine ab_Ct.of (by decide +kernel) (Nat.le_of_ble_eq_true rfl) (by rintro _ _ _ ⟨rfl, rfl, rfl⟩; trivial) ?_
  show ab_St MX0_wordCount g 0 0 0 [(0, .ref D)] [] _ _ _
  refine r_aload_n dX0_wordCount_0 rfl ?_
  refine r_getf dX0_wordCount_1 fX0_22 (by repeat first | exact wu_eq | assumption | (apply wu_ne; first | omega | assumption | (apply Ne.symm; assumption))) (by rfl) ?_
  refine r_ret (r := (some (.int _))) dX0_wordCount_4 (by decide) (by decide) ?_
  exact ⟨rfl, rfl, rfl⟩
set_option maxRecDepth 100000 in
set_option maxHeartbeats 4000000 in
theorem c_addWord {g : ab_G} {N D c u : Nat} {ω : Nat → Nat} {w : ab_W} (h : DRW w D c ω 0) (hc : c < 16) (hu : u < 4294967296) : ab_Ct MX0_addWord g [.ref D, .int (nI u)] N w (fun r N' w' => DRW w' D (c + 1) (fun k => if k = c then u else ω k) 0 ∧ (∀ k, (k < D ∨ D + 4 < k) → w' k = w k) ∧ r = none ∧ N = N') := by
  obtain ⟨e, st, f, a0, a1, a2, a3, a4, b1, b2, b3, b4, b5, b6⟩ := h
  refine ab_Ct.of (by decide +kernel) (Nat.le_of_ble_eq_true rfl) (by rintro _ _ _ ⟨-, -, rfl, -⟩; trivial) ?_
  show ab_St MX0_addWord g 0 0 0 [(0, .ref D), (1, .int (nI u))] [] _ _ _
  refine r_aload_n dX0_addWord_0 rfl ?_
  refine r_getf dX0_addWord_1 fX0_22 (by repeat first | exact wu_eq | assumption | (apply wu_ne; first | omega | assumption | (apply Ne.symm; assumption))) (by rfl) ?_
  refine r_bipush (v := nI 16) dX0_addWord_4 (by decide) ?_
  first | refine r_icmp_geN (tgt := 24) dX0_addWord_6 (by decide) (by omega) (by omega) (fun h6 => ?_) (fun h6 => ?_) | refine r_icmp_ge (tgt := 24) dX0_addWord_6 (by decide) (fun h6 => ?_) (fun h6 => ?_)
  · omega
  · refine r_aload_n dX0_addWord_9 rfl ?_
    refine r_iload_n dX0_addWord_10 rfl ?_
    refine r_invV dX0_addWord_11 kX0_32 (c_putWord (c := c) (e := e) a0 a1 (by omega) hu) rfl rfl (by repeat first | exact wu_eq | assumption | (apply wu_ne; first | omega | assumption | (apply Ne.symm; assumption))) rfl rfl ⟨by decide, by decide⟩ (Nat.le_of_ble_eq_true rfl) ⟨by decide, by decide⟩ ⟨rfl, rfl⟩ ?_
    rintro _ _ _ ⟨rfl, rfl, rfl⟩
    refine r_aload_n dX0_addWord_14 rfl ?_
    refine r_dup dX0_addWord_15 rfl ?_
    refine r_getf dX0_addWord_16 fX0_22 (by repeat first | exact wu_eq | assumption | (apply wu_ne; first | omega | assumption | (apply Ne.symm; assumption))) (by rfl) ?_
    refine r_iconst (v := nI 1) dX0_addWord_19 (by decide) ?_
    first | refine r_iaddN dX0_addWord_20 ?_ | refine r_iadd dX0_addWord_20 ?_
    refine r_putf dX0_addWord_21 fX0_22 (by repeat first | exact wu_eq | assumption | (apply wu_ne; first | omega | assumption | (apply Ne.symm; assumption))) rfl (by exact Nat.le_of_ble_eq_true rfl) (by rfl) (by rfl) ?_
    refine r_ret (r := none) dX0_addWord_24 (by decide) (by decide) ?_
    refine ⟨⟨_, st, f, wu_eq, wu_ne (by omega) wu_eq, (by repeat first | exact wu_eq | assumption | (apply wu_ne; first | omega | assumption | (apply Ne.symm; assumption))), (by repeat first | exact wu_eq | assumption | (apply wu_ne; first | omega | assumption | (apply Ne.symm; assumption))), (by repeat first | exact wu_eq | assumption | (apply wu_ne; first | omega | assumption | (apply Ne.symm; assumption))), ?_, ?_, b3, fun h => absurd rfl h, by omega, b6⟩, ?_, rfl, rfl⟩
    · intro i
      try dsimp only
      split
      · exact wb_lt _ _
      · exact b1 i
    · intro i hi
      try dsimp only
      by_cases h1 : 4 * c ≤ i ∧ i < 4 * c + 4
      · rw [if_pos h1, if_pos (by omega), show i - 4 * c = i % 4 by omega]
      · rw [if_neg h1, if_neg (by omega), b2 i (by omega)]
    · intro k hk
      exact wu_ne (by omega) (wu_ne (by omega) rfl)
set_option maxRecDepth 100000 in
set_option maxHeartbeats 4000000 in
theorem c_nextByte {g : ab_G} {N D c P : Nat} {ω : Nat → Nat} {w : ab_W} (h : DRW w D c ω P) (hx0 : w 0 = xI 8 sH) (hx1 : w 1 = xI 64 sK) : ab_Ct MX0_nextByte g [.ref D] N w (fun r N' w' => DRW w' D c ω (P + 1) ∧ (∀ k, (k < D ∨ D + 4 < k) → w' k = w k) ∧ r = some (.int (nI (dby ω c P))) ∧ N = N') := by
  obtain ⟨e, st, f, a0, a1, a2, a3, a4, b1, b2, b3, b4, b5, b6⟩ := h
  -- behind the making of a block
  have K50 : ∀ w1 st1 f1 e1, w1 D = drO D c (P / 32 + 1) (32 * (P / 32 + 1) - P) → w1 (D + 1) = aB 68 (byt e1) → w1 (D + 2) = shO (D + 2) → w1 (D + 3) = aI 8 st1 → w1 (D + 4) = aI 64 f1 → (∀ i, e1 i < 256) → (∀ i, i < 4 * c → e1 i = wb (ω (i / 4)) (i % 4)) → (∀ k, 8 ≤ k → st1 k = 0) → st1 = blk ω c (P / 32) → (∀ k, (k < D ∨ D + 4 < k) → w1 k = w k) → ab_St MX0_nextByte g 0 0 50 [(0, .ref D)] [] N w1 (fun r N' w' => DRW w' D c ω (P + 1) ∧ (∀ k, (k < D ∨ D + 4 < k) → w' k = w k) ∧ r = some (.int (nI (dby ω c P))) ∧ N = N') := by
    intro w1 st1 f1 e1 d0 d1 d2 d3 d4 k1 k2 k3 k4 k5
    refine r_aload_n dX0_nextByte_50 rfl ?_
    refine r_dup dX0_nextByte_51 rfl ?_
    refine r_getf dX0_nextByte_52 fX0_29 (by repeat first | exact wu_eq | assumption | (apply wu_ne; first | omega | assumption | (apply Ne.symm; assumption))) (by rfl) ?_
    refine r_iconst (v := nI 1) dX0_nextByte_55 (by decide) ?_
    first | refine r_isubN dX0_nextByte_56 (by omega) ?_ | refine r_isub dX0_nextByte_56 ?_
    refine r_putf dX0_nextByte_57 fX0_29 (by repeat first | exact wu_eq | assumption | (apply wu_ne; first | omega | assumption | (apply Ne.symm; assumption))) rfl (by exact Nat.le_of_ble_eq_true rfl) (by rfl) (by rfl) ?_
    refine r_aload_n dX0_nextByte_60 rfl ?_
    refine r_getf dX0_nextByte_61 fX0_18 (by repeat first | exact wu_eq | assumption | (apply wu_ne; first | omega | assumption | (apply Ne.symm; assumption))) (by rfl) ?_
    refine r_bipush (v := nI 31) dX0_nextByte_64 (by decide) ?_
    refine r_aload_n dX0_nextByte_66 rfl ?_
    refine r_getf dX0_nextByte_67 fX0_29 (by repeat first | exact wu_eq | assumption | (apply wu_ne; first | omega | assumption | (apply Ne.symm; assumption))) (by rfl) ?_
    first | refine r_isubN dX0_nextByte_70 (by omega) ?_ | refine r_isub dX0_nextByte_70 ?_
    refine r_invV dX0_nextByte_71 kX0_40 (c_shaByte (s := D + 2) (q := 31 - (32 * (P / 32 + 1) - P - 1)) (st := st1) (by repeat first | exact wu_eq | assumption | (apply wu_ne; first | omega | assumption | (apply Ne.symm; assumption))) (by repeat first | exact wu_eq | assumption | (apply wu_ne; first | omega | assumption | (apply Ne.symm; assumption))) (by omega)) rfl rfl (by repeat first | exact wu_eq | assumption | (apply wu_ne; first | omega | assumption | (apply Ne.symm; assumption))) rfl rfl ⟨by decide, by decide⟩ (Nat.le_of_ble_eq_true rfl) ⟨by decide, by decide⟩ ⟨rfl, rfl⟩ ?_
    rintro _ _ _ ⟨rfl, rfl, rfl⟩
    refine r_ret (r := (some (.int _))) dX0_nextByte_74 (by decide) (by decide) ?_
    refine ⟨⟨e1, st1, f1, ?_, (by repeat first | exact wu_eq | assumption | (apply wu_ne; first | omega | assumption | (apply Ne.symm; assumption))), (by repeat first | exact wu_eq | assumption | (apply wu_ne; first | omega | assumption | (apply Ne.symm; assumption))), (by repeat first | exact wu_eq | assumption | (apply wu_ne; first | omega | assumption | (apply Ne.symm; assumption))), (by repeat first | exact wu_eq | assumption | (apply wu_ne; first | omega | assumption | (apply Ne.symm; assumption))), k1, k2, k3, ?_, b5, b6⟩, ?_, ?_, rfl⟩
    · refine wu_eq.trans ?_
      rw [show (P + 1 + 31) / 32 = P / 32 + 1 by omega, show 32 * (P / 32 + 1) - (P + 1) = 32 * (P / 32 + 1) - P - 1 by omega]
      rfl
    · intro hP
      rw [k4, show (P + 1) / 32 = P / 32 by omega]
    · intro k hk
      exact wu_ne (by omega) (k5 k hk)
    · rw [k4, show 31 - (32 * (P / 32 + 1) - P - 1) = P % 32 by omega]
      rfl
  refine ab_Ct.of (by decide +kernel) (Nat.le_of_ble_eq_true rfl) (by rintro _ _ _ ⟨-, -, rfl, -⟩; trivial) ?_
  show ab_St MX0_nextByte g 0 0 0 [(0, .ref D)] [] _ _ _
  refine r_aload_n dX0_nextByte_0 rfl ?_
  refine r_getf dX0_nextByte_1 fX0_29 (by repeat first | exact wu_eq | assumption | (apply wu_ne; first | omega | assumption | (apply Ne.symm; assumption))) (by rfl) ?_
  first | refine r_if_neN (tgt := 50) dX0_nextByte_4 (by decide) (by omega) (fun h4 => ?_) (fun h4 => ?_) | refine r_if_ne (tgt := 50) dX0_nextByte_4 (by decide) (fun h4 => ?_) (fun h4 => ?_)
  · refine K50 w st f e ?_ a1 a2 a3 a4 b1 b2 b3 (b4 (by omega)) (fun _ _ => rfl)
    rw [a0, show (P + 31) / 32 = P / 32 + 1 by omega]
  · have hP : P % 32 = 0 := by omega
    rw [show (P + 31) / 32 = P / 32 by omega] at a0
    have hk : P / 32 % 4294967296 < 4294967296 := Nat.mod_lt _ (by decide)
    have hd2 : ∀ i, (if 4 * c ≤ i ∧ i < 4 * c + 4 then wb (P / 32 % 4294967296) (i - 4 * c) else e i) < 256 := fun i => by
      split
      · exact wb_lt _ _
      · exact b1 i
    refine r_aload_n dX0_nextByte_7 rfl ?_
    refine r_aload_n dX0_nextByte_8 rfl ?_
    refine r_getf dX0_nextByte_9 fX0_26 (by repeat first | exact wu_eq | assumption | (apply wu_ne; first | omega | assumption | (apply Ne.symm; assumption))) (by rfl) ?_
    refine r_toI (nI_mod _) ?_
    refine r_invV dX0_nextByte_12 kX0_32 (c_putWord (c := c) (e := e) a0 a1 b5 hk) rfl rfl (by repeat first | exact wu_eq | assumption | (apply wu_ne; first | omega | assumption | (apply Ne.symm; assumption))) rfl rfl ⟨by decide, by decide⟩ (Nat.le_of_ble_eq_true rfl) ⟨by decide, by decide⟩ ⟨rfl, rfl⟩ ?_
    rintro _ _ _ ⟨rfl, rfl, rfl⟩
    refine r_aload_n dX0_nextByte_15 rfl ?_
    refine r_getf dX0_nextByte_16 fX0_18 (by repeat first | exact wu_eq | assumption | (apply wu_ne; first | omega | assumption | (apply Ne.symm; assumption))) (by rfl) ?_
    refine r_aload_n dX0_nextByte_19 rfl ?_
    refine r_getf dX0_nextByte_20 fX0_11 (by repeat first | exact wu_eq | assumption | (apply wu_ne; first | omega | assumption | (apply Ne.symm; assumption))) (by rfl) ?_
    refine r_iconst (v := nI 4) dX0_nextByte_23 (by decide) ?_
    refine r_aload_n dX0_nextByte_24 rfl ?_
    refine r_getf dX0_nextByte_25 fX0_22 (by repeat first | exact wu_eq | assumption | (apply wu_ne; first | omega | assumption | (apply Ne.symm; assumption))) (by rfl) ?_
    first | refine r_imulN dX0_nextByte_28 ?_ | refine r_imul dX0_nextByte_28 ?_
    refine r_iconst (v := nI 4) dX0_nextByte_29 (by decide) ?_
    first | refine r_iaddN dX0_nextByte_30 ?_ | refine r_iadd dX0_nextByte_30 ?_
    refine r_invV dX0_nextByte_31 kX0_36 (c_hashFirst (s := D + 2) (b := D + 1) (m := 68) (n := 4 * c + 4) (d := fun i ↦ if 4 * c ≤ i ∧ i < 4 * c + 4 then wb (P / 32 % 4294967296) (i - 4 * c) else e i) (st := st) (f := f) (by repeat first | exact wu_eq | assumption | (apply wu_ne; first | omega | assumption | (apply Ne.symm; assumption))) (by repeat first | exact wu_eq | assumption | (apply wu_ne; first | omega | assumption | (apply Ne.symm; assumption))) b3 (by repeat first | exact wu_eq | assumption | (apply wu_ne; first | omega | assumption | (apply Ne.symm; assumption))) (by repeat first | exact wu_eq | assumption | (apply wu_ne; first | omega | assumption | (apply Ne.symm; assumption))) hd2 (by omega) (by omega) (by repeat first | exact wu_eq | assumption | (apply wu_ne; first | omega | assumption | (apply Ne.symm; assumption))) (by repeat first | exact wu_eq | assumption | (apply wu_ne; first | omega | assumption | (apply Ne.symm; assumption))) (by omega)) rfl rfl (by repeat first | exact wu_eq | assumption | (apply wu_ne; first | omega | assumption | (apply Ne.symm; assumption))) rfl rfl ⟨by decide, by decide⟩ (Nat.le_of_ble_eq_true rfl) ⟨by decide, by decide⟩ ⟨rfl, rfl⟩ ?_
    rintro _ _ _ ⟨f', rfl, rfl, rfl⟩
    refine r_aload_n dX0_nextByte_34 rfl ?_
    refine r_dup dX0_nextByte_35 rfl ?_
    refine r_getf dX0_nextByte_36 fX0_26 (by repeat first | exact wu_eq | assumption | (apply wu_ne; first | omega | assumption | (apply Ne.symm; assumption))) (by rfl) ?_
    refine r_iconst (v := nI 1) dX0_nextByte_39 (by decide) ?_
    first | refine r_iaddN dX0_nextByte_40 ?_ | refine r_iadd dX0_nextByte_40 ?_
    refine r_putf dX0_nextByte_41 fX0_26 (by repeat first | exact wu_eq | assumption | (apply wu_ne; first | omega | assumption | (apply Ne.symm; assumption))) rfl (by exact Nat.le_of_ble_eq_true rfl) (by rfl) (by rfl) ?_
    refine r_aload_n dX0_nextByte_44 rfl ?_
    refine r_bipush (v := nI 32) dX0_nextByte_45 (by decide) ?_
    refine r_putf dX0_nextByte_47 fX0_29 (by repeat first | exact wu_eq | assumption | (apply wu_ne; first | omega | assumption | (apply Ne.symm; assumption))) rfl (by exact Nat.le_of_ble_eq_true rfl) (by rfl) (by rfl) ?_
    refine K50 _ (sha (fun i => if 4 * c ≤ i ∧ i < 4 * c + 4 then wb (P / 32 % 4294967296) (i - 4 * c) else e i) (4 * c + 4)) f' (fun i => if 4 * c ≤ i ∧ i < 4 * c + 4 then wb (P / 32 % 4294967296) (i - 4 * c) else e i) ?_ ?_ ?_ ?_ ?_ ?_ ?_ ?_ ?_ ?_
    · refine wu_eq.trans ?_
      rw [show 32 * (P / 32 + 1) - P = 32 by omega]
      rfl
    · (repeat first | exact wu_eq | assumption | (apply wu_ne; first | omega | assumption | (apply Ne.symm; assumption)))
    · (repeat first | exact wu_eq | assumption | (apply wu_ne; first | omega | assumption | (apply Ne.symm; assumption)))
    · (repeat first | exact wu_eq | assumption | (apply wu_ne; first | omega | assumption | (apply Ne.symm; assumption)))
    · (repeat first | exact wu_eq | assumption | (apply wu_ne; first | omega | assumption | (apply Ne.symm; assumption)))
    · intro i
      try dsimp only
      split
      · exact wb_lt _ _
      · exact b1 i
    · intro i hi
      try dsimp only
      rw [if_neg (by omega), b2 i hi]
    · exact sha_0 _ _
    · unfold blk
      refine sha_cong fun i hi => ?_
      unfold dwd
      try dsimp only
      by_cases h1 : i < 4 * c
      · rw [if_neg (by omega), if_pos h1, b2 i h1]
      · rw [if_pos (by omega), if_neg h1]
    · intro k hk
      exact wu_ne (by omega) (wu_ne (by omega) (wu_ne (by omega) (wu_ne (by omega) (wu_ne (by omega) rfl))))
