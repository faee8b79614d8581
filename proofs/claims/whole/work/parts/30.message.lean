/-! SignHouse$Message: the object at 66, its bytes at 67, its hash at 68 -/
abbrev meO (n : Nat) : ab_C := aO 3 [.ref 67, .ref 68, .int (nI n)]
def MSG (w : ab_W) (d : Nat → Nat) (n : Nat) : Prop := ∃ f, w 66 = meO n ∧ w 67 = aB 300 (byt d) ∧ w 68 = shO 68 ∧ w 69 = aI 8 (sha d n) ∧ w 70 = aI 64 f ∧ (∀ i, d i < 256) ∧ n ≤ 300
theorem MSG.keep {w w' : ab_W} {d : Nat → Nat} {n : Nat} (h : MSG w d n) (hk : ∀ k, 66 ≤ k → k ≤ 70 → w' k = w k) : MSG w' d n := by
  obtain ⟨f, a0, a1, a2, a3, a4, hb⟩ := h
  exact ⟨f, (hk _ (by decide) (by decide)).trans a0, (hk _ (by decide) (by decide)).trans a1, (hk _ (by decide) (by decide)).trans a2, (hk _ (by decide) (by decide)).trans a3, (hk _ (by decide) (by decide)).trans a4, hb⟩

set_option maxRecDepth 100000 in
set_option maxHeartbeats 4000000 in
theorem c_makeHash {g : ab_G} {N n : Nat} {d : Nat → Nat} {f st : Nat → Int32} {w : ab_W} (a0 : w 66 = meO n) (a1 : w 67 = aB 300 (byt d)) (a2 : w 68 = shO 68) (a3 : w 69 = aI 8 st) (hst : ∀ k, 8 ≤ k → st k = 0) (a4 : w 70 = aI 64 f) (hd : ∀ i, d i < 256) (hn : n ≤ 300) (x0 : w 0 = xI 8 sH) (x1 : w 1 = xI 64 sK) : ab_Ct MX3_makeHash g [.ref 66] N w (fun r N' w' => MSG w' d n ∧ (∀ k, k ≠ 69 → k ≠ 70 → w' k = w k) ∧ r = none ∧ N = N') := by
  refine ab_Ct.of (by decide +kernel) (Nat.le_of_ble_eq_true rfl) (by rintro _ _ _ ⟨-, -, rfl, -⟩; trivial) ?_
  show ab_St MX3_makeHash g 0 0 0 [(0, .ref 66)] [] _ _ _
  refine r_aload_n dX3_makeHash_0 rfl ?_
  refine r_getf dX3_makeHash_1 fX3_16 (by repeat first | exact wu_eq | assumption | (apply wu_ne; first | omega | assumption | (apply Ne.symm; assumption))) (by rfl) ?_
  refine r_aload_n dX3_makeHash_4 rfl ?_
  refine r_getf dX3_makeHash_5 fX3_9 (by repeat first | exact wu_eq | assumption | (apply wu_ne; first | omega | assumption | (apply Ne.symm; assumption))) (by rfl) ?_
  refine r_aload_n dX3_makeHash_8 rfl ?_
  refine r_getf dX3_makeHash_9 fX3_23 (by repeat first | exact wu_eq | assumption | (apply wu_ne; first | omega | assumption | (apply Ne.symm; assumption))) (by rfl) ?_
  refine r_invV dX3_makeHash_12 kX3_31 (c_hashFirst (s := 68) (b := 67) (m := 300) (n := n) (st := st) a2 a3 hst a4 a1 hd (by decide) hn x0 x1 (by decide)) rfl rfl (by repeat first | exact wu_eq | assumption | (apply wu_ne; first | omega | assumption | (apply Ne.symm; assumption))) rfl rfl ⟨by decide, by decide⟩ (Nat.le_of_ble_eq_true rfl) ⟨by decide, by decide⟩ ⟨rfl, rfl⟩ ?_
  rintro _ _ _ ⟨f', rfl, rfl, rfl⟩
  refine r_ret (r := none) dX3_makeHash_15 (by decide) (by decide) ?_
  refine ⟨⟨f', (wu_ne (by decide) (wu_ne (by decide) a0)), (wu_ne (by decide) (wu_ne (by decide) a1)), (wu_ne (by decide) (wu_ne (by decide) a2)), wu_eq, wu_ne (by decide) wu_eq, hd, hn⟩, fun k h1 h2 => wu_ne h1 (wu_ne h2 rfl), rfl, rfl⟩
set_option maxRecDepth 100000 in
set_option maxHeartbeats 4000000 in
theorem c_Message_byteCount {g : ab_G} {N n : Nat} {d : Nat → Nat} {w : ab_W} (h : MSG w d n) : ab_Ct MX3_byteCount g [.ref 66] N w (rp (some (.int (nI n))) N w) := by
  obtain ⟨f, a0, -⟩ := h
  refine ab_Ct.of (by decide +kernel) (Nat.le_of_ble_eq_true rfl) (by rintro _ _ _ ⟨rfl, rfl, rfl⟩; trivial) ?_
  show ab_St MX3_byteCount g 0 0 0 [(0, .ref 66)] [] _ _ _
  refine r_aload_n dX3_byteCount_0 rfl ?_
  refine r_getf dX3_byteCount_1 fX3_23 (by repeat first | exact wu_eq | assumption | (apply wu_ne; first | omega | assumption | (apply Ne.symm; assumption))) (by rfl) ?_
  refine r_ret (r := (some (.int _))) dX3_byteCount_4 (by decide) (by decide) ?_
  exact ⟨rfl, rfl, rfl⟩
set_option maxRecDepth 100000 in
set_option maxHeartbeats 4000000 in
theorem c_hashByte {g : ab_G} {N n q : Nat} {d : Nat → Nat} {w : ab_W} (h : MSG w d n) (hq : q < 32) : ab_Ct MX3_hashByte g [.ref 66, .int (nI q)] N w (rp (some (.int (nI (hby (sha d n) q)))) N w) := by
  obtain ⟨f, a0, a1, a2, a3, -⟩ := h
  refine ab_Ct.of (by decide +kernel) (Nat.le_of_ble_eq_true rfl) (by rintro _ _ _ ⟨rfl, rfl, rfl⟩; trivial) ?_
  show ab_St MX3_hashByte g 0 0 0 [(0, .ref 66), (1, .int (nI q))] [] _ _ _
  refine r_aload_n dX3_hashByte_0 rfl ?_
  refine r_getf dX3_hashByte_1 fX3_16 (by repeat first | exact wu_eq | assumption | (apply wu_ne; first | omega | assumption | (apply Ne.symm; assumption))) (by rfl) ?_
  refine r_iload_n dX3_hashByte_4 rfl ?_
  refine r_invV dX3_hashByte_5 kX3_27 (c_shaByte (s := 68) a2 a3 hq) rfl rfl (by repeat first | exact wu_eq | assumption | (apply wu_ne; first | omega | assumption | (apply Ne.symm; assumption))) rfl rfl ⟨by decide, by decide⟩ (Nat.le_of_ble_eq_true rfl) ⟨by decide, by decide⟩ ⟨rfl, rfl⟩ ?_
  rintro _ _ _ ⟨rfl, rfl, rfl⟩
  refine r_ret (r := (some (.int _))) dX3_hashByte_8 (by decide) (by decide) ?_
  exact ⟨rfl, rfl, rfl⟩
set_option maxRecDepth 100000 in
set_option maxHeartbeats 4000000 in
theorem c_keepFirst {g : ab_G} {N n m : Nat} {d : Nat → Nat} {w : ab_W} (h : MSG w d n) (hm : m ≤ 300) (x0 : w 0 = xI 8 sH) (x1 : w 1 = xI 64 sK) : ab_Ct MX3_keepFirst g [.ref 66, .int (nI m)] N w (fun r N' w' => MSG w' d m ∧ (∀ k, (k < 66 ∨ 70 < k) → w' k = w k) ∧ r = none ∧ N = N') := by
  obtain ⟨f, a0, a1, a2, a3, a4, a5, a6⟩ := h
  refine ab_Ct.of (by decide +kernel) (Nat.le_of_ble_eq_true rfl) (by rintro _ _ _ ⟨-, -, rfl, -⟩; trivial) ?_
  show ab_St MX3_keepFirst g 0 0 0 [(0, .ref 66), (1, .int (nI m))] [] _ _ _
  refine r_aload_n dX3_keepFirst_0 rfl ?_
  refine r_iload_n dX3_keepFirst_1 rfl ?_
  refine r_putf dX3_keepFirst_2 fX3_23 (by repeat first | exact wu_eq | assumption | (apply wu_ne; first | omega | assumption | (apply Ne.symm; assumption))) rfl (by exact Nat.le_of_ble_eq_true rfl) (by rfl) (by rfl) ?_
  refine r_aload_n dX3_keepFirst_5 rfl ?_
  refine r_invV dX3_keepFirst_6 kX3_20 (c_makeHash (n := m) (d := d) wu_eq (wu_ne (by decide) a1) (wu_ne (by decide) a2) (wu_ne (by decide) a3) (sha_0 _ _) (wu_ne (by decide) a4) a5 hm (wu_ne (by decide) x0) (wu_ne (by decide) x1)) rfl rfl (by repeat first | exact wu_eq | assumption | (apply wu_ne; first | omega | assumption | (apply Ne.symm; assumption))) rfl rfl ⟨by decide, by decide⟩ (Nat.le_of_ble_eq_true rfl) ⟨by decide, by decide⟩ ⟨rfl, rfl⟩ ?_
  rintro _ _ _ ⟨m1, f1, rfl, rfl⟩
  refine r_ret (r := none) dX3_keepFirst_9 (by decide) (by decide) ?_
  exact ⟨m1, fun k hk => (f1 k (by omega) (by omega)).trans (wu_ne (by omega) rfl), rfl, rfl⟩
