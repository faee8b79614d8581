/-! SignHouse: the encoded message in a row -/
theorem HNM_lt (k : Nat) : HNM k < 256 := by
  unfold HNM
  by_cases h : k < 19
  · rcases (by omega : k = 0 ∨ k = 1 ∨ k = 2 ∨ k = 3 ∨ k = 4 ∨ k = 5 ∨ k = 6 ∨ k = 7 ∨ k = 8 ∨ k = 9 ∨ k = 10 ∨ k = 11 ∨ k = 12 ∨ k = 13 ∨ k = 14 ∨ k = 15 ∨ k = 16 ∨ k = 17 ∨ k = 18) with rfl | rfl | rfl | rfl | rfl | rfl | rfl | rfl | rfl | rfl | rfl | rfl | rfl | rfl | rfl | rfl | rfl | rfl | rfl <;> decide
  · rw [List.getD_eq_getElem?_getD, List.getElem?_eq_none (by exact Nat.le_of_not_lt h)]
    decide
theorem enb_lt (d : Nat → Nat) (len half i : Nat) : enb d len half i < 256 := by
  unfold enb
  split
  · exact hby_lt _ _
  · split
    · exact HNM_lt _
    · repeat (first | decide | split)
/-- the first i bytes of the encoded message as a number -/
def emn (d : Nat → Nat) (len half : Nat) : Nat → Nat
  | 0 => 0
  | i + 1 => emn d len half i * 256 + enb d len half i
theorem emn_lt (d : Nat → Nat) (len half : Nat) : ∀ i, emn d len half i < 256 ^ i
  | 0 => Nat.one_pos
  | i + 1 => by
    have h := emn_lt d len half i
    have h2 := enb_lt d len half i
    rw [Nat.pow_succ]
    unfold emn
    omega
theorem emn_ud (E u x q : Nat) : ud 256 (E * 256 ^ (q + 1) + u % 256 ^ (q + 1)) q x = (E * 256 + x) * 256 ^ q + u % 256 ^ q := by
  have hp : 0 < 256 ^ (q + 1) := Nat.pow_pos (by decide)
  have h1 : u % 256 ^ (q + 1) < 256 ^ (q + 1) := Nat.mod_lt _ hp
  rw [ud_eq, Nat.mul_comm E, Nat.mul_add_div hp, Nat.div_eq_of_lt h1, Nat.add_zero]
  have h2 : (256 ^ (q + 1) * E + u % 256 ^ (q + 1)) % 256 ^ q = u % 256 ^ q := by
    rw [Nat.pow_succ, Nat.mul_assoc, Nat.mul_add_mod, Nat.mod_mul_right_mod]
  rw [h2, Nat.pow_succ, Nat.add_mul]
  congr 2
  rw [Nat.mul_assoc, Nat.mul_comm 256]
set_option maxRecDepth 100000 in
set_option maxHeartbeats 4000000 in
theorem c_writeEncoded {g : ab_G} {N half rounds sg vf len W a u : Nat} {d : Nat → Nat} {w : ab_W} (h : w 7 = hoO half rounds sg vf) (h31 : 31 ≤ half) (h40 : half ≤ 40) (hW : W = (half + 3) / 4) (hM : MSG w d len) (x5 : w 5 = xI 19 sHN) (ha : w a = aN (2 * W) u) (ha1 : 70 < a) (hu : u < 256 ^ (2 * half)) : ab_Ct MX7_writeEncoded g [.ref 7, .ref a] N w (rt none N (wu w a (aN (2 * W) (emn d len half (2 * half))))) := by
  have K : ∀ k i, i + k = 2 * half → ab_St MX7_writeEncoded g 0 0 2 [(2, .int (nI i)), (0, .ref 7), (1, .ref a)] [] N (wu w a (aN (2 * W) (emn d len half i * 256 ^ k + u % 256 ^ k))) (rt none N (wu w a (aN (2 * W) (emn d len half (2 * half))))) := by
    intro k
    induction k with
    | zero =>
      intro i hi
      obtain rfl : i = 2 * half := by omega
      rw [Nat.pow_zero, Nat.mul_one, Nat.mod_one, Nat.add_zero]
      have e7 : (wu w a (aN (2 * W) (emn d len half (2 * half)))) 7 = hoO half rounds sg vf := (wu_ne (by omega) rfl).trans h
      refine r_iload_n dX7_writeEncoded_2 rfl ?_
      refine r_aload_n dX7_writeEncoded_3 rfl ?_
      refine r_getf dX7_writeEncoded_4 fX7_22 (by repeat first | exact wu_eq | assumption | (apply wu_ne; first | omega | assumption | (apply Ne.symm; assumption))) (by rfl) ?_
      first | refine r_icmp_geN (tgt := 33) dX7_writeEncoded_7 (by decide) (by omega) (by omega) (fun h7 => ?_) (fun h7 => ?_) | refine r_icmp_ge (tgt := 33) dX7_writeEncoded_7 (by decide) (fun h7 => ?_) (fun h7 => ?_)
      · refine r_ret (r := none) dX7_writeEncoded_33 (by decide) (by decide) ?_
        exact ⟨rfl, rfl, rfl⟩
      · omega
    | succ k ih =>
      intro i hi
      have e := emn_ud (emn d len half i) u (enb d len half i) k
      have e7 : (wu w a (aN (2 * W) (emn d len half i * 256 ^ (k + 1) + u % 256 ^ (k + 1)))) 7 = hoO half rounds sg vf := (wu_ne (by omega) rfl).trans h
      have e5 : (wu w a (aN (2 * W) (emn d len half i * 256 ^ (k + 1) + u % 256 ^ (k + 1)))) 5 = xI 19 sHN := (wu_ne (by omega) rfl).trans x5
      have eM : MSG (wu w a (aN (2 * W) (emn d len half i * 256 ^ (k + 1) + u % 256 ^ (k + 1)))) d len := hM.keep fun k a b => wu_ne (by omega) rfl
      refine r_iload_n dX7_writeEncoded_2 rfl ?_
      refine r_aload_n dX7_writeEncoded_3 rfl ?_
      refine r_getf dX7_writeEncoded_4 fX7_22 (by repeat first | exact wu_eq | assumption | (apply wu_ne; first | omega | assumption | (apply Ne.symm; assumption))) (by rfl) ?_
      first | refine r_icmp_geN (tgt := 33) dX7_writeEncoded_7 (by decide) (by omega) (by omega) (fun h7 => ?_) (fun h7 => ?_) | refine r_icmp_ge (tgt := 33) dX7_writeEncoded_7 (by decide) (fun h7 => ?_) (fun h7 => ?_)
      · omega
      · refine r_aload_n dX7_writeEncoded_10 rfl ?_
        refine r_aload_n dX7_writeEncoded_11 rfl ?_
        refine r_getf dX7_writeEncoded_12 fX7_22 (by repeat first | exact wu_eq | assumption | (apply wu_ne; first | omega | assumption | (apply Ne.symm; assumption))) (by rfl) ?_
        refine r_iconst (v := nI 1) dX7_writeEncoded_15 (by decide) ?_
        first | refine r_isubN dX7_writeEncoded_16 (by omega) ?_ | refine r_isub dX7_writeEncoded_16 ?_
        refine r_iload_n dX7_writeEncoded_17 rfl ?_
        first | refine r_isubN dX7_writeEncoded_18 (by omega) ?_ | refine r_isub dX7_writeEncoded_18 ?_
        refine r_aload_n dX7_writeEncoded_19 rfl ?_
        refine r_iload_n dX7_writeEncoded_20 rfl ?_
        refine r_invV dX7_writeEncoded_21 kX7_141 (c_encodedByte (half := half) (i := i) e7 h31 h40 eM e5 (by omega)) rfl rfl (by repeat first | exact wu_eq | assumption | (apply wu_ne; first | omega | assumption | (apply Ne.symm; assumption))) rfl rfl ⟨by decide, by decide⟩ (Nat.le_of_ble_eq_true rfl) ⟨by decide, by decide⟩ ⟨rfl, rfl⟩ ?_
        rintro _ _ _ ⟨rfl, rfl, rfl⟩
        rw [show 2 * half - 1 - i = k by omega]
        refine r_invS dX7_writeEncoded_24 kX7_171 (c_putByte (n := 2 * W) (q := k) (b := enb d len half i) wu_eq (by omega) (by omega) (enb_lt _ _ _ _)) rfl rfl ⟨by decide, by decide⟩ (Nat.le_of_ble_eq_true rfl) ⟨by decide, by decide⟩ ⟨rfl, rfl⟩ ?_
        rintro _ _ _ ⟨rfl, rfl, rfl⟩
        rw [wu_wu, e]
        refine r_iinc (L0 := [(0, _), (1, _)]) dX7_writeEncoded_27 rfl (by first | exact iinc1 _ | rfl) (by decide) rfl ?_
        refine r_goto (tgt := 2) dX7_writeEncoded_30 (by decide) ?_
        exact ih (i + 1) (by omega)
  refine ab_Ct.of (by decide +kernel) (Nat.le_of_ble_eq_true rfl) (by rintro _ _ _ ⟨rfl, rfl, rfl⟩; trivial) ?_
  show ab_St MX7_writeEncoded g 0 0 0 [(0, .ref 7), (1, .ref a)] [] _ _ _
  refine r_iconst (v := nI 0) dX7_writeEncoded_0 (by decide) ?_
  refine r_istore_n (i := 2) (L0 := [(0, _), (1, _)]) dX7_writeEncoded_1 rfl (by decide) rfl ?_
  have hh := K (2 * half) 0 (by omega)
  rw [show emn d len half 0 = 0 from rfl, Nat.zero_mul, Nat.zero_add, Nat.mod_eq_of_lt hu, wu_self ha] at hh
  exact hh
