/-! a digit put anew -/
def ud (b v i x : Nat) : Nat := v - dg b v i * b ^ i + x * b ^ i
theorem dg_split (b v i : Nat) : v = v / b ^ (i + 1) * b ^ (i + 1) + dg b v i * b ^ i + v % b ^ i := by
  have h1 := dg_succ b v i
  have h2 := Nat.div_add_mod v (b ^ (i + 1))
  rw [Nat.mul_comm] at h2
  rw [Nat.mul_comm (dg b v i)]
  omega
theorem dg_le (b v i : Nat) : dg b v i * b ^ i ≤ v := by
  have h := dg_split b v i
  generalize dg b v i * b ^ i = d at h ⊢
  generalize v / b ^ (i + 1) * b ^ (i + 1) = e at h
  generalize v % b ^ i = f at h
  omega
theorem ud_eq (b v i x : Nat) : ud b v i x = v / b ^ (i + 1) * b ^ (i + 1) + x * b ^ i + v % b ^ i := by
  have h := dg_split b v i
  unfold ud
  generalize dg b v i * b ^ i = d at h ⊢
  generalize v / b ^ (i + 1) * b ^ (i + 1) = e at h ⊢
  generalize v % b ^ i = f at h ⊢
  omega
theorem dg_of {b hi x lo i k : Nat} (hb : 0 < b) (hx : x < b) (hl : lo < b ^ i) : dg b (hi * b ^ (i + 1) + x * b ^ i + lo) k = if k < i then dg b lo k else if k = i then x else dg b hi (k - (i + 1)) := by
  have hp : 0 < b ^ i := Nat.pow_pos hb
  have e : hi * b ^ (i + 1) + x * b ^ i + lo = lo + (hi * b + x) * b ^ i := by
    rw [Nat.pow_succ, Nat.add_mul, Nat.mul_assoc, Nat.mul_comm b (b ^ i)]
    omega
  rw [e]
  by_cases h1 : k < i
  · rw [if_pos h1, ← dg_mod h1, Nat.add_mul_mod_self_right, Nat.mod_eq_of_lt hl]
  · rw [if_neg h1]
    obtain ⟨j, rfl⟩ : ∃ j, k = i + j := ⟨k - i, by omega⟩
    rw [← dg_div, Nat.add_mul_div_right _ _ hp, Nat.div_eq_of_lt hl, Nat.zero_add]
    by_cases h2 : i + j = i
    · rw [if_pos h2]
      have h3 : j = 0 := by omega
      subst h3
      rw [dg_0, Nat.add_comm, Nat.add_mul_mod_self_right, Nat.mod_eq_of_lt hx]
    · rw [if_neg h2]
      obtain ⟨m, rfl⟩ : ∃ m, j = m + 1 := ⟨j - 1, by omega⟩
      have e2 : i + (m + 1) - (i + 1) = m := by omega
      rw [e2, show m + 1 = 1 + m by omega, ← dg_div, Nat.pow_one, Nat.add_comm, Nat.add_mul_div_right _ _ hb, Nat.div_eq_of_lt hx, Nat.zero_add]
theorem dg_ud {b v i x k : Nat} (hb : 0 < b) (hx : x < b) : dg b (ud b v i x) k = if k = i then x else dg b v k := by
  have hl : v % b ^ i < b ^ i := Nat.mod_lt _ (Nat.pow_pos hb)
  have hd : dg b v i < b := dg_lt' hb v i
  rw [ud_eq, dg_of hb hx hl]
  by_cases h1 : k < i
  · rw [if_pos h1, if_neg (by omega), dg_mod h1]
  · rw [if_neg h1]
    by_cases h2 : k = i
    · rw [if_pos h2, if_pos h2]
    · rw [if_neg h2, if_neg h2, dg_div]
      congr 1
      omega
theorem ud_lt {b v i x n : Nat} (hb : 0 < b) (hx : x < b) (hv : v < b ^ n) (hi : i < n) : ud b v i x < b ^ n := by
  have h1 : ud b v i x = sm b (dg b (ud b v i x)) n := by
    rw [sm_of_dg, ud_eq]
    obtain ⟨m, rfl⟩ : ∃ m, n = i + 1 + m := ⟨n - (i + 1), by omega⟩
    have h2 : v / b ^ (i + 1) < b ^ m := Nat.div_lt_of_lt_mul (by rw [← Nat.pow_add]; exact hv)
    have hl : v % b ^ i < b ^ i := Nat.mod_lt _ (Nat.pow_pos hb)
    refine (Nat.mod_eq_of_lt ?_).symm
    have h3 : (v / b ^ (i + 1) + 1) * b ^ (i + 1) ≤ b ^ m * b ^ (i + 1) := Nat.mul_le_mul_right _ h2
    have h4 : (x + 1) * b ^ i ≤ b * b ^ i := Nat.mul_le_mul_right _ hx
    rw [Nat.add_mul, Nat.one_mul] at h3 h4
    have h5 : b * b ^ i = b ^ (i + 1) := by rw [Nat.pow_succ, Nat.mul_comm]
    rw [Nat.pow_add b (i + 1) m, Nat.mul_comm (b ^ (i + 1)) (b ^ m)]
    omega
  rw [h1]
  exact sm_lt fun k _ => dg_lt' hb _ _
theorem dg_dg {b v m i r : Nat} (hr : r < m) : dg b (dg (b ^ m) v i) r = dg b v (m * i + r) := by
  show dg b (v / (b ^ m) ^ i % b ^ m) r = _
  rw [dg_mod hr, ← Nat.pow_mul, dg_div]
theorem ud_ud {b v m q x : Nat} (hb : 0 < b) (hm : 0 < m) (hx : x < b) : ud (b ^ m) v (q / m) (ud b (dg (b ^ m) v (q / m)) (q % m) x) = ud b v q x := by
  have hr : q % m < m := Nat.mod_lt _ hm
  have hq : m * (q / m) + q % m = q := Nat.div_add_mod q m
  have hbm : 0 < b ^ m := Nat.pow_pos hb
  have h1 : dg b (dg (b ^ m) v (q / m)) (q % m) = dg b v q := by rw [dg_dg hr, hq]
  have e1 : (b ^ m) ^ (q / m) = b ^ (m * (q / m)) := (Nat.pow_mul _ _ _).symm
  have e2 : b ^ (q % m) * (b ^ m) ^ (q / m) = b ^ q := by
    rw [e1, ← Nat.pow_add]
    congr 1
    omega
  have h6 := dg_le (b ^ m) v (q / m)
  have h3 := dg_le b (dg (b ^ m) v (q / m)) (q % m)
  rw [h1] at h3
  unfold ud
  rw [h1]
  generalize dg (b ^ m) v (q / m) = d at h6 h3 ⊢
  have h4 : (d - dg b v q * b ^ (q % m) + x * b ^ (q % m)) * (b ^ m) ^ (q / m) = d * (b ^ m) ^ (q / m) - dg b v q * b ^ q + x * b ^ q := by
    rw [Nat.add_mul, Nat.sub_mul, Nat.mul_assoc, Nat.mul_assoc, e2]
  rw [h4]
  have h5 : dg b v q * b ^ q ≤ d * (b ^ m) ^ (q / m) := by
    rw [← e2, ← Nat.mul_assoc]
    exact Nat.mul_le_mul_right _ h3
  omega
theorem rJ_ud {v i x : Nat} (hx : x < 4294967296) : va_up (rJ v) i (lN x) = rJ (ud 4294967296 v i x) := by
  funext k
  unfold va_up rJ
  rw [dg_ud (by decide) hx]
  by_cases h : k = i
  · rw [if_pos h, if_pos h]
  · rw [if_neg h, if_neg h]
theorem nat_put {d b s M : Nat} (hM : ∀ j, j < 64 → Nat.testBit M j = !(decide (s ≤ j) && decide (j < s + 8))) (hd : d < 2 ^ 32) (hb : b < 256) : (d &&& M) ||| (b * 2 ^ s) = d - dg 256 (d / 2 ^ s) 0 * 2 ^ s + b * 2 ^ s := by
  have e0 : dg 256 (d / 2 ^ s) 0 = d / 2 ^ s % 256 := dg_0 _ _
  have hd2 : d = 2 ^ s * (2 ^ 8 * (d / 2 ^ s / 256) + d / 2 ^ s % 256) + d % 2 ^ s := by
    have h1 := Nat.div_add_mod d (2 ^ s)
    have h2 := Nat.div_add_mod (d / 2 ^ s) 256
    rw [show (2 : Nat) ^ 8 = 256 by decide, h2]
    exact h1.symm
  have hl : d % 2 ^ s < 2 ^ s := Nat.mod_lt _ (Nat.two_pow_pos s)
  have hR : d - dg 256 (d / 2 ^ s) 0 * 2 ^ s + b * 2 ^ s = 2 ^ s * (2 ^ 8 * (d / 2 ^ s / 256) + b) + d % 2 ^ s := by
    rw [e0]
    rw [Nat.mul_add] at hd2 ⊢
    generalize d / 2 ^ s % 256 = y at hd2 ⊢
    rw [Nat.mul_comm y, Nat.mul_comm b]
    generalize 2 ^ s * (2 ^ 8 * (d / 2 ^ s / 256)) = z at hd2 ⊢
    generalize 2 ^ s * y = u at hd2 ⊢
    omega
  rw [hR]
  have hm : d / 2 ^ s % 256 < 2 ^ 8 := Nat.mod_lt _ (by decide)
  generalize d / 2 ^ s % 256 = y at hd2 hm
  generalize d / 2 ^ s / 256 = hi at hd2
  generalize d % 2 ^ s = lo at hd2 hl
  have hb8 : b < 2 ^ 8 := hb
  apply Nat.eq_of_testBit_eq
  intro j
  rw [Nat.testBit_or, Nat.testBit_and, Nat.mul_comm b, Nat.testBit_two_pow_mul_add _ hl, show 2 ^ s * b = 2 ^ s * b + 0 by rfl, Nat.testBit_two_pow_mul_add _ (Nat.two_pow_pos s)]
  have hdj : d.testBit j = if j < s then lo.testBit j else (2 ^ 8 * hi + y).testBit (j - s) := by
    rw [hd2]
    exact Nat.testBit_two_pow_mul_add _ hl j
  have hbig : 64 ≤ j → d.testBit j = false := fun h => Nat.testBit_lt_two_pow (Nat.lt_of_lt_of_le hd (Nat.pow_le_pow_right (by decide) (by omega)))
  by_cases h1 : j < s
  · rw [if_pos h1, if_pos h1]
    rw [if_pos h1] at hdj
    by_cases h64 : j < 64
    · rw [hM j h64, hdj]
      simp [Nat.not_le.mpr h1]
    · rw [← hdj, hbig (by omega)]
      simp
  · rw [if_neg h1, if_neg h1]
    rw [if_neg h1] at hdj
    rw [Nat.testBit_two_pow_mul_add _ hb8]
    rw [Nat.testBit_two_pow_mul_add _ hm] at hdj
    by_cases h2 : j - s < 8
    · rw [if_pos h2]
      by_cases h64 : j < 64
      · rw [hM j h64]
        have e1 : decide (s ≤ j) = true := decide_eq_true (by omega)
        have e2 : decide (j < s + 8) = true := decide_eq_true (by omega)
        rw [e1, e2]
        simp
      · rw [hbig (by omega)]
        simp
    · rw [if_neg h2]
      rw [if_neg h2] at hdj
      have hbz : b.testBit (j - s) = false := Nat.testBit_lt_two_pow (Nat.lt_of_lt_of_le hb8 (Nat.pow_le_pow_right (by decide) (by omega)))
      rw [hbz, Bool.or_false]
      by_cases h64 : j < 64
      · rw [hM j h64, hdj]
        have e2 : decide (j < s + 8) = false := decide_eq_false (by omega)
        rw [e2]
        simp
      · rw [← hdj, hbig (by omega)]
        simp
theorem lN_put {d b r : Nat} (hd : d < 4294967296) (hb : b < 256) (hr : r < 4) : (lN d &&& ((lN 255 <<< ((nI (8 * r)).toInt64 &&& 63)) ^^^ (-1))) ||| ((lN b &&& lN 255) <<< ((nI (8 * r)).toInt64 &&& 63)) = lN (ud 256 d r b) := by
  have e255 : lN b &&& lN 255 = lN b := by
    rw [show (255 : Nat) = 2 ^ 8 - 1 by decide, wb_mask (by omega) (by decide), Nat.mod_eq_of_lt hb]
  rw [e255, wb_shl b (by omega)]
  have key : ∀ M : Nat, M < 2 ^ 64 → (∀ j, j < 64 → Nat.testBit M j = !(decide (8 * r ≤ j) && decide (j < 8 * r + 8))) → (lN 255 <<< ((nI (8 * r)).toInt64 &&& 63)) ^^^ (-1) = lN M → b * 2 ^ (8 * r) < 2 ^ 64 → (lN d &&& ((lN 255 <<< ((nI (8 * r)).toInt64 &&& 63)) ^^^ (-1))) ||| lN (b * 2 ^ (8 * r)) = lN (ud 256 d r b) := by
    intro M hM64 hM hE hsh
    rw [hE, wb_and (by omega) hM64, wb_or (Nat.lt_of_le_of_lt Nat.and_le_left (by omega)) hsh, nat_put hM (by omega) hb]
    unfold ud
    have e : dg 256 (d / 2 ^ (8 * r)) 0 = dg 256 d r := by
      have := dg_div 256 d r 0
      rw [show (256 : Nat) ^ r = 2 ^ (8 * r) by rw [show (256 : Nat) = 2 ^ 8 by decide, ← Nat.pow_mul]] at this
      exact this
    rw [e, show (256 : Nat) ^ r = 2 ^ (8 * r) by rw [show (256 : Nat) = 2 ^ 8 by decide, ← Nat.pow_mul]]
  rcases (show r = 0 ∨ r = 1 ∨ r = 2 ∨ r = 3 by omega) with rfl | rfl | rfl | rfl
  · exact key 18446744073709551360 (by decide) (by decide +kernel) (by decide +kernel) (by omega)
  · exact key 18446744073709486335 (by decide) (by decide +kernel) (by decide +kernel) (by omega)
  · exact key 18446744073692839935 (by decide) (by decide +kernel) (by decide +kernel) (by omega)
  · exact key 18446744069431361535 (by decide) (by decide +kernel) (by decide +kernel) (by omega)
