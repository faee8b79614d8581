/-! One place of a long division -/
def ins (j m T : Nat) (g : Nat → Nat) : Nat → Nat := fun k => if j ≤ k ∧ k < j + m then dg 65536 T (k - j) else g k
theorem ins_0 (j T : Nat) (g : Nat → Nat) : ins j 0 T g = g := by
  funext k
  unfold ins
  rw [if_neg (by omega)]
theorem ins_up {j i T x : Nat} {g : Nat → Nat} (hx : x = dg 65536 T i) : va_up (ins j i T g) (j + i) x = ins j (i + 1) T g := by
  funext k
  unfold va_up ins
  try dsimp only
  by_cases h : k = j + i
  · rw [if_pos h, if_pos (by omega), hx, h, show j + i - j = i by omega]
  · rw [if_neg h]
    by_cases h2 : j ≤ k ∧ k < j + i
    · rw [if_pos h2, if_pos (by omega)]
    · rw [if_neg h2, if_neg (by omega)]
theorem ins_hi {j i T : Nat} {g : Nat → Nat} : ins j i T g (j + i) = g (j + i) := by
  unfold ins
  rw [if_neg (by omega)]
theorem ins_lo {j m i T : Nat} {g : Nat → Nat} (h : i < m) : ins j m T g (j + i) = dg 65536 T i := by
  unfold ins
  rw [if_pos (by omega), show j + i - j = i by omega]
theorem ins_num {j m T Y S : Nat} {g : Nat → Nat} (h1 : ∀ k, k < j → g k = dg 65536 S k) (h2 : ∀ k, j + m ≤ k → g k = 0) (hY : Y < 65536 ^ m) (h3 : ∀ i, i < m → dg 65536 T i = dg 65536 Y i) (k : Nat) : ins j m T g k = dg 65536 (Y * 65536 ^ j + S % 65536 ^ j) k := by
  have hp : 0 < 65536 ^ j := Nat.pow_pos (by decide)
  have hr : S % 65536 ^ j < 65536 ^ j := Nat.mod_lt _ hp
  unfold ins
  by_cases hk : k < j
  · rw [if_neg (by omega), h1 k hk, ← dg_mod (b := 65536) (v := Y * 65536 ^ j + S % 65536 ^ j) hk, Nat.mul_comm, Nat.mul_add_mod, Nat.mod_mod, dg_mod hk]
  · obtain ⟨i, rfl⟩ : ∃ i, k = j + i := ⟨k - j, by omega⟩
    rw [← dg_div, Nat.mul_comm, Nat.mul_add_div hp, Nat.div_eq_of_lt hr, Nat.add_zero]
    by_cases hi : i < m
    · rw [if_pos (by omega), show j + i - j = i by omega, h3 i hi]
    · rw [if_neg (by omega), h2 _ (by omega), dg_big hY (by omega) (by decide)]
/-- what is known of the two highest limbs of the divisor, the three highest of what is divided -/
def KD (U V n f1 f2 u2 u1 u0 : Nat) : Prop := ∃ X vl ul, V = (f1 * 65536 + f2) * X + vl ∧ vl < X ∧ U = ((u2 * 65536 + u1) * 65536 + u0) * X + ul ∧ ul < X ∧ 32768 ≤ f1 ∧ f1 < 65536 ∧ f2 < 65536 ∧ u2 ≤ f1 ∧ u1 < 65536 ∧ u0 < 65536 ∧ U < V * 65536
theorem kd_1 {f1 f2 : Nat} (h : f1 < 32768) (d2 : f2 < 65536) : f1 * 65536 + f2 + 1 ≤ 2147483648 := by omega
theorem kd_2 {V A X vl : Nat} (c1 : A + vl = V) (c3 : vl < X) (h : X * 4294967296 ≤ 2 * V) (g1 : A + X ≤ 2147483648 * X) : False := by
  have e : X * 4294967296 = 2 * (2147483648 * X) := by rw [← Nat.mul_assoc, Nat.mul_comm]
  rw [e] at h
  generalize 2147483648 * X = Y at *
  omega
theorem kd_3 {f1 f2 u2 : Nat} (h : f1 < u2) (d2 : f2 < 65536) : f1 * 65536 + f2 + 1 ≤ u2 * 65536 := by omega
theorem kd_4 (u2 u1 u0 : Nat) : u2 * 65536 * 65536 ≤ (u2 * 65536 + u1) * 65536 + u0 := by omega
theorem kd_5 {U V A X vl B C ul : Nat} (c1 : A + vl = V) (c3 : vl < X) (hU : U < V * 65536) (c2 : C + ul = U) (g1 : A + X ≤ B) (g2 : B * 65536 ≤ C) : False := by omega
theorem KD_of {U V n : Nat} (hn : 2 ≤ n) (hV : V < 65536 ^ n) (hV2 : 65536 ^ n ≤ 2 * V) (hU : U < V * 65536) : KD U V n (dg 65536 V (n - 1)) (dg 65536 V (n - 2)) (dg 65536 U n) (dg 65536 U (n - 1)) (dg 65536 U (n - 2)) := by
  obtain ⟨k, rfl⟩ : ∃ k, n = k + 2 := ⟨n - 2, by omega⟩
  rw [show k + 2 - 1 = k + 1 by omega, show k + 2 - 2 = k by omega]
  have hp : 0 < 65536 ^ k := Nat.pow_pos (by decide)
  have a1 := div_dg 65536 V k
  have a2 := div_dg 65536 V (k + 1)
  have a3 : V / 65536 ^ (k + 1 + 1) = 0 := Nat.div_eq_of_lt hV
  have b1 := div_dg 65536 U k
  have b2 := div_dg 65536 U (k + 1)
  have b3 := div_dg 65536 U (k + 1 + 1)
  have hU3 : U < 65536 ^ (k + 1 + 1 + 1) := by
    rw [Nat.pow_succ]
    exact Nat.lt_trans hU (Nat.mul_lt_mul_of_pos_right hV (by decide))
  have b4 : U / 65536 ^ (k + 1 + 1 + 1) = 0 := Nat.div_eq_of_lt hU3
  have c1 := Nat.div_add_mod V (65536 ^ k)
  have c2 := Nat.div_add_mod U (65536 ^ k)
  have c3 := Nat.mod_lt V hp
  have c4 := Nat.mod_lt U hp
  have d1 := dg6_lt V (k + 1)
  have d2 := dg6_lt V k
  have d3 := dg6_lt U (k + 1)
  have d4 := dg6_lt U k
  have e1 : 65536 ^ (k + 2) = 65536 ^ k * 4294967296 := by rw [Nat.pow_add]
  rw [a3] at a2
  rw [a2] at a1
  rw [b4] at b3
  rw [b3] at b2
  rw [b2] at b1
  rw [e1] at hV hV2
  rw [a1, Nat.mul_comm] at c1
  rw [b1, Nat.mul_comm] at c2
  generalize dg 65536 V (k + 1) = f1 at *
  generalize dg 65536 V k = f2 at *
  generalize dg 65536 U (k + 1) = u1 at *
  generalize dg 65536 U k = u0 at *
  rw [show k + 2 = k + 1 + 1 from rfl]
  generalize dg 65536 U (k + 1 + 1) = u2 at *
  generalize V % 65536 ^ k = vl at *
  generalize U % 65536 ^ k = ul at *
  generalize 65536 ^ k = X at *
  clear a1 a2 a3 b1 b2 b3 b4 hU3 e1
  rw [Nat.zero_mul, Nat.zero_add] at c1 c2
  have hf1 : 32768 ≤ f1 := by
    refine Nat.le_of_not_lt fun h => ?_
    have g1 : (f1 * 65536 + f2 + 1) * X ≤ 2147483648 * X := Nat.mul_le_mul_right X (kd_1 h d2)
    rw [Nat.add_mul, Nat.one_mul] at g1
    exact kd_2 c1 c3 hV2 g1
  have hu2 : u2 ≤ f1 := by
    refine Nat.le_of_not_lt fun h => ?_
    have g1 : (f1 * 65536 + f2 + 1) * X ≤ (u2 * 65536) * X := Nat.mul_le_mul_right X (kd_3 h d2)
    have g2 : (u2 * 65536 * 65536) * X ≤ ((u2 * 65536 + u1) * 65536 + u0) * X := Nat.mul_le_mul_right X (kd_4 u2 u1 u0)
    rw [Nat.add_mul, Nat.one_mul] at g1
    rw [Nat.mul_right_comm (u2 * 65536)] at g2
    exact kd_5 c1 c3 hU c2 g1 g2
  exact ⟨X, vl, ul, c1.symm, c3, c2.symm, c4, hf1, d1, d2, hu2, d3, d4, hU⟩
/-- a guess that is too high -/
theorem KD_dec {U V n f1 f2 u2 u1 u0 q rest : Nat} (h : KD U V n f1 f2 u2 u1 u0) (hi : q * f1 + rest = u2 * 65536 + u1) (hc : 65535 < q ∨ rest * 65536 + u0 < q * f2) : U < q * V := by
  obtain ⟨X, vl, ul, e1, e2, e3, e4, e5, e6, e7, e8, e9, e10, e11⟩ := h
  rcases hc with hc | hc
  · refine Nat.lt_of_lt_of_le e11 ?_
    rw [Nat.mul_comm]
    exact Nat.mul_le_mul_right V hc
  · have g1 : (u2 * 65536 + u1) * 65536 + u0 + 1 ≤ q * (f1 * 65536 + f2) := by
      rw [← hi, Nat.mul_add, ← Nat.mul_assoc, Nat.add_mul]
      omega
    have g2 : ((u2 * 65536 + u1) * 65536 + u0 + 1) * X ≤ q * (f1 * 65536 + f2) * X := Nat.mul_le_mul_right X g1
    rw [Nat.add_mul, Nat.one_mul] at g2
    have g3 : q * V = q * (f1 * 65536 + f2) * X + q * vl := by rw [e1, Nat.mul_add, Nat.mul_assoc]
    omega
/-- a guess that is too low by a rest too high -/
theorem KD_more {U V n f1 f2 u2 u1 u0 q rest : Nat} (h : KD U V n f1 f2 u2 u1 u0) (hi : q * f1 + rest = u2 * 65536 + u1) (hr : 65536 ≤ rest) : q ≤ 65535 ∧ q * f2 ≤ rest * 65536 + u0 := by
  obtain ⟨X, vl, ul, e1, e2, e3, e4, e5, e6, e7, e8, e9, e10, e11⟩ := h
  have hq : q < 65536 := by
    refine Nat.lt_of_not_le fun h => ?_
    have g : 65536 * f1 ≤ q * f1 := Nat.mul_le_mul_right f1 h
    omega
  have g2 : q * f2 ≤ 65535 * 65535 := Nat.mul_le_mul (by omega) (by omega)
  exact ⟨by omega, by omega⟩
/-- a good guess -/
theorem KD_end {U V n f1 f2 u2 u1 u0 q rest : Nat} (h : KD U V n f1 f2 u2 u1 u0) (hi : q * f1 + rest = u2 * 65536 + u1) (hq : q ≤ 65535) (hc : q * f2 ≤ rest * 65536 + u0) : q * V < U + V := by
  obtain ⟨X, vl, ul, e1, e2, e3, e4, e5, e6, e7, e8, e9, e10, e11⟩ := h
  have g1 : q * (f1 * 65536 + f2) ≤ (u2 * 65536 + u1) * 65536 + u0 := by
    rw [← hi, Nat.mul_add, ← Nat.mul_assoc, Nat.add_mul]
    omega
  have g2 : q * (f1 * 65536 + f2) * X ≤ ((u2 * 65536 + u1) * 65536 + u0) * X := Nat.mul_le_mul_right X g1
  have g3 : q * V = q * (f1 * 65536 + f2) * X + q * vl := by rw [e1, Nat.mul_add, Nat.mul_assoc]
  have g4 : q * vl ≤ 65535 * X := Nat.mul_le_mul hq (Nat.le_of_lt e2)
  have g5 : 65536 * X ≤ (f1 * 65536 + f2) * X := Nat.mul_le_mul_right X (by omega)
  omega
theorem div_fin {U V q Z : Nat} (h1 : U < (q + 1) * V) (h2 : q * V < U + V) (hZ : U < Z) (hZ2 : V ≤ Z) (hZ3 : q * V < Z) : (¬ U < q * V → (U + Z - q * V) % Z = U % V ∧ U % V < V) ∧ (U < q * V → ((U + Z - q * V) % Z + V) % Z = U % V) := by
  rw [Nat.add_mul, Nat.one_mul] at h1
  constructor
  · intro h
    have e : U % V = U - q * V := by
      have e1 : U = U - q * V + q * V := by omega
      rw [e1, Nat.add_mul_mod_self_right, Nat.mod_eq_of_lt (by omega)]
      omega
    rw [e, show U + Z - q * V = U - q * V + Z by omega, Nat.add_mod_right, Nat.mod_eq_of_lt (by omega)]
    exact ⟨rfl, by omega⟩
  · intro h
    have hq : 0 < q := by
      refine Nat.pos_of_ne_zero fun e => ?_
      rw [e, Nat.zero_mul] at h
      omega
    have e : U % V = U + V - q * V := by
      obtain ⟨p, rfl⟩ : ∃ p, q = p + 1 := ⟨q - 1, by omega⟩
      rw [Nat.add_mul, Nat.one_mul] at h h1 h2 ⊢
      have e1 : U = U - p * V + p * V := by omega
      rw [e1, Nat.add_mul_mod_self_right, Nat.mod_eq_of_lt (by omega)]
      omega
    have hVZ : U + V - q * V < V := by omega
    have e5 : U % V < V := Nat.mod_lt _ (by omega)
    rw [e, Nat.mod_eq_of_lt (by omega : U + Z - q * V < Z), show U + Z - q * V + V = U + V - q * V + Z by omega, Nat.add_mod_right]
    exact Nat.mod_eq_of_lt (by omega)
