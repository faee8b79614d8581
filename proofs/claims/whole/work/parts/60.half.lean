/-! Numbers in limbs of sixteen bits -/
def ca6 (va vb i : Nat) : Nat := (va % 65536 ^ i + vb % 65536 ^ i) / 65536 ^ i
theorem ca6_dg (va vb i : Nat) : (dg 65536 va i + dg 65536 vb i + ca6 va vb i) % 65536 = dg 65536 (va + vb) i := by
  have hp : 0 < 65536 ^ i := Nat.pow_pos (by decide)
  have h1 := Nat.div_add_mod va (65536 ^ i)
  have h2 := Nat.div_add_mod vb (65536 ^ i)
  have e : (va + vb) / 65536 ^ i = va / 65536 ^ i + vb / 65536 ^ i + ca6 va vb i := by
    have e2 : va + vb = (va % 65536 ^ i + vb % 65536 ^ i) + 65536 ^ i * (va / 65536 ^ i + vb / 65536 ^ i) := by
      rw [Nat.mul_add]
      omega
    unfold ca6
    rw [e2, Nat.add_mul_div_left _ _ hp]
    have e3 := Nat.add_mul_div_left (va % 65536 ^ i + vb % 65536 ^ i) (va / 65536 ^ i + vb / 65536 ^ i) hp
    omega
  unfold dg
  rw [e]
  generalize va / 65536 ^ i = x
  generalize vb / 65536 ^ i = y
  omega
theorem ca6_succ (va vb i : Nat) : (dg 65536 va i + dg 65536 vb i + ca6 va vb i) / 65536 = ca6 va vb (i + 1) := by
  have hp : 0 < 65536 ^ i := Nat.pow_pos (by decide)
  unfold ca6
  rw [dg_succ 65536 va i, dg_succ 65536 vb i, Nat.pow_succ, ← Nat.div_div_eq_div_mul]
  have e : va % 65536 ^ i + 65536 ^ i * dg 65536 va i + (vb % 65536 ^ i + 65536 ^ i * dg 65536 vb i) = (va % 65536 ^ i + vb % 65536 ^ i) + 65536 ^ i * (dg 65536 va i + dg 65536 vb i) := by
    rw [Nat.mul_add]
    omega
  rw [e, Nat.add_mul_div_left _ _ hp]
  congr 1
  omega
theorem ca6_0 (va vb : Nat) : ca6 va vb 0 = 0 := by
  unfold ca6
  simp [Nat.mod_one]
theorem ca6_le (va vb i : Nat) : ca6 va vb i ≤ 1 := by
  have hp : 0 < 65536 ^ i := Nat.pow_pos (by decide)
  have h1 : va % 65536 ^ i < 65536 ^ i := Nat.mod_lt _ hp
  have h2 : vb % 65536 ^ i < 65536 ^ i := Nat.mod_lt _ hp
  have : ca6 va vb i < 2 := by
    unfold ca6
    exact Nat.div_lt_of_lt_mul (by omega)
  omega
def bo6 (va vb i : Nat) : Nat := if va % 65536 ^ i < vb % 65536 ^ i then 1 else 0
theorem bo6_le (va vb i : Nat) : bo6 va vb i ≤ 1 := by
  unfold bo6
  split <;> omega
theorem bo6_0 (va vb : Nat) : bo6 va vb 0 = 0 := by
  unfold bo6
  simp [Nat.mod_one]
theorem bo6_end {va vb n : Nat} (ha : va < 65536 ^ n) (hb : vb < 65536 ^ n) : bo6 va vb n = if va < vb then 1 else 0 := by
  unfold bo6
  rw [Nat.mod_eq_of_lt ha, Nat.mod_eq_of_lt hb]
theorem bo6_succ (va vb i : Nat) : bo6 va vb (i + 1) = if dg 65536 va i < dg 65536 vb i + bo6 va vb i then 1 else 0 := by
  have hp : 0 < 65536 ^ i := Nat.pow_pos (by decide)
  have h1 : va % 65536 ^ i < 65536 ^ i := Nat.mod_lt _ hp
  have h2 : vb % 65536 ^ i < 65536 ^ i := Nat.mod_lt _ hp
  unfold bo6
  rw [dg_succ 65536 va i, dg_succ 65536 vb i]
  generalize va % 65536 ^ i = x at h1
  generalize vb % 65536 ^ i = y at h2
  generalize dg 65536 va i = a
  generalize dg 65536 vb i = b
  generalize 65536 ^ i = p at *
  congr 1
  rw [eq_iff_iff]
  rcases Nat.lt_trichotomy a b with h | h | h
  · have h3 : p * (a + 1) ≤ p * b := Nat.mul_le_mul_left _ h
    rw [Nat.mul_add, Nat.mul_one] at h3
    constructor
    · intro _
      omega
    · intro _
      omega
  · subst h
    by_cases h4 : x < y
    · rw [if_pos h4]
      constructor <;> intro _ <;> omega
    · rw [if_neg h4]
      constructor <;> intro _ <;> omega
  · have h3 : p * (b + 1) ≤ p * a := Nat.mul_le_mul_left _ h
    rw [Nat.mul_add, Nat.mul_one] at h3
    constructor
    · intro _
      omega
    · intro h5
      exfalso
      split at h5 <;> omega
theorem bo6_dg {va vb n i : Nat} (hi : i < n) (hb : vb < 65536 ^ n) : (dg 65536 va i + 4294967296 - dg 65536 vb i - bo6 va vb i) % 65536 = dg 65536 ((va + 65536 ^ n - vb) % 65536 ^ n) i := by
  rw [dg_mod hi]
  have hp : 0 < 65536 ^ i := Nat.pow_pos (by decide)
  obtain ⟨m, rfl⟩ : ∃ m, n = i + 1 + m := ⟨n - (i + 1), by omega⟩
  have h1 : va % 65536 ^ i < 65536 ^ i := Nat.mod_lt _ hp
  have h2 : vb % 65536 ^ i < 65536 ^ i := Nat.mod_lt _ hp
  have h3 := Nat.div_add_mod va (65536 ^ i)
  have h4 := Nat.div_add_mod vb (65536 ^ i)
  have h5 : 65536 ^ (i + 1 + m) = 65536 ^ i * (65536 * 65536 ^ m) := by
    rw [Nat.pow_add, Nat.pow_succ, Nat.mul_assoc]
  rw [h5] at hb ⊢
  have hq : vb / 65536 ^ i < 65536 * 65536 ^ m := Nat.div_lt_of_lt_mul hb
  unfold dg bo6
  have e : (va + 65536 ^ i * (65536 * 65536 ^ m) - vb) / 65536 ^ i = va / 65536 ^ i + 65536 * 65536 ^ m - vb / 65536 ^ i - (if va % 65536 ^ i < vb % 65536 ^ i then 1 else 0) := by
    generalize va / 65536 ^ i = x at h3
    generalize vb / 65536 ^ i = y at h4 hq
    generalize 65536 * 65536 ^ m = z at hq
    generalize va % 65536 ^ i = r at h1 h3
    generalize vb % 65536 ^ i = t at h2 h4
    generalize 65536 ^ i = p at *
    subst h3
    subst h4
    have h6 : p * (y + 1) ≤ p * z := Nat.mul_le_mul_left _ hq
    rw [Nat.mul_add, Nat.mul_one] at h6
    by_cases h7 : r < t
    · rw [if_pos h7]
      refine Nat.div_eq_of_lt_le ?_ ?_
      · rw [Nat.mul_comm, Nat.mul_sub, Nat.mul_sub, Nat.mul_add, Nat.mul_one]
        omega
      · rw [Nat.mul_comm (x + z - y - 1 + 1) p, Nat.mul_add, Nat.mul_sub, Nat.mul_sub, Nat.mul_add, Nat.mul_one]
        have h8 : p ≤ p * x + p * z - p * y := by omega
        omega
    · rw [if_neg h7]
      refine Nat.div_eq_of_lt_le ?_ ?_
      · rw [Nat.mul_comm, Nat.mul_sub, Nat.mul_sub, Nat.mul_add]
        omega
      · rw [Nat.mul_comm (x + z - y - 0 + 1) p, Nat.mul_add, Nat.mul_sub, Nat.mul_sub, Nat.mul_add, Nat.mul_one]
        omega
  rw [e]
  generalize va / 65536 ^ i = x
  generalize vb / 65536 ^ i = y at hq
  generalize 65536 ^ m = z at hq
  split <;> omega
def gq6 (l e x i : Nat) : Nat := (e + l * (x % 65536 ^ i)) / 65536 ^ i
theorem gq6_0 (l e x : Nat) : gq6 l e x 0 = e := by
  unfold gq6
  simp [Nat.mod_one]
theorem gq6_div (l e x i : Nat) : (e + l * x) / 65536 ^ i = l * (x / 65536 ^ i) + gq6 l e x i := by
  have hp : 0 < 65536 ^ i := Nat.pow_pos (by decide)
  have h2 := Nat.div_add_mod x (65536 ^ i)
  have e2 : e + l * x = (e + l * (x % 65536 ^ i)) + 65536 ^ i * (l * (x / 65536 ^ i)) := by
    have h3 : l * x = l * (65536 ^ i * (x / 65536 ^ i)) + l * (x % 65536 ^ i) := by rw [← Nat.mul_add, h2]
    rw [Nat.mul_left_comm (65536 ^ i) l]
    omega
  unfold gq6
  rw [e2, Nat.add_mul_div_left _ _ hp]
  omega
theorem gq6_dg (l e x i : Nat) : (l * dg 65536 x i + gq6 l e x i) % 65536 = dg 65536 (e + l * x) i := by
  unfold dg
  rw [gq6_div]
  generalize x / 65536 ^ i = b
  have e : l * b % 65536 = l * (b % 65536) % 65536 := by rw [Nat.mul_mod l b, Nat.mul_mod l (b % 65536), Nat.mod_mod]
  generalize l * (b % 65536) = u at e ⊢
  generalize l * b = v at e ⊢
  omega
theorem gq6_succ (l e x i : Nat) : (l * dg 65536 x i + gq6 l e x i) / 65536 = gq6 l e x (i + 1) := by
  have hp : 0 < 65536 ^ i := Nat.pow_pos (by decide)
  unfold gq6
  rw [dg_succ 65536 x i, Nat.pow_succ, ← Nat.div_div_eq_div_mul]
  have e1 : e + l * (x % 65536 ^ i + 65536 ^ i * dg 65536 x i) = (e + l * (x % 65536 ^ i)) + 65536 ^ i * (l * dg 65536 x i) := by
    rw [Nat.mul_add, Nat.mul_left_comm l]
    omega
  rw [e1, Nat.add_mul_div_left _ _ hp]
  congr 1
  omega
theorem gq6_lt {l e x i : Nat} (he : e < l) (hl : 0 < l) : gq6 l e x i < l := by
  have hp : 0 < 65536 ^ i := Nat.pow_pos (by decide)
  have h2 : x % 65536 ^ i < 65536 ^ i := Nat.mod_lt _ hp
  unfold gq6
  refine Nat.div_lt_of_lt_mul ?_
  have h3 : l * (x % 65536 ^ i + 1) ≤ l * 65536 ^ i := Nat.mul_le_mul_left _ h2
  rw [Nat.mul_add, Nat.mul_one] at h3
  rw [Nat.mul_comm (65536 ^ i) l]
  omega
theorem gq6_end {l e x n : Nat} (hx : x < 65536 ^ n) : gq6 l e x n = (e + l * x) / 65536 ^ n := by
  unfold gq6
  rw [Nat.mod_eq_of_lt hx]
def cq6 (l S x i : Nat) : Nat := (S % 65536 ^ i + l * (x % 65536 ^ i)) / 65536 ^ i
theorem cq6_0 (l S x : Nat) : cq6 l S x 0 = 0 := by
  unfold cq6
  simp [Nat.mod_one]
theorem cq6_div (l S x i : Nat) : (S + l * x) / 65536 ^ i = S / 65536 ^ i + l * (x / 65536 ^ i) + cq6 l S x i := by
  have hp : 0 < 65536 ^ i := Nat.pow_pos (by decide)
  have h1 := Nat.div_add_mod S (65536 ^ i)
  have h2 := Nat.div_add_mod x (65536 ^ i)
  have e2 : S + l * x = (S % 65536 ^ i + l * (x % 65536 ^ i)) + 65536 ^ i * (S / 65536 ^ i + l * (x / 65536 ^ i)) := by
    have h3 : l * x = l * (65536 ^ i * (x / 65536 ^ i)) + l * (x % 65536 ^ i) := by rw [← Nat.mul_add, h2]
    rw [Nat.mul_add, Nat.mul_left_comm (65536 ^ i) l]
    omega
  unfold cq6
  rw [e2, Nat.add_mul_div_left _ _ hp]
  have e3 := Nat.add_mul_div_left (S % 65536 ^ i + l * (x % 65536 ^ i)) (S / 65536 ^ i + l * (x / 65536 ^ i)) hp
  omega
theorem cq6_dg (l S x i : Nat) : (l * dg 65536 x i + dg 65536 S i + cq6 l S x i) % 65536 = dg 65536 (S + l * x) i := by
  unfold dg
  rw [cq6_div]
  generalize S / 65536 ^ i = a
  generalize x / 65536 ^ i = b
  have e : l * b % 65536 = l * (b % 65536) % 65536 := by rw [Nat.mul_mod l b, Nat.mul_mod l (b % 65536), Nat.mod_mod]
  generalize l * (b % 65536) = u at e ⊢
  generalize l * b = v at e ⊢
  omega
theorem cq6_succ (l S x i : Nat) : (l * dg 65536 x i + dg 65536 S i + cq6 l S x i) / 65536 = cq6 l S x (i + 1) := by
  have hp : 0 < 65536 ^ i := Nat.pow_pos (by decide)
  unfold cq6
  rw [dg_succ 65536 S i, dg_succ 65536 x i, Nat.pow_succ, ← Nat.div_div_eq_div_mul]
  have e : S % 65536 ^ i + 65536 ^ i * dg 65536 S i + l * (x % 65536 ^ i + 65536 ^ i * dg 65536 x i) = (S % 65536 ^ i + l * (x % 65536 ^ i)) + 65536 ^ i * (dg 65536 S i + l * dg 65536 x i) := by
    rw [Nat.mul_add, Nat.mul_add, Nat.mul_left_comm l]
    omega
  rw [e, Nat.add_mul_div_left _ _ hp]
  congr 1
  omega
theorem cq6_lt {l S x i : Nat} (hl : l < 65536) : cq6 l S x i < 65536 := by
  have hp : 0 < 65536 ^ i := Nat.pow_pos (by decide)
  have h1 : S % 65536 ^ i < 65536 ^ i := Nat.mod_lt _ hp
  have h2 : x % 65536 ^ i < 65536 ^ i := Nat.mod_lt _ hp
  have h3 : l * (x % 65536 ^ i) ≤ 65535 * (x % 65536 ^ i) := Nat.mul_le_mul_right _ (by omega)
  unfold cq6
  exact Nat.div_lt_of_lt_mul (by omega)
theorem rem6_step (v d i : Nat) : (v / 65536 ^ (i + 1) % d * 65536 + dg 65536 v i) % d = v / 65536 ^ i % d := by
  rw [div_dg 65536 v i, Nat.add_mod, Nat.mul_mod, Nat.mod_mod, ← Nat.mul_mod, ← Nat.add_mod]
theorem dg6_lt (v i : Nat) : dg 65536 v i < 65536 := Nat.mod_lt _ (by decide)
theorem quo6_step {d : Nat} (hd : 0 < d) (X i : Nat) : (X / 65536 ^ (i + 1) % d * 65536 + dg 65536 X i) / d = dg 65536 (X / d) i := by
  have h1 := dg6_lt X i
  have hr : X / 65536 ^ (i + 1) % d < d := Nat.mod_lt _ hd
  have e := div_dg 65536 X i
  have e2 := Nat.div_add_mod (X / 65536 ^ (i + 1)) d
  unfold dg at h1 e ⊢
  rw [Nat.div_div_eq_div_mul, Nat.mul_comm d, ← Nat.div_div_eq_div_mul]
  generalize X / 65536 ^ i % 65536 = y at *
  rw [e]
  generalize X / 65536 ^ (i + 1) = Q at *
  generalize hR : Q % d = R at *
  have e3 : Q * 65536 + y = R * 65536 + y + d * (Q / d * 65536) := by
    rw [← Nat.mul_assoc]
    conv => lhs; rw [← e2]
    rw [Nat.add_mul]
    omega
  rw [e3, Nat.add_mul_div_left _ _ hd, Nat.add_mul_mod_self_right]
  refine (Nat.mod_eq_of_lt (Nat.div_lt_of_lt_mul ?_)).symm
  have : (R + 1) * 65536 ≤ d * 65536 := Nat.mul_le_mul_right _ hr
  omega
theorem dg6_cmp {va vb i : Nat} : va / 65536 ^ i < vb / 65536 ^ i → va < vb := by
  intro h
  exact Nat.lt_of_not_le fun q => Nat.not_le.mpr h (Nat.div_le_div_right q)
