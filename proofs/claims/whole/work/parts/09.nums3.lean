/-! limb by limb: what a carry, a borrow, a remainder is -/
theorem ud_word {v q x : Nat} (hx : x < 256) : ud 4294967296 v (q / 2 ^ 2) (ud 256 (dg 4294967296 v (q / 2 ^ 2)) (q % 2 ^ 2) x) = ud 256 v q x := ud_ud (b := 256) (v := v) (m := 4) (q := q) (by decide) (by decide) hx
theorem dg_bit (v q : Nat) : dg 4294967296 v (q / 2 ^ 5) / 2 ^ (q % 2 ^ 5) % 2 = dg 2 v q := by
  have h := dg_dg (b := 2) (v := v) (m := 32) (i := q / 32) (r := q % 32) (Nat.mod_lt _ (by decide))
  have e : 32 * (q / 32) + q % 32 = q := Nat.div_add_mod q 32
  rw [e] at h
  exact h
theorem div_dg (b v i : Nat) : v / b ^ i = v / b ^ (i + 1) * b + dg b v i := by
  have h := Nat.div_add_mod (v / b ^ i) b
  rw [Nat.div_div_eq_div_mul, ← Nat.pow_succ, Nat.mul_comm] at h
  exact h.symm
/-- the carry of an addition -/
def ca (va vb i : Nat) : Nat := (va % 4294967296 ^ i + vb % 4294967296 ^ i) / 4294967296 ^ i
theorem ca_dg (va vb i : Nat) : (dg 4294967296 va i + dg 4294967296 vb i + ca va vb i) % 4294967296 = dg 4294967296 (va + vb) i := by
  have hp : 0 < 4294967296 ^ i := Nat.pow_pos (by decide)
  have h1 := Nat.div_add_mod va (4294967296 ^ i)
  have h2 := Nat.div_add_mod vb (4294967296 ^ i)
  have e : (va + vb) / 4294967296 ^ i = va / 4294967296 ^ i + vb / 4294967296 ^ i + ca va vb i := by
    have e2 : va + vb = (va % 4294967296 ^ i + vb % 4294967296 ^ i) + 4294967296 ^ i * (va / 4294967296 ^ i + vb / 4294967296 ^ i) := by
      rw [Nat.mul_add]
      omega
    unfold ca
    rw [e2, Nat.add_mul_div_left _ _ hp]
    have e3 := Nat.add_mul_div_left (va % 4294967296 ^ i + vb % 4294967296 ^ i) (va / 4294967296 ^ i + vb / 4294967296 ^ i) hp
    omega
  unfold dg
  rw [e]
  generalize va / 4294967296 ^ i = x
  generalize vb / 4294967296 ^ i = y
  omega
theorem ca_succ (va vb i : Nat) : (dg 4294967296 va i + dg 4294967296 vb i + ca va vb i) / 4294967296 = ca va vb (i + 1) := by
  have hp : 0 < 4294967296 ^ i := Nat.pow_pos (by decide)
  unfold ca
  rw [dg_succ 4294967296 va i, dg_succ 4294967296 vb i, Nat.pow_succ, ← Nat.div_div_eq_div_mul]
  have e : va % 4294967296 ^ i + 4294967296 ^ i * dg 4294967296 va i + (vb % 4294967296 ^ i + 4294967296 ^ i * dg 4294967296 vb i) = (va % 4294967296 ^ i + vb % 4294967296 ^ i) + 4294967296 ^ i * (dg 4294967296 va i + dg 4294967296 vb i) := by
    rw [Nat.mul_add]
    omega
  rw [e, Nat.add_mul_div_left _ _ hp]
  congr 1
  omega
theorem ca_0 (va vb : Nat) : ca va vb 0 = 0 := by
  unfold ca
  simp [Nat.mod_one]
theorem ca_le (va vb i : Nat) : ca va vb i ≤ 1 := by
  have hp : 0 < 4294967296 ^ i := Nat.pow_pos (by decide)
  have h1 : va % 4294967296 ^ i < 4294967296 ^ i := Nat.mod_lt _ hp
  have h2 : vb % 4294967296 ^ i < 4294967296 ^ i := Nat.mod_lt _ hp
  have : ca va vb i < 2 := by
    unfold ca
    exact Nat.div_lt_of_lt_mul (by omega)
  omega
/-- the borrow of a subtraction -/
def bo (va vb i : Nat) : Nat := if va % 4294967296 ^ i < vb % 4294967296 ^ i then 1 else 0
theorem bo_le (va vb i : Nat) : bo va vb i ≤ 1 := by
  unfold bo
  split <;> omega
theorem bo_0 (va vb : Nat) : bo va vb 0 = 0 := by
  unfold bo
  simp [Nat.mod_one]
theorem bo_end {va vb n : Nat} (ha : va < 4294967296 ^ n) (hb : vb < 4294967296 ^ n) : bo va vb n = if va < vb then 1 else 0 := by
  unfold bo
  rw [Nat.mod_eq_of_lt ha, Nat.mod_eq_of_lt hb]
theorem bo_succ (va vb i : Nat) : bo va vb (i + 1) = if dg 4294967296 va i < dg 4294967296 vb i + bo va vb i then 1 else 0 := by
  have hp : 0 < 4294967296 ^ i := Nat.pow_pos (by decide)
  have h1 : va % 4294967296 ^ i < 4294967296 ^ i := Nat.mod_lt _ hp
  have h2 : vb % 4294967296 ^ i < 4294967296 ^ i := Nat.mod_lt _ hp
  unfold bo
  rw [dg_succ 4294967296 va i, dg_succ 4294967296 vb i]
  generalize va % 4294967296 ^ i = x at h1
  generalize vb % 4294967296 ^ i = y at h2
  generalize dg 4294967296 va i = a
  generalize dg 4294967296 vb i = b
  generalize 4294967296 ^ i = p at *
  congr 1
  rw [eq_iff_iff]
  rcases Nat.lt_trichotomy a b with h | h | h
  · have h3 : p * (a + 1) ≤ p * b := Nat.mul_le_mul_left _ h
    rw [Nat.mul_add, Nat.mul_one] at h3
    constructor
    · intro _
      omega
    · intro _
      omega
  · subst h
    by_cases h4 : x < y
    · rw [if_pos h4]
      constructor <;> intro _ <;> omega
    · rw [if_neg h4]
      constructor <;> intro _ <;> omega
  · have h3 : p * (b + 1) ≤ p * a := Nat.mul_le_mul_left _ h
    rw [Nat.mul_add, Nat.mul_one] at h3
    constructor
    · intro _
      omega
    · intro h5
      exfalso
      split at h5 <;> omega
theorem bo_dg {va vb n i : Nat} (hi : i < n) (hb : vb < 4294967296 ^ n) : (dg 4294967296 va i + 18446744073709551616 - dg 4294967296 vb i - bo va vb i) % 4294967296 = dg 4294967296 ((va + 4294967296 ^ n - vb) % 4294967296 ^ n) i := by
  rw [dg_mod hi]
  have hp : 0 < 4294967296 ^ i := Nat.pow_pos (by decide)
  obtain ⟨m, rfl⟩ : ∃ m, n = i + 1 + m := ⟨n - (i + 1), by omega⟩
  have h1 : va % 4294967296 ^ i < 4294967296 ^ i := Nat.mod_lt _ hp
  have h2 : vb % 4294967296 ^ i < 4294967296 ^ i := Nat.mod_lt _ hp
  have h3 := Nat.div_add_mod va (4294967296 ^ i)
  have h4 := Nat.div_add_mod vb (4294967296 ^ i)
  have h5 : 4294967296 ^ (i + 1 + m) = 4294967296 ^ i * (4294967296 * 4294967296 ^ m) := by
    rw [Nat.pow_add, Nat.pow_succ, Nat.mul_assoc]
  rw [h5] at hb ⊢
  have hq : vb / 4294967296 ^ i < 4294967296 * 4294967296 ^ m := Nat.div_lt_of_lt_mul hb
  unfold dg bo
  have e : (va + 4294967296 ^ i * (4294967296 * 4294967296 ^ m) - vb) / 4294967296 ^ i = va / 4294967296 ^ i + 4294967296 * 4294967296 ^ m - vb / 4294967296 ^ i - (if va % 4294967296 ^ i < vb % 4294967296 ^ i then 1 else 0) := by
    generalize va / 4294967296 ^ i = x at h3
    generalize vb / 4294967296 ^ i = y at h4 hq
    generalize 4294967296 * 4294967296 ^ m = z at hq
    generalize va % 4294967296 ^ i = r at h1 h3
    generalize vb % 4294967296 ^ i = t at h2 h4
    generalize 4294967296 ^ i = p at *
    subst h3
    subst h4
    have h6 : p * (y + 1) ≤ p * z := Nat.mul_le_mul_left _ hq
    rw [Nat.mul_add, Nat.mul_one] at h6
    by_cases h7 : r < t
    · rw [if_pos h7]
      refine Nat.div_eq_of_lt_le ?_ ?_
      · rw [Nat.mul_comm, Nat.mul_sub, Nat.mul_sub, Nat.mul_add, Nat.mul_one]
        omega
      · rw [Nat.mul_comm (x + z - y - 1 + 1) p, Nat.mul_add, Nat.mul_sub, Nat.mul_sub, Nat.mul_add, Nat.mul_one]
        have h8 : p ≤ p * x + p * z - p * y := by omega
        omega
    · rw [if_neg h7]
      refine Nat.div_eq_of_lt_le ?_ ?_
      · rw [Nat.mul_comm, Nat.mul_sub, Nat.mul_sub, Nat.mul_add]
        omega
      · rw [Nat.mul_comm (x + z - y - 0 + 1) p, Nat.mul_add, Nat.mul_sub, Nat.mul_sub, Nat.mul_add, Nat.mul_one]
        omega
  rw [e]
  generalize va / 4294967296 ^ i = x
  generalize vb / 4294967296 ^ i = y at hq
  generalize 4294967296 ^ m = z at hq
  split <;> omega
/-- a difference of longs, mod 2^64 -/
theorem lN_wrap (n : Nat) : lN (n + 18446744073709551616) = lN n := by
  rw [wb_mod (n + 18446744073709551616), wb_mod n]
  exact congrArg lN (by omega)
theorem lN_sub2 {a b c : Nat} (hb : b < 4294967296) (hc : c < 4294967296) : lN a - lN b - lN c = lN (a + 18446744073709551616 - b - c) := by
  rw [← lN_wrap a, lN_sub (by omega), lN_sub (by omega)]
theorem lN_subw {a b : Nat} (hb : b < 4294967296) : lN a - lN b = lN (a + 18446744073709551616 - b) := by
  rw [← lN_wrap a, lN_sub (by omega)]
theorem lN_neg {x : Nat} (h1 : 9223372036854775808 ≤ x) (h2 : x < 18446744073709551616) : lN x < lN 0 := by
  have e : (lN x).toInt = (x : Int) - 18446744073709551616 := by
    show (BitVec.ofNat 64 x).toInt = _
    rw [BitVec.toInt_eq_toNat_cond, BitVec.toNat_ofNat, Nat.mod_eq_of_lt (by omega), if_neg (by omega)]
    rfl
  rw [Int64.lt_iff_toInt_lt, e, show (lN 0).toInt = 0 by decide]
  omega
theorem lN_nneg {x : Nat} (h1 : 18446744073709551616 ≤ x) (h2 : x < 27670116110564327424) : ¬ lN x < lN 0 := by
  obtain ⟨y, rfl⟩ : ∃ y, x = y + 18446744073709551616 := ⟨x - 18446744073709551616, by omega⟩
  rw [lN_wrap, pk_lLT (by omega) (by decide)]
  omega
/-- halves -/
theorem half_dg (v i : Nat) : dg 4294967296 v i / 2 + dg 4294967296 v (i + 1) % 2 * 2147483648 = dg 4294967296 (v / 2) i := by
  unfold dg
  rw [Nat.div_div_eq_div_mul v 2, Nat.mul_comm 2, ← Nat.div_div_eq_div_mul, Nat.pow_succ, ← Nat.div_div_eq_div_mul]
  generalize v / 4294967296 ^ i = x
  omega
theorem lN_or_sum {a b q : Nat} (ha : a < 2 ^ q) (h : b * 2 ^ q + a < 2 ^ 64) : lN (b * 2 ^ q) ||| lN a = lN (b * 2 ^ q + a) := by
  rw [wb_or (by omega) (by omega), Nat.mul_comm, Nat.two_pow_add_eq_or_of_lt ha]
theorem lN_or_sum' {a b q : Nat} (ha : a < 2 ^ q) (h : b * 2 ^ q + a < 2 ^ 64) : lN a ||| lN (b * 2 ^ q) = lN (b * 2 ^ q + a) := by
  rw [wb_or (by omega) (by omega), Nat.mul_comm, Nat.two_pow_add_eq_or_of_lt ha, Nat.or_comm]
/-- how many bits -/
def bl (v : Nat) : Nat := if v = 0 then 0 else Nat.log2 v + 1
theorem bl_of {v k : Nat} (h1 : 2 ^ k ≤ v) (h2 : v < 2 ^ (k + 1)) : bl v = k + 1 := by
  have hv : v ≠ 0 := by
    have := Nat.two_pow_pos k
    omega
  unfold bl
  rw [if_neg hv]
  congr 1
  have h3 := (Nat.le_log2 hv).mpr h1
  have h4 := (Nat.log2_lt hv).mpr h2
  omega
theorem bl_lt {v : Nat} : v < 2 ^ bl v := by
  unfold bl
  split
  · rename_i h
    subst h
    decide
  · exact Nat.lt_log2_self
theorem bl_le {v n : Nat} (h : v < 2 ^ n) : bl v ≤ n := by
  unfold bl
  split
  · omega
  · rename_i hv
    exact (Nat.log2_lt hv).mpr h
theorem bl_1 (v : Nat) : bl v = 1 ↔ v = 1 := by
  constructor
  · intro h
    have h1 := bl_lt (v := v)
    rw [h] at h1
    rcases (show v = 0 ∨ v = 1 by omega) with rfl | rfl
    · exact absurd h (by decide)
    · rfl
  · rintro rfl
    decide
theorem bl_top {v i : Nat} (hv : v < 4294967296 ^ (i + 1)) (h0 : dg 4294967296 v i ≠ 0) : bl v = 32 * i + bl (dg 4294967296 v i) := by
  have e : (4294967296 : Nat) ^ i = 2 ^ (32 * i) := by
    rw [show (4294967296 : Nat) = 2 ^ 32 by decide, ← Nat.pow_mul]
  have hd : dg 4294967296 v i = v / 2 ^ (32 * i) := by
    unfold dg
    rw [Nat.mod_eq_of_lt (Nat.div_lt_of_lt_mul (by rw [← Nat.pow_succ]; exact hv)), e]
  rw [hd] at h0 ⊢
  have h1 := Nat.div_add_mod v (2 ^ (32 * i))
  have h2 : v % 2 ^ (32 * i) < 2 ^ (32 * i) := Nat.mod_lt _ (Nat.two_pow_pos _)
  generalize v / 2 ^ (32 * i) = x at *
  generalize v % 2 ^ (32 * i) = y at *
  have hx : bl x = Nat.log2 x + 1 := if_neg h0
  have h3 : 2 ^ Nat.log2 x ≤ x := Nat.log2_self_le h0
  have h4 : x < 2 ^ (Nat.log2 x + 1) := Nat.lt_log2_self
  rw [hx]
  have h5 : bl v = 32 * i + Nat.log2 x + 1 := by
    refine bl_of ?_ ?_
    · rw [Nat.pow_add]
      have := Nat.mul_le_mul_left (2 ^ (32 * i)) h3
      omega
    · rw [Nat.add_assoc, Nat.pow_add]
      have := Nat.mul_le_mul_left (2 ^ (32 * i)) h4
      rw [Nat.mul_succ] at this
      omega
  omega
theorem iincm {n : Nat} {z : Int} (c : Nat) (h : c ≤ n) (hz : nI c + Int32.ofInt z = 0) : nI n + Int32.ofInt z = nI (n - c) := by
  have e : nI n = nI (n - c) + nI c := by rw [nI_add, Nat.sub_add_cancel h]
  rw [e, Int32.add_assoc, hz, Int32.add_zero]
def rotr (x y : Int32) : Int32 := (x.toUInt32 >>> (y.toUInt32 &&& Int32.toUInt32 31)).toInt32 ||| (x <<< (-y &&& 31))
theorem bl_half {u c : Nat} (h : 2 ^ c ≤ u) : bl u = bl (u / 2 ^ c) + c := by
  have hp : 0 < 2 ^ c := Nat.two_pow_pos c
  have h1 : u / 2 ^ c ≠ 0 := by
    have := (Nat.le_div_iff_mul_le hp (x := 1) (y := u)).mpr (by omega)
    omega
  have h2 : 2 ^ Nat.log2 (u / 2 ^ c) ≤ u / 2 ^ c := Nat.log2_self_le h1
  have h3 : u / 2 ^ c < 2 ^ (Nat.log2 (u / 2 ^ c) + 1) := Nat.lt_log2_self
  have e : bl (u / 2 ^ c) = Nat.log2 (u / 2 ^ c) + 1 := if_neg h1
  rw [e, show Nat.log2 (u / 2 ^ c) + 1 + c = (Nat.log2 (u / 2 ^ c) + c) + 1 by omega]
  refine bl_of ?_ ?_
  · rw [Nat.pow_add]
    exact (Nat.le_div_iff_mul_le hp).mp h2
  · rw [show Nat.log2 (u / 2 ^ c) + c + 1 = Nat.log2 (u / 2 ^ c) + 1 + c by omega, Nat.pow_add]
    exact (Nat.div_lt_iff_lt_mul hp).mp h3
theorem bl_pos {u : Nat} (h : 0 < u) : 0 < bl u := by
  unfold bl
  rw [if_neg (by omega)]
  omega
theorem bl_small {u : Nat} (h0 : 0 < u) (h : u < 4) : bl u = 1 + u / 2 := by
  rcases (show u = 1 ∨ u = 2 ∨ u = 3 by omega) with rfl | rfl | rfl <;> decide
theorem dg_cmp {va vb i : Nat} : va / 4294967296 ^ i < vb / 4294967296 ^ i → va < vb := by
  intro h
  exact Nat.lt_of_not_le fun q => Nat.not_le.mpr h (Nat.div_le_div_right q)
theorem rem_step (v d i : Nat) : (v / 4294967296 ^ (i + 1) % d * 4294967296 + dg 4294967296 v i) % d = v / 4294967296 ^ i % d := by
  rw [div_dg 4294967296 v i, Nat.add_mod, Nat.mul_mod, Nat.mod_mod, ← Nat.mul_mod, ← Nat.add_mod]
theorem lN_rem {a d : Nat} (ha : a < 9223372036854775808) (h0 : 0 < d) (hd : d < 9223372036854775808) : lN a - lN a / lN d * lN d = lN (a % d) := pk_lRem ha h0 hd
