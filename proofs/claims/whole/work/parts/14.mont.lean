/-! MONTGOMERY'S WAY, in numbers -/
/-- the carry of S + l x -/
def cq (l S x i : Nat) : Nat := (S % 4294967296 ^ i + l * (x % 4294967296 ^ i)) / 4294967296 ^ i
theorem cq_0 (l S x : Nat) : cq l S x 0 = 0 := by
  unfold cq
  simp [Nat.mod_one]
theorem cq_div (l S x i : Nat) : (S + l * x) / 4294967296 ^ i = S / 4294967296 ^ i + l * (x / 4294967296 ^ i) + cq l S x i := by
  have hp : 0 < 4294967296 ^ i := Nat.pow_pos (by decide)
  have h1 := Nat.div_add_mod S (4294967296 ^ i)
  have h2 := Nat.div_add_mod x (4294967296 ^ i)
  have e2 : S + l * x = (S % 4294967296 ^ i + l * (x % 4294967296 ^ i)) + 4294967296 ^ i * (S / 4294967296 ^ i + l * (x / 4294967296 ^ i)) := by
    have h3 : l * x = l * (4294967296 ^ i * (x / 4294967296 ^ i)) + l * (x % 4294967296 ^ i) := by rw [← Nat.mul_add, h2]
    rw [Nat.mul_add, Nat.mul_left_comm (4294967296 ^ i) l]
    omega
  unfold cq
  rw [e2, Nat.add_mul_div_left _ _ hp]
  have e3 := Nat.add_mul_div_left (S % 4294967296 ^ i + l * (x % 4294967296 ^ i)) (S / 4294967296 ^ i + l * (x / 4294967296 ^ i)) hp
  omega
theorem cq_dg (l S x i : Nat) : (l * dg 4294967296 x i + dg 4294967296 S i + cq l S x i) % 4294967296 = dg 4294967296 (S + l * x) i := by
  unfold dg
  rw [cq_div]
  generalize S / 4294967296 ^ i = a
  generalize x / 4294967296 ^ i = b
  have e : l * b % 4294967296 = l * (b % 4294967296) % 4294967296 := by rw [Nat.mul_mod l b, Nat.mul_mod l (b % 4294967296), Nat.mod_mod]
  generalize l * (b % 4294967296) = u at e ⊢
  generalize l * b = v at e ⊢
  omega
theorem cq_succ (l S x i : Nat) : (l * dg 4294967296 x i + dg 4294967296 S i + cq l S x i) / 4294967296 = cq l S x (i + 1) := by
  have hp : 0 < 4294967296 ^ i := Nat.pow_pos (by decide)
  unfold cq
  rw [dg_succ 4294967296 S i, dg_succ 4294967296 x i, Nat.pow_succ, ← Nat.div_div_eq_div_mul]
  have e : S % 4294967296 ^ i + 4294967296 ^ i * dg 4294967296 S i + l * (x % 4294967296 ^ i + 4294967296 ^ i * dg 4294967296 x i) = (S % 4294967296 ^ i + l * (x % 4294967296 ^ i)) + 4294967296 ^ i * (dg 4294967296 S i + l * dg 4294967296 x i) := by
    rw [Nat.mul_add, Nat.mul_add, Nat.mul_left_comm l]
    omega
  rw [e, Nat.add_mul_div_left _ _ hp]
  congr 1
  omega
theorem cq_lt {l S x i : Nat} (hl : l < 4294967296) : cq l S x i < 4294967296 := by
  have hp : 0 < 4294967296 ^ i := Nat.pow_pos (by decide)
  have h1 : S % 4294967296 ^ i < 4294967296 ^ i := Nat.mod_lt _ hp
  have h2 : x % 4294967296 ^ i < 4294967296 ^ i := Nat.mod_lt _ hp
  have h3 : l * (x % 4294967296 ^ i) ≤ 4294967295 * (x % 4294967296 ^ i) := Nat.mul_le_mul_right _ (by omega)
  unfold cq
  exact Nat.div_lt_of_lt_mul (by omega)
/-- the carry of e + l x, e going in at the lowest limb -/
def gq (l e x i : Nat) : Nat := (e + l * (x % 4294967296 ^ i)) / 4294967296 ^ i
theorem gq_0 (l e x : Nat) : gq l e x 0 = e := by
  unfold gq
  simp [Nat.mod_one]
theorem gq_div (l e x i : Nat) : (e + l * x) / 4294967296 ^ i = l * (x / 4294967296 ^ i) + gq l e x i := by
  have hp : 0 < 4294967296 ^ i := Nat.pow_pos (by decide)
  have h2 := Nat.div_add_mod x (4294967296 ^ i)
  have e2 : e + l * x = (e + l * (x % 4294967296 ^ i)) + 4294967296 ^ i * (l * (x / 4294967296 ^ i)) := by
    have h3 : l * x = l * (4294967296 ^ i * (x / 4294967296 ^ i)) + l * (x % 4294967296 ^ i) := by rw [← Nat.mul_add, h2]
    rw [Nat.mul_left_comm (4294967296 ^ i) l]
    omega
  unfold gq
  rw [e2, Nat.add_mul_div_left _ _ hp]
  omega
theorem gq_dg (l e x i : Nat) : (l * dg 4294967296 x i + gq l e x i) % 4294967296 = dg 4294967296 (e + l * x) i := by
  unfold dg
  rw [gq_div]
  generalize x / 4294967296 ^ i = b
  have e : l * b % 4294967296 = l * (b % 4294967296) % 4294967296 := by rw [Nat.mul_mod l b, Nat.mul_mod l (b % 4294967296), Nat.mod_mod]
  generalize l * (b % 4294967296) = u at e ⊢
  generalize l * b = v at e ⊢
  omega
theorem gq_succ (l e x i : Nat) : (l * dg 4294967296 x i + gq l e x i) / 4294967296 = gq l e x (i + 1) := by
  have hp : 0 < 4294967296 ^ i := Nat.pow_pos (by decide)
  unfold gq
  rw [dg_succ 4294967296 x i, Nat.pow_succ, ← Nat.div_div_eq_div_mul]
  have e1 : e + l * (x % 4294967296 ^ i + 4294967296 ^ i * dg 4294967296 x i) = (e + l * (x % 4294967296 ^ i)) + 4294967296 ^ i * (l * dg 4294967296 x i) := by
    rw [Nat.mul_add, Nat.mul_left_comm l]
    omega
  rw [e1, Nat.add_mul_div_left _ _ hp]
  congr 1
  omega
theorem gq_lt {l e x i : Nat} (he : e < l) (hl : 0 < l) : gq l e x i < l := by
  have hp : 0 < 4294967296 ^ i := Nat.pow_pos (by decide)
  have h2 : x % 4294967296 ^ i < 4294967296 ^ i := Nat.mod_lt _ hp
  unfold gq
  refine Nat.div_lt_of_lt_mul ?_
  have h3 : l * (x % 4294967296 ^ i + 1) ≤ l * 4294967296 ^ i := Nat.mul_le_mul_left _ h2
  rw [Nat.mul_add, Nat.mul_one] at h3
  rw [Nat.mul_comm (4294967296 ^ i) l]
  omega
theorem gq_end {l e x n : Nat} (hx : x < 4294967296 ^ n) : gq l e x n = (e + l * x) / 4294967296 ^ n := by
  unfold gq
  rw [Nat.mod_eq_of_lt hx]
/-- the lowest limb of S + m c is 0 -/
theorem mont_zero {S c ni : Nat} (h : (c * ni + 1) % 4294967296 = 0) : (S + S % 4294967296 * ni % 4294967296 * c) % 4294967296 = 0 := by
  have e1 : S % 4294967296 * ni % 4294967296 * c % 4294967296 = S * (c * ni) % 4294967296 := by
    rw [Nat.mul_mod, Nat.mod_mod, ← Nat.mul_mod, Nat.mul_assoc, Nat.mul_mod, Nat.mod_mod, ← Nat.mul_mod, Nat.mul_comm ni c]
  have e2 : S * (c * ni + 1) % 4294967296 = 0 := by rw [Nat.mul_mod, h, Nat.mul_zero, Nat.zero_mod]
  rw [Nat.mul_add, Nat.mul_one] at e2
  generalize S % 4294967296 * ni % 4294967296 * c = u at e1 ⊢
  generalize S * (c * ni) = v at e1 e2
  omega
/-- one round of a product: the sum so far, its part below the top limb -/
theorem mont_step {s S m a b c q i x : Nat} (hs : s * 4294967296 ^ i = a * (b % 4294967296 ^ i) + q * c) (hx : x = dg 4294967296 b i) (hS : S = s + a * x) (h0 : (S + m * c) % 4294967296 = 0) : (S + m * c) / 4294967296 * 4294967296 ^ (i + 1) = a * (b % 4294967296 ^ (i + 1)) + (q + m * 4294967296 ^ i) * c := by
  have h1 : (S + m * c) / 4294967296 * 4294967296 = S + m * c := by omega
  rw [dg_succ 4294967296 b i, ← hx, Nat.pow_succ, Nat.mul_comm (4294967296 ^ i) 4294967296, ← Nat.mul_assoc, h1, hS, Nat.add_mul, Nat.add_mul, hs, Nat.mul_add, Nat.add_mul q]
  have e1 : a * x * 4294967296 ^ i = a * (4294967296 ^ i * x) := by rw [Nat.mul_assoc, Nat.mul_comm x]
  have e2 : m * c * 4294967296 ^ i = m * 4294967296 ^ i * c := by rw [Nat.mul_right_comm]
  omega
theorem mont_bound {s a b c q P : Nat} (hP : 0 < P) (hs : s * P = a * b + q * c) (hb : b < P) (hq : q < P) (hac : 0 < a + c) : s < a + c := by
  refine Nat.lt_of_mul_lt_mul_right (a := P) ?_
  rw [hs, Nat.add_mul]
  have h1 : a * b ≤ a * (P - 1) := Nat.mul_le_mul_left _ (by omega)
  have h2 : q * c ≤ (P - 1) * c := Nat.mul_le_mul_right _ (by omega)
  have e1 : a * P = a * (P - 1) + a := by
    obtain ⟨p, rfl⟩ : ∃ p, P = p + 1 := ⟨P - 1, by omega⟩
    rw [Nat.add_sub_cancel, Nat.mul_succ]
  have e2 : c * P = (P - 1) * c + c := by
    obtain ⟨p, rfl⟩ : ∃ p, P = p + 1 := ⟨P - 1, by omega⟩
    rw [Nat.add_sub_cancel, Nat.mul_succ, Nat.mul_comm]
  omega
/-- B has an inverse by an odd modulus -/
theorem mont_inv {c ni n : Nat} (h : (c * ni + 1) % 4294967296 = 0) : ∃ k, 4294967296 ^ n * k % c = 1 % c := by
  obtain ⟨z, h1⟩ : ∃ z, 4294967296 * z = c * ni + 1 := ⟨(c * ni + 1) / 4294967296, by omega⟩
  induction n with
  | zero => exact ⟨1, by simp⟩
  | succ n ih =>
    obtain ⟨k, hk⟩ := ih
    refine ⟨k * z, ?_⟩
    have e : 4294967296 ^ (n + 1) * (k * z) = 4294967296 ^ n * k * (c * ni + 1) := by
      rw [Nat.pow_succ, ← h1, Nat.mul_assoc, Nat.mul_assoc, Nat.mul_left_comm 4294967296 k z]
    rw [e, Nat.mul_mod, hk, Nat.add_comm, Nat.add_mul_mod_self_left, ← Nat.mul_mod, Nat.mul_one]
theorem mont_cancel {c ni n x y : Nat} (h : (c * ni + 1) % 4294967296 = 0) (hx : x < c) (hy : y < c) (e : x * 4294967296 ^ n % c = y * 4294967296 ^ n % c) : x = y := by
  obtain ⟨k, hk⟩ := mont_inv (n := n) h
  have key : ∀ z, z < c → z * 4294967296 ^ n % c * k % c = z := by
    intro z hz
    rw [Nat.mul_mod, Nat.mod_mod, ← Nat.mul_mod, Nat.mul_assoc, Nat.mul_mod, hk, ← Nat.mul_mod, Nat.mul_one, Nat.mod_eq_of_lt hz]
  rw [← key x hx, ← key y hy, e]
/-- the form in which a number is carried -/
def mt (c n x : Nat) : Nat := x * 4294967296 ^ n % c
theorem mt_lt {c n x : Nat} (hc : 0 < c) : mt c n x < c := Nat.mod_lt _ hc
theorem mt_mul {c ni n x y r : Nat} (h : (c * ni + 1) % 4294967296 = 0) (hc : 0 < c) (hr : r < c) (e : r * 4294967296 ^ n % c = mt c n x * mt c n y % c) : r = mt c n (x * y) := by
  refine mont_cancel (n := n) h hr (mt_lt hc) ?_
  rw [e]
  unfold mt
  rw [← Nat.mul_mod, Nat.mod_mul_mod]
  congr 1
  simp only [Nat.mul_assoc, Nat.mul_left_comm, Nat.mul_comm]
theorem mt_mod {c n x : Nat} : mt c n (x % c) = mt c n x := by
  unfold mt
  rw [Nat.mod_mul_mod]
theorem mt_in {c ni n x r : Nat} (h : (c * ni + 1) % 4294967296 = 0) (hc : 0 < c) (hr : r < c) (e : r * 4294967296 ^ n % c = x * (4294967296 ^ n * 4294967296 ^ n % c) % c) : r = mt c n x := by
  refine mont_cancel (n := n) h hr (mt_lt hc) ?_
  rw [e]
  unfold mt
  rw [Nat.mul_mod, Nat.mod_mod, ← Nat.mul_mod, Nat.mod_mul_mod, Nat.mul_assoc]
theorem mt_out {c ni n x r : Nat} (h : (c * ni + 1) % 4294967296 = 0) (hc : 0 < c) (hr : r < c) (e : r * 4294967296 ^ n % c = mt c n x * 1 % c) : r = x % c := by
  refine mont_cancel (n := n) h hr (Nat.mod_lt _ hc) ?_
  rw [e, Nat.mul_one]
  unfold mt
  rw [Nat.mod_mod, Nat.mod_mul_mod]
/-- the last step: at most once the modulus away -/
theorem mont_end {s c P t d : Nat} (hc : c < P) (hs : s < c + c) (ht : t = s % P) (hd : d = s / P) : (if d ≠ 0 ∨ c ≤ t then (t + P - c) % P else t) = (if c ≤ s then s - c else s) ∧ (if c ≤ s then s - c else s) < c := by
  have hP : 0 < P := by omega
  have h1 := Nat.div_add_mod s P
  have h2 : s % P < P := Nat.mod_lt _ hP
  subst hd
  subst ht
  have h3 : s / P ≤ 1 := by
    have : s / P < 2 := Nat.div_lt_of_lt_mul (by omega)
    omega
  have h5 : s / P = 0 ∨ s / P = 1 := by
    generalize s / P = e at h3
    omega
  rcases h5 with h | h
  · rw [h, Nat.mul_zero, Nat.zero_add] at h1
    rw [h1]
    by_cases h4 : c ≤ s
    · rw [if_pos (Or.inr h4), if_pos h4]
      have e : s + P - c = s - c + P := by omega
      rw [e, Nat.add_mod_right, Nat.mod_eq_of_lt (by omega)]
      exact ⟨rfl, by omega⟩
    · rw [if_neg (by omega), if_neg h4]
      exact ⟨rfl, by omega⟩
  · rw [h, Nat.mul_one] at h1
    rw [if_pos (Or.inl (by omega)), if_pos (by omega), Nat.mod_eq_of_lt (by omega)]
    exact ⟨by omega, by omega⟩
theorem mont_class {s c x y q P : Nat} (h : s * P = x * y + q * c) : (if c ≤ s then s - c else s) * P % c = x * y % c := by
  have e : s * P % c = x * y % c := by rw [h, Nat.add_mul_mod_self_right]
  rw [← e]
  split
  · rename_i hle
    obtain ⟨r, rfl⟩ : ∃ r, s = r + c := ⟨s - c, by omega⟩
    rw [Nat.add_sub_cancel, Nat.add_mul, Nat.mul_comm c P, Nat.add_mul_mod_self_right]
  · rfl
theorem fl_top {W R S : Nat} (hR : R < 4294967296 ^ (W + 1)) (hS : S < 4294967296 ^ (W + 2)) : fl (W + 1) (rJ R) (rJ S) = rJ (R + dg 4294967296 S (W + 1) * 4294967296 ^ (W + 1)) := by
  funext k
  have h := dg_of (b := 4294967296) (hi := 0) (x := dg 4294967296 S (W + 1)) (lo := R) (i := W + 1) (k := k) (by decide) (dg_lt _ _) hR
  rw [Nat.zero_mul, Nat.zero_add, Nat.add_comm] at h
  unfold fl rJ
  rw [h]
  by_cases h1 : k < W + 1
  · rw [if_pos h1, if_pos h1]
  · rw [if_neg h1, if_neg h1]
    by_cases h2 : k = W + 1
    · rw [if_pos h2, h2]
    · rw [if_neg h2, dg_big hS (by omega) (by decide), dg_big (b := 4294967296) (v := 0) (n := 0) (by decide) (by omega) (by decide)]
