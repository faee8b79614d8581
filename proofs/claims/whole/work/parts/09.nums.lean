/-! NUMBERS in rows: digits, rows of 32-bit limbs -/
abbrev rt (r0 : Option Value) (N0 : Nat) (w0 : ab_W) : ab_Q := fun r N w => r = r0 ∧ N0 = N ∧ w = w0
/-- an answer, the world as it was -/
abbrev rp (r0 : Option Value) (N0 : Nat) (w0 : ab_W) : ab_Q := fun r N w => r = r0 ∧ N0 = N ∧ w0 = w
def dg (b v i : Nat) : Nat := v / b ^ i % b
def rJ (v : Nat) : Nat → Int64 := fun i => lN (dg 4294967296 v i)
abbrev aN (n v : Nat) : ab_C := aJ n (rJ v)
def fl {α : Type} (i : Nat) (f g : Nat → α) : Nat → α := fun k => if k < i then f k else g k
theorem fl_0 {α : Type} (f g : Nat → α) : fl 0 f g = g := by
  funext k
  exact if_neg (Nat.not_lt_zero k)
theorem fl_up {α : Type} (i : Nat) (f g : Nat → α) : va_up (fl i f g) i (f i) = fl (i + 1) f g := by
  funext k
  unfold va_up fl
  by_cases h : k = i
  · subst h
    rw [if_pos rfl, if_pos (Nat.lt_succ_self k)]
  · rw [if_neg h]
    by_cases h2 : k < i
    · rw [if_pos h2, if_pos (by omega)]
    · rw [if_neg h2, if_neg (by omega)]
theorem fl_up' {α : Type} {i : Nat} {f g : Nat → α} {x : α} (h : x = f i) : va_up (fl i f g) i x = fl (i + 1) f g := by rw [h, fl_up]
theorem fl_dn' {α : Type} {i : Nat} {f g : Nat → α} {x : α} (h : x = g i) : va_up (fl (i + 1) f g) i x = fl i f g := by
  funext k
  unfold va_up fl
  by_cases h1 : k = i
  · subst h1
    rw [if_pos rfl, if_neg (Nat.lt_irrefl k), h]
  · rw [if_neg h1]
    by_cases h2 : k < i
    · rw [if_pos h2, if_pos (by omega)]
    · rw [if_neg h2, if_neg (by omega)]
theorem fl_end {α : Type} {n : Nat} {f g : Nat → α} (h : ∀ k, n ≤ k → f k = g k) : fl n f g = f := by
  funext k
  unfold fl
  by_cases h2 : k < n
  · rw [if_pos h2]
  · rw [if_neg h2, h k (by omega)]
theorem fl_lo {α : Type} {i k : Nat} {f g : Nat → α} (h : k < i) : fl i f g k = f k := if_pos h
theorem fl_hi {α : Type} {i k : Nat} {f g : Nat → α} (h : i ≤ k) : fl i f g k = g k := if_neg (by omega)
theorem dg_lt (v i : Nat) : dg 4294967296 v i < 4294967296 := Nat.mod_lt _ (by decide)
theorem dg_lt' {b : Nat} (h : 0 < b) (v i : Nat) : dg b v i < b := Nat.mod_lt _ h
theorem dg_big {b v n k : Nat} (h : v < b ^ n) (hk : n ≤ k) (hb : 0 < b) : dg b v k = 0 := by
  unfold dg
  rw [Nat.div_eq_of_lt (Nat.lt_of_lt_of_le h (Nat.pow_le_pow_right hb hk)), Nat.zero_mod]
theorem dg_0 (b v : Nat) : dg b v 0 = v % b := by
  unfold dg
  rw [Nat.pow_zero, Nat.div_one]
theorem dg_mod {b v n k : Nat} (hk : k < n) : dg b (v % b ^ n) k = dg b v k := by
  unfold dg
  obtain ⟨m, rfl⟩ : ∃ m, n = k + 1 + m := ⟨n - (k + 1), by omega⟩
  rw [Nat.pow_add b (k + 1) m, Nat.pow_succ, Nat.mul_assoc, Nat.mod_mul_right_div_self, Nat.mod_mul_right_mod]
theorem dg_succ (b v i : Nat) : v % b ^ (i + 1) = v % b ^ i + b ^ i * dg b v i := Nat.mod_pow_succ
theorem dg_div (b v i k : Nat) : dg b (v / b ^ i) k = dg b v (i + k) := by
  unfold dg
  rw [Nat.div_div_eq_div_mul, Nat.pow_add]
/-- a number from its digits -/
def sm (b : Nat) (f : Nat → Nat) : Nat → Nat
  | 0 => 0
  | n + 1 => sm b f n + f n * b ^ n
theorem sm_lt {b : Nat} {f : Nat → Nat} : ∀ {n : Nat}, (∀ k, k < n → f k < b) → sm b f n < b ^ n
  | 0, _ => by simp [sm]
  | n + 1, h => by
    have h1 := sm_lt (n := n) fun k hk => h k (by omega)
    have h2 := h n (by omega)
    show sm b f n + f n * b ^ n < b ^ (n + 1)
    have h3 : (f n + 1) * b ^ n ≤ b * b ^ n := Nat.mul_le_mul_right _ h2
    rw [Nat.pow_succ, Nat.mul_comm (b ^ n) b]
    rw [Nat.add_mul] at h3
    omega
theorem sm_dg {b : Nat} {f : Nat → Nat} (hb : 0 < b) : ∀ {n : Nat}, (∀ k, k < n → f k < b) → ∀ k, k < n → dg b (sm b f n) k = f k
  | 0, _, _, hk => absurd hk (Nat.not_lt_zero _)
  | n + 1, h, k, hk => by
    have h1 : ∀ j, j < n → f j < b := fun j hj => h j (by omega)
    have hp : 0 < b ^ n := Nat.pow_pos hb
    by_cases e : k = n
    · subst e
      show (sm b f k + f k * b ^ k) / b ^ k % b = f k
      rw [Nat.add_mul_div_right _ _ hp, Nat.div_eq_of_lt (sm_lt h1), Nat.zero_add, Nat.mod_eq_of_lt (h k hk)]
    · have h2 := sm_dg hb h1 k (by omega)
      have h3 : (sm b f n + f n * b ^ n) % b ^ n = sm b f n := by
        rw [Nat.add_mul_mod_self_right, Nat.mod_eq_of_lt (sm_lt h1)]
      show dg b (sm b f n + f n * b ^ n) k = f k
      rw [← dg_mod (n := n) (by omega), h3]
      exact h2
theorem sm_cong {b : Nat} {f g : Nat → Nat} : ∀ {n : Nat}, (∀ k, k < n → f k = g k) → sm b f n = sm b g n
  | 0, _ => rfl
  | n + 1, h => by
    show sm b f n + f n * b ^ n = sm b g n + g n * b ^ n
    rw [sm_cong fun k hk => h k (by omega), h n (by omega)]
theorem sm_of_dg (b v : Nat) : ∀ n : Nat, sm b (dg b v) n = v % b ^ n
  | 0 => by simp [sm, Nat.mod_one]
  | n + 1 => by
    show sm b (dg b v) n + dg b v n * b ^ n = _
    rw [sm_of_dg b v n, dg_succ, Nat.mul_comm]
/-- two numbers below b^n with the same digits are equal -/
theorem dg_ext {b u v n : Nat} (hu : u < b ^ n) (hv : v < b ^ n) (h : ∀ k, k < n → dg b u k = dg b v k) : u = v := by
  have h1 := sm_of_dg b u n
  have h2 := sm_of_dg b v n
  rw [Nat.mod_eq_of_lt hu] at h1
  rw [Nat.mod_eq_of_lt hv] at h2
  rw [← h1, ← h2]
  exact sm_cong h
/-- bytes of a row -/
theorem dg_byte (v q : Nat) : dg 4294967296 v (q / 2 ^ 2) / 2 ^ (8 * (q % 2 ^ 2)) % 2 ^ 8 = dg 256 v q := by
  unfold dg
  have e1 : (4294967296 : Nat) ^ (q / 2 ^ 2) = 2 ^ (32 * (q / 4)) := by
    rw [show (4294967296 : Nat) = 2 ^ 32 by decide, ← Nat.pow_mul]
  have e2 : (256 : Nat) ^ q = 2 ^ (8 * q) := by
    rw [show (256 : Nat) = 2 ^ 8 by decide, ← Nat.pow_mul]
  have e3 : 2 ^ (8 * q) = 2 ^ (32 * (q / 4)) * 2 ^ (8 * (q % 4)) := by
    rw [← Nat.pow_add]
    congr 1
    omega
  rw [e1, e2, e3, ← Nat.div_div_eq_div_mul]
  generalize v / 2 ^ (32 * (q / 4)) = x
  show x % 2 ^ 32 / 2 ^ (8 * (q % 4)) % 2 ^ 8 = x / 2 ^ (8 * (q % 4)) % 256
  have h4 : q % 4 < 4 := Nat.mod_lt _ (by decide)
  generalize q % 4 = r at h4
  rcases (show r = 0 ∨ r = 1 ∨ r = 2 ∨ r = 3 by omega) with rfl | rfl | rfl | rfl <;> omega
theorem iincm1' (n : Nat) : nI n + Int32.ofInt (-1) = nI n - 1 := by
  rw [Int32.sub_eq_add_neg]
  rfl
theorem i32_pm (n : Nat) : nI (n + 1) - 1 = nI n := nI_pred n
theorem nI0m : ¬ (0 : Int32) ≤ nI 0 - 1 := by decide
theorem nI0lt : nI 0 - 1 < (0 : Int32) := by decide
