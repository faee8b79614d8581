/-! SignHouseModel: nineteen numbers of 84 limbs in one row -/
theorem gq6_le (l e x i : Nat) : gq6 l e x i ≤ e + l := by
  have hp : 0 < 65536 ^ i := Nat.pow_pos (by decide)
  have h2 : x % 65536 ^ i < 65536 ^ i := Nat.mod_lt _ hp
  unfold gq6
  refine Nat.div_le_of_le_mul ?_
  have h3 : l * (x % 65536 ^ i) ≤ l * 65536 ^ i := Nat.mul_le_mul_left _ (Nat.le_of_lt h2)
  have h4 : e * 1 ≤ e * 65536 ^ i := Nat.mul_le_mul_left _ hp
  rw [Nat.mul_comm (65536 ^ i), Nat.add_mul]
  omega
/-- a number that has room -/
def bnd (x : Nat) : Prop := x < 65536 ^ 84
theorem bnd.le {x y : Nat} (h : bnd y) (hx : x ≤ y) : bnd x := Nat.lt_of_le_of_lt hx h
def xd (D : Nat → Nat → Nat) : Nat → Int32 := fun i => if i < 1596 then nI (D (i / 84) (i % 84)) else 0
def xv (v : Nat → Nat) : Nat → Int32 := xd fun t k => dg 65536 (v t) k
def xw (v : Nat → Nat) (s : Nat) (f : Nat → Nat) : Nat → Int32 := xd fun t k => if t = s then f k else dg 65536 (v t) k
abbrev xA (v : Nat → Nat) : ab_C := aI 1596 (xv v)
abbrev xB (v : Nat → Nat) (s : Nat) (f : Nat → Nat) : ab_C := aI 1596 (xw v s f)
/-- number s anew -/
def us (v : Nat → Nat) (s u : Nat) : Nat → Nat := fun t => if t = s then u else v t
theorem us_eq {v : Nat → Nat} {s u : Nat} : us v s u s = u := if_pos rfl
theorem us_ne {v : Nat → Nat} {s u t : Nat} (h : t ≠ s) : us v s u t = v t := if_neg h
theorem us_us (v : Nat → Nat) (s u y : Nat) : us (us v s u) s y = us v s y := by
  funext t
  unfold us
  split <;> rfl
theorem us_self {v : Nat → Nat} {s u : Nat} (h : v s = u) : us v s u = v := by
  funext t
  unfold us
  split
  · next e => rw [e, h]
  · rfl
theorem xd_rd {D : Nat → Nat → Nat} {s k : Nat} (hs : s < 19) (hk : k < 84) : xd D (84 * s + k) = nI (D s k) := by
  unfold xd
  rw [if_pos (by omega), show (84 * s + k) / 84 = s by omega, show (84 * s + k) % 84 = k by omega]
theorem xv_rd {v : Nat → Nat} {s k : Nat} (hs : s < 19) (hk : k < 84) : xv v (84 * s + k) = nI (dg 65536 (v s) k) := xd_rd hs hk
theorem xw_rs {v : Nat → Nat} {s k : Nat} {f : Nat → Nat} (hs : s < 19) (hk : k < 84) : xw v s f (84 * s + k) = nI (f k) := by
  unfold xw
  rw [xd_rd hs hk, if_pos rfl]
theorem xw_ro {v : Nat → Nat} {a s k : Nat} {f : Nat → Nat} (hs : s < 19) (hk : k < 84) (h : s ≠ a) : xw v a f (84 * s + k) = nI (dg 65536 (v s) k) := by
  unfold xw
  rw [xd_rd hs hk, if_neg h]
theorem xw_up {v : Nat → Nat} {s k x : Nat} {f : Nat → Nat} (hs : s < 19) (hk : k < 84) : va_up (xw v s f) (84 * s + k) (nI x) = xw v s (va_up f k x) := by
  funext i
  unfold va_up xw xd
  try dsimp only
  by_cases h : i = 84 * s + k
  · rw [if_pos h, if_pos (by omega), if_pos (by omega), if_pos (by omega)]
  · rw [if_neg h]
    by_cases h1 : i < 1596
    · rw [if_pos h1, if_pos h1]
      by_cases h2 : i / 84 = s
      · rw [if_pos h2, if_pos h2, if_neg (by omega)]
      · rw [if_neg h2, if_neg h2]
    · rw [if_neg h1, if_neg h1]
theorem xw_v (v : Nat → Nat) (s : Nat) : xw v s (dg 65536 (v s)) = xv v := by
  unfold xw xv
  congr 1
  funext t k
  split
  · next e => rw [e]
  · rfl
theorem xw_us {v : Nat → Nat} {s u : Nat} {f : Nat → Nat} (h : ∀ k, k < 84 → f k = dg 65536 u k) : xw v s f = xv (us v s u) := by
  funext i
  unfold xw xv xd us
  try dsimp only
  by_cases h1 : i < 1596
  · rw [if_pos h1, if_pos h1]
    by_cases h2 : i / 84 = s
    · rw [if_pos h2, if_pos h2, h _ (Nat.mod_lt _ (by decide))]
    · rw [if_neg h2, if_neg h2]
  · rw [if_neg h1, if_neg h1]
theorem xw_fl {v : Nat → Nat} {s u : Nat} {g : Nat → Nat} : xw v s (fl 84 (dg 65536 u) g) = xv (us v s u) := xw_us fun k hk => fl_lo hk
theorem xw_up0 {v : Nat → Nat} {s k x : Nat} (hs : s < 19) (hk : k < 84) : va_up (xv v) (84 * s + k) (nI x) = xw v s (va_up (dg 65536 (v s)) k x) := by
  rw [← xw_v v s, xw_up hs hk]
theorem r_xlV {μ : ab_M} {g : ab_G} {uc us pc N : Nat} {L : List (Nat × Value)} {S : List Value} {w : ab_W} {Q : ab_Q} {a s k : Nat} {i : Int32} {v : Nat → Nat} (d : decode (mC μ) pc = .ok (.iaload, 1)) (hw : w a = xA v) (hi : i = nI (84 * s + k)) (hs : s < 19) (hk : k < 84) (kk : ab_St μ g uc us (pc + 1) L (.int (nI (dg 65536 (v s) k)) :: S) N w Q) : ab_St μ g uc us pc L (.int i :: .ref a :: S) N w Q := r_iaload d (by rw [hw]; rfl) (84 * s + k) hi (show 84 * s + k < 1596 by omega) (by decide) (by rw [xv_rd hs hk]; exact kk)
theorem r_xlS {μ : ab_M} {g : ab_G} {uc us pc N : Nat} {L : List (Nat × Value)} {S : List Value} {w : ab_W} {Q : ab_Q} {a s k : Nat} {i : Int32} {v f : Nat → Nat} (d : decode (mC μ) pc = .ok (.iaload, 1)) (hw : w a = xB v s f) (hi : i = nI (84 * s + k)) (hs : s < 19) (hk : k < 84) (kk : ab_St μ g uc us (pc + 1) L (.int (nI (f k)) :: S) N w Q) : ab_St μ g uc us pc L (.int i :: .ref a :: S) N w Q := r_iaload d (by rw [hw]; rfl) (84 * s + k) hi (show 84 * s + k < 1596 by omega) (by decide) (by rw [xw_rs hs hk]; exact kk)
theorem r_xlO {μ : ab_M} {g : ab_G} {uc us pc N : Nat} {L : List (Nat × Value)} {S : List Value} {w : ab_W} {Q : ab_Q} {a b s k : Nat} {i : Int32} {v f : Nat → Nat} (d : decode (mC μ) pc = .ok (.iaload, 1)) (hw : w a = xB v b f) (hi : i = nI (84 * s + k)) (hs : s < 19) (hk : k < 84) (hn : s ≠ b) (kk : ab_St μ g uc us (pc + 1) L (.int (nI (dg 65536 (v s) k)) :: S) N w Q) : ab_St μ g uc us pc L (.int i :: .ref a :: S) N w Q := r_iaload d (by rw [hw]; rfl) (84 * s + k) hi (show 84 * s + k < 1596 by omega) (by decide) (by rw [xw_ro hs hk hn]; exact kk)
theorem r_xs {μ : ab_M} {g : ab_G} {uc us pc N : Nat} {L : List (Nat × Value)} {S : List Value} {w : ab_W} {Q : ab_Q} {a s k x : Nat} {i : Int32} {v f : Nat → Nat} (d : decode (mC μ) pc = .ok (.iastore, 1)) (hw : w a = xB v s f) (hi : i = nI (84 * s + k)) (hs : s < 19) (hk : k < 84) (kk : ab_St μ g uc us (pc + 1) L S N (wu w a (xB v s (va_up f k x))) Q) : ab_St μ g uc us pc L (.int (nI x) :: .int i :: .ref a :: S) N w Q := r_iastore d hw (84 * s + k) hi (show 84 * s + k < 1596 by omega) (by decide) (by rw [xw_up hs hk]; exact kk)
theorem xw_start {w : ab_W} {v : Nat → Nat} {s : Nat} {f : Nat → Nat} (h : w 75 = xA v) : wu w 75 (xB v s (fl 0 f (dg 65536 (v s)))) = w := by
  rw [fl_0]
  unfold xB
  rw [xw_v]
  exact wu_self h
abbrev mdX (fs : List Value) : ab_C := aO 7 (.ref 75 :: fs)
/-- how many limbs -/
def ll (v : Nat) : Nat := (bl v + 15) / 16
theorem p16 (k : Nat) : 65536 ^ k = 2 ^ (16 * k) := by rw [Nat.pow_mul]
theorem ll_of {v k : Nat} (h1 : 65536 ^ k ≤ v) (h2 : v < 65536 ^ (k + 1)) : ll v = k + 1 := by
  rw [p16] at h1 h2
  have a1 := bl_le h2
  have a2 : 16 * k < bl v := by
    refine Nat.lt_of_not_le fun h => ?_
    have h3 := Nat.lt_of_lt_of_le (bl_lt (v := v)) (Nat.pow_le_pow_right (by decide) h)
    omega
  unfold ll
  omega
theorem ll_0 : ll 0 = 0 := by decide
theorem ll_le {v n : Nat} (h : v < 65536 ^ n) : ll v ≤ n := by
  rw [p16] at h
  have a1 := bl_le h
  unfold ll
  omega
theorem ll_lt (v : Nat) : v < 65536 ^ ll v := by
  rw [p16]
  refine Nat.lt_of_lt_of_le bl_lt (Nat.pow_le_pow_right (by decide) ?_)
  unfold ll
  omega
theorem ll_ge {v n : Nat} (h : 65536 ^ n ≤ v) : n < ll v := by
  refine Nat.lt_of_not_le fun h1 => ?_
  have h2 := Nat.lt_of_lt_of_le (ll_lt v) (Nat.pow_le_pow_right (by decide : 0 < 65536) h1)
  omega
theorem ll_top {v : Nat} (h : 0 < ll v) : 65536 ^ (ll v - 1) ≤ v := by
  refine Nat.le_of_not_lt fun h1 => ?_
  have := ll_le h1
  omega
theorem dg_z {b v n : Nat} (hb : 0 < b) (h : v < b ^ (n + 1)) (h0 : dg b v n = 0) : v < b ^ n := by
  have h1 : v / b ^ n < b := Nat.div_lt_of_lt_mul (by rw [← Nat.pow_succ]; exact h)
  unfold dg at h0
  rw [Nat.mod_eq_of_lt h1] at h0
  have hp : 0 < b ^ n := Nat.pow_pos hb
  refine Nat.lt_of_not_le fun h2 => ?_
  have h3 := Nat.div_pos h2 hp
  omega
theorem dg_nz {b v n : Nat} (h0 : dg b v n ≠ 0) : b ^ n ≤ v := by
  refine Nat.le_of_not_lt fun h => h0 ?_
  unfold dg
  rw [Nat.div_eq_of_lt h, Nat.zero_mod]
