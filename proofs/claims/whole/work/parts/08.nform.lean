/-! bits of longs: a family of kit/laws/BITS.to-paste -/
theorem wb_tb (n : Nat) : (lN n).toBitVec = BitVec.ofNat 64 n := rfl
theorem wb_inj {a b : Int64} (h : a.toBitVec = b.toBitVec) : a = b := Int64.toBitVec_inj.mp h
theorem wb_tn {n : Nat} (h : n < 2 ^ 64) : (lN n).toBitVec.toNat = n := by rw [wb_tb, BitVec.toNat_ofNat, Nat.mod_eq_of_lt h]
theorem wb_of (x : Int64) : ∃ n, n < 2 ^ 64 ∧ x = lN n := ⟨x.toBitVec.toNat, x.toBitVec.isLt, wb_inj (by rw [wb_tb]; simp)⟩
theorem wb_of32 (x : Int32) : ∃ n, n < 2 ^ 32 ∧ x = nI n := ⟨x.toBitVec.toNat, x.toBitVec.isLt, Int32.toBitVec_inj.mp (by show _ = BitVec.ofNat 32 _; simp)⟩
theorem wb_c : ∀ k, k < 64 → ((nI k).toInt64 &&& 63) = lN k := by decide +kernel
theorem wb_cu : ∀ k, k < 64 → ((nI k).toInt64.toUInt64 &&& Int64.toUInt64 63) = UInt64.ofNat k := by decide +kernel
theorem wb_sm : ∀ k, k < 64 → (BitVec.ofNat 64 k).smod 64 = BitVec.ofNat 64 k := by decide +kernel
theorem wb_pw {a b : Nat} (h : a ≤ b) : 2 ^ b = 2 ^ a * 2 ^ (b - a) := by rw [← Nat.pow_add]; congr 1; omega
theorem wb_lt2 {a b : Nat} (h : a < b) : 2 ^ a < 2 ^ b := Nat.pow_lt_pow_right (by decide) h
theorem wb_mod (n : Nat) : lN n = lN (n % 2 ^ 64) := wb_inj (by rw [wb_tb, wb_tb]; apply BitVec.eq_of_toNat_eq; rw [BitVec.toNat_ofNat, BitVec.toNat_ofNat, Nat.mod_mod])
theorem wb_shr {n k : Nat} (hn : n < 2 ^ 64) (hk : k < 64) : ((lN n).toUInt64 >>> ((nI k).toInt64.toUInt64 &&& Int64.toUInt64 63)).toInt64 = lN (n / 2 ^ k) := by
  rw [wb_cu k hk]
  apply wb_inj
  apply BitVec.eq_of_toNat_eq
  show ((lN n).toUInt64 >>> UInt64.ofNat k).toNat = (BitVec.ofNat 64 _).toNat
  have h1 : (UInt64.ofNat k).toNat = k := by
    show (BitVec.ofNat 64 k).toNat = k
    rw [BitVec.toNat_ofNat, Nat.mod_eq_of_lt (by omega)]
  have h2 : (lN n).toUInt64.toNat = n := wb_tn hn
  rw [UInt64.toNat_shiftRight, h1, h2, Nat.mod_eq_of_lt hk, Nat.shiftRight_eq_div_pow, BitVec.toNat_ofNat, Nat.mod_eq_of_lt (Nat.lt_of_le_of_lt (Nat.div_le_self _ _) hn)]
theorem wb_shl (n : Nat) {k : Nat} (hk : k < 64) : lN n <<< ((nI k).toInt64 &&& 63) = lN (n * 2 ^ k) := by
  rw [wb_c k hk]
  apply wb_inj
  rw [Int64.toBitVec_shiftLeft, wb_tb, wb_tb, wb_tb, wb_sm k hk]
  apply BitVec.eq_of_toNat_eq
  rw [BitVec.shiftLeft_eq', BitVec.toNat_shiftLeft, BitVec.toNat_ofNat, BitVec.toNat_ofNat, BitVec.toNat_ofNat, Nat.mod_eq_of_lt (show k < 2 ^ 64 by omega), Nat.shiftLeft_eq, Nat.mul_mod, Nat.mod_mod, ← Nat.mul_mod]
theorem wb_and {a b : Nat} (ha : a < 2 ^ 64) (hb : b < 2 ^ 64) : lN a &&& lN b = lN (a &&& b) := by
  apply wb_inj
  rw [Int64.toBitVec_and, wb_tb, wb_tb, wb_tb]
  apply BitVec.eq_of_toNat_eq
  rw [BitVec.toNat_and, BitVec.toNat_ofNat, BitVec.toNat_ofNat, BitVec.toNat_ofNat, Nat.mod_eq_of_lt ha, Nat.mod_eq_of_lt hb, Nat.mod_eq_of_lt (Nat.and_lt_two_pow _ hb)]
theorem wb_or {a b : Nat} (ha : a < 2 ^ 64) (hb : b < 2 ^ 64) : lN a ||| lN b = lN (a ||| b) := by
  apply wb_inj
  rw [Int64.toBitVec_or, wb_tb, wb_tb, wb_tb]
  apply BitVec.eq_of_toNat_eq
  rw [BitVec.toNat_or, BitVec.toNat_ofNat, BitVec.toNat_ofNat, BitVec.toNat_ofNat, Nat.mod_eq_of_lt ha, Nat.mod_eq_of_lt hb, Nat.mod_eq_of_lt (Nat.or_lt_two_pow ha hb)]
theorem wb_mask {n k : Nat} (hn : n < 2 ^ 64) (hk : k < 64) : lN n &&& lN (2 ^ k - 1) = lN (n % 2 ^ k) := by
  rw [wb_and hn (by have := wb_lt2 hk; omega), Nat.and_two_pow_sub_one_eq_mod]
theorem wb_a1 {n : Nat} (hn : n < 2 ^ 64) : lN n &&& 1 = lN (n % 2) := wb_mask (k := 1) hn (by decide)
theorem wb_bit {n k : Nat} (hn : n < 2 ^ 64) (hk : k < 64) : ((lN n).toUInt64 >>> ((nI k).toInt64.toUInt64 &&& Int64.toUInt64 63)).toInt64 &&& 1 = lN (n / 2 ^ k % 2) := by
  rw [wb_shr hn hk, wb_a1 (Nat.lt_of_le_of_lt (Nat.div_le_self _ _) hn)]
/-! THE RULES over natural numbers: an int is nI n, a long is lN n -/
theorem wu_eq {w : ab_W} {k : Nat} {c : ab_C} : wu w k c k = c := if_pos rfl
theorem wu_ne {w : ab_W} {k j : Nat} {c x : ab_C} (hne : j ≠ k) (h : w j = x) : wu w k c j = x := (if_neg hne).trans h
theorem wu_wu (w : ab_W) (k : Nat) (c c2 : ab_C) : wu (wu w k c) k c2 = wu w k c2 := by
  funext j
  unfold wu
  split <;> rfl
theorem wu_comm (w : ab_W) {k j : Nat} (c c2 : ab_C) (h : k ≠ j) : wu (wu w k c) j c2 = wu (wu w j c2) k c := by
  funext i
  unfold wu
  by_cases h1 : i = k
  · subst h1
    rw [if_pos rfl, if_neg h]
    simp
  · rw [if_neg h1]
    simp [h1]
theorem wu_self {w : ab_W} {k : Nat} {c : ab_C} (h : w k = c) : wu w k c = w := by
  funext j
  unfold wu
  split
  · rename_i e
    rw [e, h]
  · rfl
theorem iinc1 (n : Nat) : nI n + Int32.ofInt 1 = nI (n + 1) := nI_1 n
theorem iinc2 (n : Nat) : nI n + Int32.ofInt 2 = nI (n + 2) := nI_add n 2
theorem iinc4 (n : Nat) : nI n + Int32.ofInt 4 = nI (n + 4) := nI_add n 4
theorem iinc64 (n : Nat) : nI n + Int32.ofInt 64 = nI (n + 64) := nI_add n 64
theorem iincm1 (n : Nat) : nI (n + 1) + Int32.ofInt (-1) = nI n := pk_m1 n
theorem lN_and32 (n : Nat) : lN n &&& 4294967295 = lN (n % 4294967296) := by
  rw [wb_mod n]
  have h := wb_mask (n := n % 2 ^ 64) (k := 32) (Nat.mod_lt _ (by decide)) (by decide)
  have e : n % 2 ^ 64 % 2 ^ 32 = n % 4294967296 := by omega
  rw [e] at h
  exact h
theorem lN_u32 {n : Nat} (h : n < 18446744073709551616) : ((lN n).toUInt64 >>> ((nI 32).toInt64.toUInt64 &&& Int64.toUInt64 63)).toInt64 = lN (n / 4294967296) := wb_shr (k := 32) h (by decide)
theorem lN_lt64 {a b : Nat} (ha : a < 9223372036854775808) (hb : b < 9223372036854775808) : lN a < lN b ↔ a < b := pk_lLT ha hb
theorem lg_eq0 (x y : Int64) : lg_cmp x y = 0 ↔ x = y := by
  unfold lg_cmp
  constructor
  · intro h
    split at h
    · exact absurd h (by decide)
    · split at h
      · assumption
      · exact absurd h (by decide)
  · intro h
    subst h
    rw [if_neg (fun h => (lg_lt_not h) h), if_pos rfl]
theorem lg_lt0 (x y : Int64) : lg_cmp x y < 0 ↔ x < y := by
  have h1 := lg_cmp_ge x y
  rw [← Int32.not_lt] at h1
  constructor
  · intro h
    exact Int64.not_le.mp fun q => (h1.mpr q) h
  · intro h
    exact Classical.not_not.mp fun q => (Int64.not_le.mpr h) (h1.mp q)
theorem lg_gt0 (x y : Int64) : 0 < lg_cmp x y ↔ y < x := by
  unfold lg_cmp
  constructor
  · intro h
    split at h
    · assumption
    · split at h
      · exact absurd h (by decide)
      · exact absurd h (by decide)
  · intro h
    rw [if_pos h]
    decide
section RULESN
variable {μ : ab_M} {g : ab_G} {uc us pc N : Nat} {L : List (Nat × Value)} {S : List Value} {w : ab_W} {Q : ab_Q}
theorem r_nmI {x : Int32} (k : ∀ y : Int32, y = x → ab_St μ g uc us pc L (.int y :: S) N w Q) : ab_St μ g uc us pc L (.int x :: S) N w Q := k x rfl
theorem r_nmJ {x : Int64} (k : ∀ y : Int64, y = x → ab_St μ g uc us pc L (.long y :: S) N w Q) : ab_St μ g uc us pc L (.long x :: S) N w Q := k x rfl
theorem r_toI {x y : Int32} (h : x = y) (k : ab_St μ g uc us pc L (.int y :: S) N w Q) : ab_St μ g uc us pc L (.int x :: S) N w Q := h ▸ k
theorem r_toJ {x y : Int64} (h : x = y) (k : ab_St μ g uc us pc L (.long y :: S) N w Q) : ab_St μ g uc us pc L (.long x :: S) N w Q := h ▸ k
theorem r_toW {w' : ab_W} (h : w = w') (k : ab_St μ g uc us pc L S N w' Q) : ab_St μ g uc us pc L S N w Q := h ▸ k
theorem r_alen' {a n : Nat} {c : ab_C} (d : decode (mC μ) pc = .ok (.arraylength, 1)) (hw : w a = c) (hr : rdL c = some n) (k : ab_St μ g uc us (pc + 1) L (.int (nI n) :: S) N w Q) : ab_St μ g uc us pc L (.ref a :: S) N w Q := r_alen d (by rw [hw]; exact hr) k
theorem r_iaload' {a n : Nat} {f : Nat → Int32} {i : Int32} {c : ab_C} (d : decode (mC μ) pc = .ok (.iaload, 1)) (hw : w a = c) (hr : rdI c = some (n, f)) (j : Nat) (hi : i = nI j) (hj : j < n) (hn : n < 2147483648) (k : ab_St μ g uc us (pc + 1) L (.int (f j) :: S) N w Q) : ab_St μ g uc us pc L (.int i :: .ref a :: S) N w Q := r_iaload d (by rw [hw]; exact hr) j hi hj hn k
theorem r_laload' {a n : Nat} {f : Nat → Int64} {i : Int32} {c : ab_C} (d : decode (mC μ) pc = .ok (.laload, 1)) (hw : w a = c) (hr : rdJ c = some (n, f)) (j : Nat) (hi : i = nI j) (hj : j < n) (hn : n < 2147483648) (k : ab_St μ g uc us (pc + 1) L (.long (f j) :: S) N w Q) : ab_St μ g uc us pc L (.int i :: .ref a :: S) N w Q := r_laload d (by rw [hw]; exact hr) j hi hj hn k
theorem r_iaddN {a b : Nat} (d : decode (mC μ) pc = .ok (.iadd, 1))  (k : ab_St μ g uc us (pc + 1) L (.int (nI (a + b)) :: S) N w Q) : ab_St μ g uc us pc L (.int (nI b) :: .int (nI a) :: S) N w Q := r_iadd d (by rw [nI_add]; exact k)
theorem r_isubN {a b : Nat} (d : decode (mC μ) pc = .ok (.isub, 1)) (h : b ≤ a) (k : ab_St μ g uc us (pc + 1) L (.int (nI (a - b)) :: S) N w Q) : ab_St μ g uc us pc L (.int (nI b) :: .int (nI a) :: S) N w Q := r_isub d (by rw [pk_sub h]; exact k)
theorem r_imulN {a b : Nat} (d : decode (mC μ) pc = .ok (.imul, 1))  (k : ab_St μ g uc us (pc + 1) L (.int (nI (a * b)) :: S) N w Q) : ab_St μ g uc us pc L (.int (nI b) :: .int (nI a) :: S) N w Q := r_imul d (by rw [pk_mul]; exact k)
theorem r_idivN {a b : Nat} (d : decode (mC μ) pc = .ok (.idiv, 1)) (ha : a < 2147483648) (hb : b < 2147483648) (h0 : 0 < b) (k : ab_St μ g uc us (pc + 1) L (.int (nI (a / b)) :: S) N w Q) : ab_St μ g uc us pc L (.int (nI b) :: .int (nI a) :: S) N w Q := r_idiv d (nI_ne0 h0 hb) (by rw [pk_div ha h0 hb]; exact k)
theorem r_iremN {a b : Nat} (d : decode (mC μ) pc = .ok (.irem, 1)) (ha : a < 2147483648) (hb : b < 2147483648) (h0 : 0 < b) (k : ab_St μ g uc us (pc + 1) L (.int (nI (a % b)) :: S) N w Q) : ab_St μ g uc us pc L (.int (nI b) :: .int (nI a) :: S) N w Q := r_irem d (nI_ne0 h0 hb) (by rw [pk_rem ha h0 hb]; exact k)
theorem s_l' : ∀ n, n < 32 → ((nI n &&& 31).toBitVec.smod 32).toNat = n := by decide +kernel
theorem s_u' : ∀ n, n < 32 → (((nI n).toUInt32 &&& Int32.toUInt32 31).toBitVec % 32).toNat = n := by decide +kernel
theorem r_ishrN {a : Nat} (q : Nat) (hq : q < 32) (d : decode (mC μ) pc = .ok (.ishr, 1)) (ha : a < 2147483648) (k : ab_St μ g uc us (pc + 1) L (.int (nI (a / 2 ^ q)) :: S) N w Q) : ab_St μ g uc us pc L (.int (nI q) :: .int (nI a) :: S) N w Q := r_ishr d (by rw [pk_shrN ha _ q (s_l' q hq)]; exact k)
theorem r_iushrN {a : Nat} (q : Nat) (hq : q < 32) (d : decode (mC μ) pc = .ok (.iushr, 1)) (ha : a < 4294967296) (k : ab_St μ g uc us (pc + 1) L (.int (nI (a / 2 ^ q)) :: S) N w Q) : ab_St μ g uc us pc L (.int (nI q) :: .int (nI a) :: S) N w Q := r_iushr d (by rw [pk_ushrN ha _ q (s_u' q hq)]; exact k)
theorem r_ishlN {a : Nat} (q : Nat) (hq : q < 32) (d : decode (mC μ) pc = .ok (.ishl, 1)) (ha : a * 2 ^ q < 4294967296) (k : ab_St μ g uc us (pc + 1) L (.int (nI (a * 2 ^ q)) :: S) N w Q) : ab_St μ g uc us pc L (.int (nI q) :: .int (nI a) :: S) N w Q := r_ishl d (by rw [pk_shlN _ q (s_l' q hq) ha]; exact k)
theorem r_iandN {a m : Nat} (q : Nat) (hm : (nI m).toBitVec.toNat = 2 ^ q - 1) (d : decode (mC μ) pc = .ok (.iand, 1)) (ha : a < 4294967296) (k : ab_St μ g uc us (pc + 1) L (.int (nI (a % 2 ^ q)) :: S) N w Q) : ab_St μ g uc us pc L (.int (nI m) :: .int (nI a) :: S) N w Q := r_iand d (by rw [pk_andN ha q hm]; exact k)
theorem r_laddN {a b : Nat} (d : decode (mC μ) pc = .ok (.ladd, 1)) (k : ab_St μ g uc us (pc + 1) L (.long (lN (a + b)) :: S) N w Q) : ab_St μ g uc us pc L (.long (lN b) :: .long (lN a) :: S) N w Q := r_ladd d (by rw [lN_add]; exact k)
theorem r_lmulN {a b : Nat} (d : decode (mC μ) pc = .ok (.lmul, 1)) (k : ab_St μ g uc us (pc + 1) L (.long (lN (a * b)) :: S) N w Q) : ab_St μ g uc us pc L (.long (lN b) :: .long (lN a) :: S) N w Q := r_lmul d (by rw [lN_mul]; exact k)
theorem r_lsubN {a b : Nat} (d : decode (mC μ) pc = .ok (.lsub, 1)) (h : b ≤ a) (k : ab_St μ g uc us (pc + 1) L (.long (lN (a - b)) :: S) N w Q) : ab_St μ g uc us pc L (.long (lN b) :: .long (lN a) :: S) N w Q := r_lsub d (by rw [lN_sub h]; exact k)
theorem r_land32 {a : Nat} (d : decode (mC μ) pc = .ok (.land, 1)) (k : ab_St μ g uc us (pc + 1) L (.long (lN (a % 4294967296)) :: S) N w Q) : ab_St μ g uc us pc L (.long 4294967295 :: .long (lN a) :: S) N w Q := r_land d (by rw [lN_and32]; exact k)
theorem r_lushrN {a : Nat} (q : Nat) (hq : q < 64) (d : decode (mC μ) pc = .ok (.lushr, 1)) (ha : a < 18446744073709551616) (k : ab_St μ g uc us (pc + 1) L (.long (lN (a / 2 ^ q)) :: S) N w Q) : ab_St μ g uc us pc L (.int (nI q) :: .long (lN a) :: S) N w Q := r_lushr d (by rw [wb_shr ha hq]; exact k)
theorem r_lshrN {a : Nat} (q : Nat) (hq : q < 64) (d : decode (mC μ) pc = .ok (.lshr, 1)) (ha : a < 9223372036854775808) (k : ab_St μ g uc us (pc + 1) L (.long (lN (a / 2 ^ q)) :: S) N w Q) : ab_St μ g uc us pc L (.int (nI q) :: .long (lN a) :: S) N w Q := r_lshr d (by
  have e : lN a >>> ((nI q).toInt64 &&& 63) = lN (a / 2 ^ q) := by
    rw [wb_c q hq]
    apply Int64.toInt_inj.mp
    have h1 : (lN a >>> lN q).toInt = (lN a).toInt >>> q := by
      show ((lN a).toBitVec.sshiftRight ((lN q).toBitVec.smod 64).toNat).toInt = _
      rw [wb_tb q, wb_sm q hq, BitVec.toInt_sshiftRight]
      congr 1
      rw [BitVec.toNat_ofNat, Nat.mod_eq_of_lt (by omega)]
    have h2 : a / 2 ^ q ≤ a := Nat.div_le_self _ _
    rw [h1, pk_lT ha, pk_lT (by omega), Int.shiftRight_eq_div_pow]
    simp
  rw [e]; exact k)
theorem r_lshlN {a : Nat} (q : Nat) (hq : q < 64) (d : decode (mC μ) pc = .ok (.lshl, 1)) (k : ab_St μ g uc us (pc + 1) L (.long (lN (a * 2 ^ q)) :: S) N w Q) : ab_St μ g uc us pc L (.int (nI q) :: .long (lN a) :: S) N w Q := r_lshl d (by rw [wb_shl a hq]; exact k)
theorem r_i2lN {a : Nat} (d : decode (mC μ) pc = .ok (.i2l, 1)) (ha : a < 2147483648) (k : ab_St μ g uc us (pc + 1) L (.long (lN a) :: S) N w Q) : ab_St μ g uc us pc L (.int (nI a) :: S) N w Q := r_i2l d (by rw [nI_l ha]; exact k)
theorem r_l2iN {a : Nat} (d : decode (mC μ) pc = .ok (.l2i, 1)) (k : ab_St μ g uc us (pc + 1) L (.int (nI a) :: S) N w Q) : ab_St μ g uc us pc L (.long (lN a) :: S) N w Q := r_l2i d (by rw [lN_i]; exact k)
theorem r_icmp_eqN {a b : Nat} {off : Int} {tgt : Nat} (d : decode (mC μ) pc = .ok (.if_icmp .eq off, 3)) (ht : (pc : Int) + off = (tgt : Int)) (ha : a < 2147483648) (hb : b < 2147483648) (kt : a = b → ab_St μ g uc us tgt L S N w Q) (kf : ¬ a = b → ab_St μ g uc us (pc + 3) L S N w Q) : ab_St μ g uc us pc L (.int (nI b) :: .int (nI a) :: S) N w Q := r_icmp_eq d ht (fun h => kt ((nI_eq ha hb).mp h)) (fun h => kf (fun e => h ((nI_eq ha hb).mpr e)))
theorem r_icmp_neN {a b : Nat} {off : Int} {tgt : Nat} (d : decode (mC μ) pc = .ok (.if_icmp .ne off, 3)) (ht : (pc : Int) + off = (tgt : Int)) (ha : a < 2147483648) (hb : b < 2147483648) (kt : ¬ a = b → ab_St μ g uc us tgt L S N w Q) (kf : a = b → ab_St μ g uc us (pc + 3) L S N w Q) : ab_St μ g uc us pc L (.int (nI b) :: .int (nI a) :: S) N w Q := r_icmp_ne d ht (fun h => kt (fun e => h ((nI_eq ha hb).mpr e))) (fun h => kf ((nI_eq ha hb).mp h))
theorem r_icmp_ltN {a b : Nat} {off : Int} {tgt : Nat} (d : decode (mC μ) pc = .ok (.if_icmp .lt off, 3)) (ht : (pc : Int) + off = (tgt : Int)) (ha : a < 2147483648) (hb : b < 2147483648) (kt : a < b → ab_St μ g uc us tgt L S N w Q) (kf : b ≤ a → ab_St μ g uc us (pc + 3) L S N w Q) : ab_St μ g uc us pc L (.int (nI b) :: .int (nI a) :: S) N w Q := r_icmp_lt d ht (fun h => kt ((nI_ltI ha hb).mp h)) (fun h => kf (Nat.le_of_not_lt fun e => h ((nI_ltI ha hb).mpr e)))
theorem r_icmp_geN {a b : Nat} {off : Int} {tgt : Nat} (d : decode (mC μ) pc = .ok (.if_icmp .ge off, 3)) (ht : (pc : Int) + off = (tgt : Int)) (ha : a < 2147483648) (hb : b < 2147483648) (kt : b ≤ a → ab_St μ g uc us tgt L S N w Q) (kf : a < b → ab_St μ g uc us (pc + 3) L S N w Q) : ab_St μ g uc us pc L (.int (nI b) :: .int (nI a) :: S) N w Q := r_icmp_ge d ht (fun h => kt ((nI_leI hb ha).mp h)) (fun h => kf (Nat.lt_of_not_le fun e => h ((nI_leI hb ha).mpr e)))
theorem r_icmp_gtN {a b : Nat} {off : Int} {tgt : Nat} (d : decode (mC μ) pc = .ok (.if_icmp .gt off, 3)) (ht : (pc : Int) + off = (tgt : Int)) (ha : a < 2147483648) (hb : b < 2147483648) (kt : b < a → ab_St μ g uc us tgt L S N w Q) (kf : a ≤ b → ab_St μ g uc us (pc + 3) L S N w Q) : ab_St μ g uc us pc L (.int (nI b) :: .int (nI a) :: S) N w Q := r_icmp_gt d ht (fun h => kt ((nI_ltI hb ha).mp h)) (fun h => kf (Nat.le_of_not_lt fun e => h ((nI_ltI hb ha).mpr e)))
theorem r_icmp_leN {a b : Nat} {off : Int} {tgt : Nat} (d : decode (mC μ) pc = .ok (.if_icmp .le off, 3)) (ht : (pc : Int) + off = (tgt : Int)) (ha : a < 2147483648) (hb : b < 2147483648) (kt : a ≤ b → ab_St μ g uc us tgt L S N w Q) (kf : b < a → ab_St μ g uc us (pc + 3) L S N w Q) : ab_St μ g uc us pc L (.int (nI b) :: .int (nI a) :: S) N w Q := r_icmp_le d ht (fun h => kt ((nI_leI ha hb).mp h)) (fun h => kf (Nat.lt_of_not_le fun e => h ((nI_leI ha hb).mpr e)))
theorem nI_z {a : Nat} (ha : a < 2147483648) : nI a = 0 ↔ a = 0 := nI_eq ha (by decide : (0:Nat) < 2147483648)
theorem r_if_eqN {a : Nat} {off : Int} {tgt : Nat} (d : decode (mC μ) pc = .ok (.ifCond .eq off, 3)) (ht : (pc : Int) + off = (tgt : Int)) (ha : a < 2147483648) (kt : a = 0 → ab_St μ g uc us tgt L S N w Q) (kf : ¬ a = 0 → ab_St μ g uc us (pc + 3) L S N w Q) : ab_St μ g uc us pc L (.int (nI a) :: S) N w Q := r_if_eq d ht (fun h => kt ((nI_z ha).mp h)) (fun h => kf (fun e => h ((nI_z ha).mpr e)))
theorem r_if_neN {a : Nat} {off : Int} {tgt : Nat} (d : decode (mC μ) pc = .ok (.ifCond .ne off, 3)) (ht : (pc : Int) + off = (tgt : Int)) (ha : a < 2147483648) (kt : ¬ a = 0 → ab_St μ g uc us tgt L S N w Q) (kf : a = 0 → ab_St μ g uc us (pc + 3) L S N w Q) : ab_St μ g uc us pc L (.int (nI a) :: S) N w Q := r_if_ne d ht (fun h => kt (fun e => h ((nI_z ha).mpr e))) (fun h => kf ((nI_z ha).mp h))
theorem r_if_ltN {a : Nat} {off : Int} {tgt : Nat} (d : decode (mC μ) pc = .ok (.ifCond .lt off, 3)) (ht : (pc : Int) + off = (tgt : Int)) (ha : a < 2147483648) (kf : True → ab_St μ g uc us (pc + 3) L S N w Q) : ab_St μ g uc us pc L (.int (nI a) :: S) N w Q := r_if_lt d ht (fun h => absurd h (nI_pos ha)) (fun _ => kf trivial)
theorem r_if_geN {a : Nat} {off : Int} {tgt : Nat} (d : decode (mC μ) pc = .ok (.ifCond .ge off, 3)) (ht : (pc : Int) + off = (tgt : Int)) (ha : a < 2147483648) (kt : True → ab_St μ g uc us tgt L S N w Q) : ab_St μ g uc us pc L (.int (nI a) :: S) N w Q := r_if_ge d ht (fun _ => kt trivial) (fun h => absurd (nI_pos' ha) h)
theorem r_if_gtN {a : Nat} {off : Int} {tgt : Nat} (d : decode (mC μ) pc = .ok (.ifCond .gt off, 3)) (ht : (pc : Int) + off = (tgt : Int)) (ha : a < 2147483648) (kt : 0 < a → ab_St μ g uc us tgt L S N w Q) (kf : a = 0 → ab_St μ g uc us (pc + 3) L S N w Q) : ab_St μ g uc us pc L (.int (nI a) :: S) N w Q := r_if_gt d ht (fun h => kt (Nat.pos_of_ne_zero fun e => by subst e; exact absurd h (by decide))) (fun h => kf (Nat.eq_zero_of_not_pos fun e => h ((nI_ltI (a := 0) (by decide) ha).mpr e)))
theorem r_if_leN {a : Nat} {off : Int} {tgt : Nat} (d : decode (mC μ) pc = .ok (.ifCond .le off, 3)) (ht : (pc : Int) + off = (tgt : Int)) (ha : a < 2147483648) (kt : a = 0 → ab_St μ g uc us tgt L S N w Q) (kf : 0 < a → ab_St μ g uc us (pc + 3) L S N w Q) : ab_St μ g uc us pc L (.int (nI a) :: S) N w Q := r_if_le d ht (fun h => kt (Nat.eq_zero_of_not_pos fun e => nI_nle e ha h)) (fun h => kf (Nat.pos_of_ne_zero fun e => by subst e; exact absurd (by decide) h))
theorem r_lcmp_eq {x y : Int64} {off : Int} {tgt : Nat} (d1 : decode (mC μ) pc = .ok (.lcmp, 1)) (d : decode (mC μ) (pc + 1) = .ok (.ifCond .eq off, 3)) (ht : ((pc + 1 : Nat) : Int) + off = (tgt : Int)) (kt : x = y → ab_St μ g uc us tgt L S N w Q) (kf : ¬ x = y → ab_St μ g uc us (pc + 1 + 3) L S N w Q) : ab_St μ g uc us pc L (.long y :: .long x :: S) N w Q := r_lcmp d1 (r_if_eq d ht (fun h => kt ((lg_eq0 x y).mp h)) (fun h => kf (fun e => h ((lg_eq0 x y).mpr e))))
theorem r_lcmp_ne {x y : Int64} {off : Int} {tgt : Nat} (d1 : decode (mC μ) pc = .ok (.lcmp, 1)) (d : decode (mC μ) (pc + 1) = .ok (.ifCond .ne off, 3)) (ht : ((pc + 1 : Nat) : Int) + off = (tgt : Int)) (kt : ¬ x = y → ab_St μ g uc us tgt L S N w Q) (kf : x = y → ab_St μ g uc us (pc + 1 + 3) L S N w Q) : ab_St μ g uc us pc L (.long y :: .long x :: S) N w Q := r_lcmp d1 (r_if_ne d ht (fun h => kt (fun e => h ((lg_eq0 x y).mpr e))) (fun h => kf ((lg_eq0 x y).mp h)))
theorem r_lcmp_lt {x y : Int64} {off : Int} {tgt : Nat} (d1 : decode (mC μ) pc = .ok (.lcmp, 1)) (d : decode (mC μ) (pc + 1) = .ok (.ifCond .lt off, 3)) (ht : ((pc + 1 : Nat) : Int) + off = (tgt : Int)) (kt : x < y → ab_St μ g uc us tgt L S N w Q) (kf : ¬ x < y → ab_St μ g uc us (pc + 1 + 3) L S N w Q) : ab_St μ g uc us pc L (.long y :: .long x :: S) N w Q := r_lcmp d1 (r_if_lt d ht (fun h => kt ((lg_lt0 x y).mp h)) (fun h => kf (fun e => h ((lg_lt0 x y).mpr e))))
theorem r_lcmp_ge {x y : Int64} {off : Int} {tgt : Nat} (d1 : decode (mC μ) pc = .ok (.lcmp, 1)) (d : decode (mC μ) (pc + 1) = .ok (.ifCond .ge off, 3)) (ht : ((pc + 1 : Nat) : Int) + off = (tgt : Int)) (kt : ¬ x < y → ab_St μ g uc us tgt L S N w Q) (kf : x < y → ab_St μ g uc us (pc + 1 + 3) L S N w Q) : ab_St μ g uc us pc L (.long y :: .long x :: S) N w Q := r_lcmp d1 (r_if_ge d ht (fun h => kt (fun e => (Int32.not_lt.mpr h) ((lg_lt0 x y).mpr e))) (fun h => kf ((lg_lt0 x y).mp (Int32.not_le.mp h))))
theorem r_lcmp_gt {x y : Int64} {off : Int} {tgt : Nat} (d1 : decode (mC μ) pc = .ok (.lcmp, 1)) (d : decode (mC μ) (pc + 1) = .ok (.ifCond .gt off, 3)) (ht : ((pc + 1 : Nat) : Int) + off = (tgt : Int)) (kt : y < x → ab_St μ g uc us tgt L S N w Q) (kf : ¬ y < x → ab_St μ g uc us (pc + 1 + 3) L S N w Q) : ab_St μ g uc us pc L (.long y :: .long x :: S) N w Q := r_lcmp d1 (r_if_gt d ht (fun h => kt ((lg_gt0 x y).mp h)) (fun h => kf (fun e => h ((lg_gt0 x y).mpr e))))
theorem r_lcmp_le {x y : Int64} {off : Int} {tgt : Nat} (d1 : decode (mC μ) pc = .ok (.lcmp, 1)) (d : decode (mC μ) (pc + 1) = .ok (.ifCond .le off, 3)) (ht : ((pc + 1 : Nat) : Int) + off = (tgt : Int)) (kt : ¬ y < x → ab_St μ g uc us tgt L S N w Q) (kf : y < x → ab_St μ g uc us (pc + 1 + 3) L S N w Q) : ab_St μ g uc us pc L (.long y :: .long x :: S) N w Q := r_lcmp d1 (r_if_le d ht (fun h => kt (fun e => (Int32.not_lt.mpr h) ((lg_gt0 x y).mpr e))) (fun h => kf ((lg_gt0 x y).mp (Int32.not_le.mp h))))
theorem r_lcmp_eqN {a b : Nat} {off : Int} {tgt : Nat} (d1 : decode (mC μ) pc = .ok (.lcmp, 1)) (d : decode (mC μ) (pc + 1) = .ok (.ifCond .eq off, 3)) (ht : ((pc + 1 : Nat) : Int) + off = (tgt : Int)) (ha : a < 9223372036854775808) (hb : b < 9223372036854775808) (kt : a = b → ab_St μ g uc us tgt L S N w Q) (kf : ¬ a = b → ab_St μ g uc us (pc + 1 + 3) L S N w Q) : ab_St μ g uc us pc L (.long (lN b) :: .long (lN a) :: S) N w Q := r_lcmp_eq d1 d ht (fun h => kt ((pk_lEQ ha hb).mp h)) (fun h => kf (fun e => h ((pk_lEQ ha hb).mpr e)))
theorem r_lcmp_neN {a b : Nat} {off : Int} {tgt : Nat} (d1 : decode (mC μ) pc = .ok (.lcmp, 1)) (d : decode (mC μ) (pc + 1) = .ok (.ifCond .ne off, 3)) (ht : ((pc + 1 : Nat) : Int) + off = (tgt : Int)) (ha : a < 9223372036854775808) (hb : b < 9223372036854775808) (kt : ¬ a = b → ab_St μ g uc us tgt L S N w Q) (kf : a = b → ab_St μ g uc us (pc + 1 + 3) L S N w Q) : ab_St μ g uc us pc L (.long (lN b) :: .long (lN a) :: S) N w Q := r_lcmp_ne d1 d ht (fun h => kt (fun e => h ((pk_lEQ ha hb).mpr e))) (fun h => kf ((pk_lEQ ha hb).mp h))
theorem r_lcmp_ltN {a b : Nat} {off : Int} {tgt : Nat} (d1 : decode (mC μ) pc = .ok (.lcmp, 1)) (d : decode (mC μ) (pc + 1) = .ok (.ifCond .lt off, 3)) (ht : ((pc + 1 : Nat) : Int) + off = (tgt : Int)) (ha : a < 9223372036854775808) (hb : b < 9223372036854775808) (kt : a < b → ab_St μ g uc us tgt L S N w Q) (kf : b ≤ a → ab_St μ g uc us (pc + 1 + 3) L S N w Q) : ab_St μ g uc us pc L (.long (lN b) :: .long (lN a) :: S) N w Q := r_lcmp_lt d1 d ht (fun h => kt ((pk_lLT ha hb).mp h)) (fun h => kf (Nat.le_of_not_lt fun e => h ((pk_lLT ha hb).mpr e)))
theorem r_lcmp_geN {a b : Nat} {off : Int} {tgt : Nat} (d1 : decode (mC μ) pc = .ok (.lcmp, 1)) (d : decode (mC μ) (pc + 1) = .ok (.ifCond .ge off, 3)) (ht : ((pc + 1 : Nat) : Int) + off = (tgt : Int)) (ha : a < 9223372036854775808) (hb : b < 9223372036854775808) (kt : b ≤ a → ab_St μ g uc us tgt L S N w Q) (kf : a < b → ab_St μ g uc us (pc + 1 + 3) L S N w Q) : ab_St μ g uc us pc L (.long (lN b) :: .long (lN a) :: S) N w Q := r_lcmp_ge d1 d ht (fun h => kt (Nat.le_of_not_lt fun e => h ((pk_lLT ha hb).mpr e))) (fun h => kf ((pk_lLT ha hb).mp h))
theorem r_lcmp_gtN {a b : Nat} {off : Int} {tgt : Nat} (d1 : decode (mC μ) pc = .ok (.lcmp, 1)) (d : decode (mC μ) (pc + 1) = .ok (.ifCond .gt off, 3)) (ht : ((pc + 1 : Nat) : Int) + off = (tgt : Int)) (ha : a < 9223372036854775808) (hb : b < 9223372036854775808) (kt : b < a → ab_St μ g uc us tgt L S N w Q) (kf : a ≤ b → ab_St μ g uc us (pc + 1 + 3) L S N w Q) : ab_St μ g uc us pc L (.long (lN b) :: .long (lN a) :: S) N w Q := r_lcmp_gt d1 d ht (fun h => kt ((pk_lLT hb ha).mp h)) (fun h => kf (Nat.le_of_not_lt fun e => h ((pk_lLT hb ha).mpr e)))
theorem r_lcmp_leN {a b : Nat} {off : Int} {tgt : Nat} (d1 : decode (mC μ) pc = .ok (.lcmp, 1)) (d : decode (mC μ) (pc + 1) = .ok (.ifCond .le off, 3)) (ht : ((pc + 1 : Nat) : Int) + off = (tgt : Int)) (ha : a < 9223372036854775808) (hb : b < 9223372036854775808) (kt : a ≤ b → ab_St μ g uc us tgt L S N w Q) (kf : b < a → ab_St μ g uc us (pc + 1 + 3) L S N w Q) : ab_St μ g uc us pc L (.long (lN b) :: .long (lN a) :: S) N w Q := r_lcmp_le d1 d ht (fun h => kt (Nat.le_of_not_lt fun e => h ((pk_lLT hb ha).mpr e))) (fun h => kf ((pk_lLT hb ha).mp h))
end RULESN
