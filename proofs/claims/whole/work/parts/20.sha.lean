/-! SHA-256 as both programs have it -/
def sH : Nat → Int32 := fun k => nI ([1779033703, 3144134277, 1013904242, 2773480762, 1359893119, 2600822924, 528734635, 1541459225].getD k 0)
def sK : Nat → Int32 := fun k => nI ([1116352408, 1899447441, 3049323471, 3921009573, 961987163, 1508970993, 2453635748, 2870763221, 3624381080, 310598401, 607225278, 1426881987, 1925078388, 2162078206, 2614888103, 3248222580, 3835390401, 4022224774, 264347078, 604807628, 770255983, 1249150122, 1555081692, 1996064986, 2554220882, 2821834349, 2952996808, 3210313671, 3336571891, 3584528711, 113926993, 338241895, 666307205, 773529912, 1294757372, 1396182291, 1695183700, 1986661051, 2177026350, 2456956037, 2730485921, 2820302411, 3259730800, 3345764771, 3516065817, 3600352804, 4094571909, 275423344, 430227734, 506948616, 659060556, 883997877, 958139571, 1322822218, 1537002063, 1747873779, 1955562222, 2024104815, 2227730452, 2361852424, 2428436474, 2756734187, 3204031479, 3329325298].getD k 0)
def s0 (x : Int32) : Int32 := (rotr x (nI 7) ^^^ rotr x (nI 18)) ^^^ (x.toUInt32 >>> ((nI 3).toUInt32 &&& Int32.toUInt32 31)).toInt32
def s1 (x : Int32) : Int32 := (rotr x (nI 17) ^^^ rotr x (nI 19)) ^^^ (x.toUInt32 >>> ((nI 10).toUInt32 &&& Int32.toUInt32 31)).toInt32
/-- the schedule, behind so many steps -/
def sWt (f : Nat → Int32) : Nat → Nat → Int32
  | 0 => f
  | i + 1 => va_up (sWt f i) (i + 16) (sWt f i i + s0 (sWt f i (i + 1)) + sWt f i (i + 9) + s1 (sWt f i (i + 14)))
theorem sWt_cong {f f' : Nat → Int32} (h : ∀ t, t < 16 → f t = f' t) : ∀ i t, t < 16 + i → sWt f i t = sWt f' i t
  | 0, t, ht => h t ht
  | i + 1, t, ht => by
    have ih := sWt_cong h i
    show va_up _ _ _ t = va_up _ _ _ t
    unfold va_up
    split
    · rw [ih i (by omega), ih (i + 1) (by omega), ih (i + 9) (by omega), ih (i + 14) (by omega)]
    · exact ih t (by omega)
/-- a round -/
def sF (k w : Int32) (v : Nat → Int32) : Int32 := v 7 + ((rotr (v 4) (nI 6) ^^^ rotr (v 4) (nI 11)) ^^^ rotr (v 4) (nI 25)) + ((v 4 &&& v 5) ^^^ ((v 4 ^^^ (-1)) &&& v 6)) + k + w
def sG (v : Nat → Int32) : Int32 := (rotr (v 0) (nI 2) ^^^ rotr (v 0) (nI 13)) ^^^ rotr (v 0) (nI 22)
def sM (v : Nat → Int32) : Int32 := ((v 0 &&& v 1) ^^^ (v 0 &&& v 2)) ^^^ (v 1 &&& v 2)
def sD (k w : Int32) (v : Nat → Int32) : Nat → Int32 := fun j => match j with
  | 0 => sF k w v + sG v + sM v
  | 1 => v 0
  | 2 => v 1
  | 3 => v 2
  | 4 => v 3 + sF k w v
  | 5 => v 4
  | 6 => v 5
  | 7 => v 6
  | _ => 0
def sR (w st : Nat → Int32) : Nat → Nat → Int32
  | 0 => st
  | t + 1 => sD (sK t) (w t) (sR w st t)
theorem sR_cong {w w' st : Nat → Int32} : ∀ t, (∀ k, k < t → w k = w' k) → sR w st t = sR w' st t
  | 0, _ => rfl
  | t + 1, h => by
    show sD _ (w t) (sR w st t) = sD _ (w' t) (sR w' st t)
    rw [sR_cong t fun k hk => h k (by omega), h t (by omega)]
/-- a block: 8 words -/
def sC (w st : Nat → Int32) : Nat → Int32 := fun k => if k < 8 then st k + sR w st 64 k else st k
theorem sC_cong {w w' st : Nat → Int32} (h : ∀ k, k < 64 → w k = w' k) : sC w st = sC w' st := by
  unfold sC
  rw [sR_cong 64 h]
/-- a byte of what is hashed: d's first n bytes, 128, zeros, the length in bits -/
def pbt (d : Nat → Nat) (n T i : Nat) : Nat := if i < n then d i else if i = n then 128 else if i < T - 4 then 0 else 8 * n / 256 ^ (T - 1 - i) % 256
/-- the first j of the four bytes at p -/
def pw (d : Nat → Nat) (n T p : Nat) : Nat → Nat
  | 0 => 0
  | j + 1 => pw d n T p j * 256 + pbt d n T (p + j)
theorem pbt_lt {d : Nat → Nat} (hd : ∀ i, d i < 256) (n T i : Nat) : pbt d n T i < 256 := by
  unfold pbt
  split
  · exact hd i
  · split
    · decide
    · split
      · decide
      · exact Nat.mod_lt _ (by decide)
theorem pw_lt {d : Nat → Nat} (hd : ∀ i, d i < 256) (n T p : Nat) : ∀ j, pw d n T p j < 256 ^ j
  | 0 => by
    show 0 < 256 ^ 0
    decide
  | j + 1 => by
    have h1 := pw_lt hd n T p j
    have h2 := pbt_lt hd n T (p + j)
    show pw d n T p j * 256 + pbt d n T (p + j) < 256 ^ (j + 1)
    rw [Nat.pow_succ]
    omega
theorem pw_len_aux {m : Nat} (h : m < 4294967296) : ((((0 * 256 + m / 16777216 % 256) * 256 + m / 65536 % 256) * 256 + m / 256 % 256) * 256 + m / 1 % 256) = m := by omega
theorem pw_len {d : Nat → Nat} {n T : Nat} (hn : n + 9 ≤ T) (h8 : 8 * n < 4294967296) : pw d n T (T - 4) 4 = 8 * n := by
  have e : ∀ j, j < 4 → pbt d n T (T - 4 + j) = 8 * n / 256 ^ (3 - j) % 256 := fun j hj => by
    unfold pbt
    rw [if_neg (by omega), if_neg (by omega), if_neg (by omega), show T - 1 - (T - 4 + j) = 3 - j by omega]
  show ((((0 * 256 + pbt d n T (T - 4 + 0)) * 256 + pbt d n T (T - 4 + 1)) * 256 + pbt d n T (T - 4 + 2)) * 256 + pbt d n T (T - 4 + 3)) = 8 * n
  rw [e 0 (by decide), e 1 (by decide), e 2 (by decide), e 3 (by decide)]
  exact pw_len_aux h8
def sB (d : Nat → Nat) (n T j : Nat) : Nat → Int32 := fun t => nI (pw d n T (64 * j + 4 * t) 4)
def sS (d : Nat → Nat) (n T : Nat) : Nat → Nat → Int32
  | 0 => fun k => if k < 8 then sH k else 0
  | j + 1 => sC (sWt (sB d n T j) 48) (sS d n T j)
/-- the hash of d's first n bytes: eight words -/
def sha (d : Nat → Nat) (n : Nat) : Nat → Int32 := sS d n (64 * ((n + 72) / 64)) ((n + 72) / 64)
theorem pbt_cong {d d' : Nat → Nat} {n T i : Nat} (h : ∀ i, i < n → d i = d' i) : pbt d n T i = pbt d' n T i := by
  unfold pbt
  split
  · exact h i (by assumption)
  · rfl
theorem pw_cong {d d' : Nat → Nat} {n T p : Nat} (h : ∀ i, i < n → d i = d' i) : ∀ j, pw d n T p j = pw d' n T p j
  | 0 => rfl
  | j + 1 => by
    show pw d n T p j * 256 + _ = pw d' n T p j * 256 + _
    rw [pw_cong h j, pbt_cong h]
theorem sS_cong {d d' : Nat → Nat} {n T : Nat} (h : ∀ i, i < n → d i = d' i) : ∀ j, sS d n T j = sS d' n T j
  | 0 => rfl
  | j + 1 => by
    show sC (sWt (sB d n T j) 48) (sS d n T j) = _
    rw [sS_cong h j, show sB d n T j = sB d' n T j from funext fun t => by unfold sB; rw [pw_cong h]]
    rfl
theorem sha_cong {d d' : Nat → Nat} {n : Nat} (h : ∀ i, i < n → d i = d' i) : sha d n = sha d' n := sS_cong h _
/-- bytes in a row of bytes -/
def byt (d : Nat → Nat) : Nat → Int32 := fun i => (nI (d i)).toInt8.toInt32
theorem nI_or_sum {a b q : Nat} (ha : a < 2 ^ q) : nI (b * 2 ^ q) ||| nI a = nI (b * 2 ^ q + a) := by
  have e : nI (b * 2 ^ q) ||| nI a = nI (b * 2 ^ q ||| a) := by
    apply Int32.toBitVec_inj.mp
    show BitVec.ofNat 32 (b * 2 ^ q) ||| BitVec.ofNat 32 a = BitVec.ofNat 32 (b * 2 ^ q ||| a)
    rw [BitVec.ofNat_or]
  rw [e, Nat.mul_comm, Nat.two_pow_add_eq_or_of_lt ha]
/-- a word as a number; a byte of the hash -/
def u32 (x : Int32) : Nat := x.toBitVec.toNat
theorem u32_lt (x : Int32) : u32 x < 4294967296 := x.toBitVec.isLt
theorem u32_nI (x : Int32) : x = nI (u32 x) := Int32.toBitVec_inj.mp (by show _ = BitVec.ofNat 32 x.toBitVec.toNat; simp)
def hby (st : Nat → Int32) (i : Nat) : Nat := u32 (st (i / 4)) / 2 ^ (24 - 8 * (i % 4)) % 256
theorem hby_lt (st : Nat → Int32) (i : Nat) : hby st i < 256 := Nat.mod_lt _ (by decide)
