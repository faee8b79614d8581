/-! SignHouse: digest -/
def mx (v size : Nat) : Nat → Nat → Nat
  | 0, H => H
  | i + 1, H => 31 * mx v size i H + dg 256 v (size - 1 - i)
def mxk (p q half : Nat) : Nat → Nat → Nat
  | 0, H => H
  | k + 1, H => mx (kvp p q k) (kw half k) (kw half k) (mxk p q half k H)
def dct (f : Nat → Nat) : Nat → Int64 → Int64
  | 0, H => H
  | j + 1, H => lN 31 * dct f j H + (nI (f (2 + j))).toInt64
set_option maxRecDepth 100000 in
set_option maxHeartbeats 4000000 in
theorem c_digestKey {g : ab_G} {N H : Nat} {half rounds c bg : Nat} {ω : Nat → Nat} {σ : hT} {d : Nat → Nat} {len R sg vf : Nat} {w : ab_W} (h : HW w half rounds c ω bg σ d len R sg vf) (hp : hF σ = 2) : ab_Ct MX7_digestKey g [.ref 7, .long (lN H)] N w (rp (some (.long (lN (mxk (kP σ) (kQ σ) half 7 H)))) N w) := by
  obtain ⟨o1, o2, o3, o4, ⟨n, dd, p, q, dP, dQ, qI, o5⟩, o6, ⟨o7, o8, o9⟩, o10, o11, ⟨o12, o13⟩, ⟨e, o14, o15⟩, ⟨e2, o16, o17⟩, o18⟩ := id h
  have hh := h.half
  have hK := (o10 hp).1
  have K2 : ∀ k, k < 7 → (∀ (h3 : ab_St MX7_digestKey g 0 0 5 [(5, .int (nI (k + 1))), (3, .long (lN (mxk (kP σ) (kQ σ) half (k + 1) H))), (0, .ref 7)] [] N w (rp (some (.long (lN (mxk (kP σ) (kQ σ) half 7 H)))) N w)), ∀ z i, i + z = kw half k → ab_St MX7_digestKey g 0 0 15 [(6, .int (nI i)), (5, .int (nI k)), (3, .long (lN (mx (kvp (kP σ) (kQ σ) k) (kw half k) i (mxk (kP σ) (kQ σ) half k H)))), (0, .ref 7)] [] N w (rp (some (.long (lN (mxk (kP σ) (kQ σ) half 7 H)))) N w)) := by
    intro k hk hnext z
    have hkw : kw half k ≤ 80 := by unfold kw; split <;> omega
    induction z with
    | zero =>
      intro i hi
      obtain rfl : i = kw half k := by omega
      refine r_iload dX7_digestKey_15 rfl ?_
      refine r_aload_n dX7_digestKey_17 rfl ?_
      refine r_iload dX7_digestKey_18 rfl ?_
      refine r_invV dX7_digestKey_20 kX7_112 (c_bytesOfKeyPart o1 hk) rfl rfl (by repeat first | exact wu_eq | assumption | exact HS.o (by assumption) | exact MSG.o (by assumption) | exact DRW.o (by assumption) | (apply wu_ne; first | omega | assumption | (apply Ne.symm; assumption))) rfl rfl ⟨by decide, by decide⟩ (Nat.le_of_ble_eq_true rfl) ⟨by decide, by decide⟩ ⟨rfl, rfl⟩ ?_
      rintro _ _ _ ⟨rfl, rfl, rfl⟩
      rw [show (if k < 2 then 2 * half else half) = kw half k from rfl]
      first | refine r_icmp_geN (tgt := 48) dX7_digestKey_23 (by decide) (by omega) (by omega) (fun h23 => ?_) (fun h23 => ?_) | refine r_icmp_ge (tgt := 48) dX7_digestKey_23 (by decide) (fun h23 => ?_) (fun h23 => ?_)
      · refine r_iinc (L0 := [(6, _), (3, _), (0, _)]) dX7_digestKey_48 rfl (by first | exact iinc1 _ | rfl) (by decide) rfl ?_
        refine r_goto (tgt := 5) dX7_digestKey_51 (by decide) ?_
        refine r_sub [0, 2, 3] rfl ?_
        exact hnext
      · omega
    | succ z ih =>
      intro i hi
      refine r_iload dX7_digestKey_15 rfl ?_
      refine r_aload_n dX7_digestKey_17 rfl ?_
      refine r_iload dX7_digestKey_18 rfl ?_
      refine r_invV dX7_digestKey_20 kX7_112 (c_bytesOfKeyPart o1 hk) rfl rfl (by repeat first | exact wu_eq | assumption | exact HS.o (by assumption) | exact MSG.o (by assumption) | exact DRW.o (by assumption) | (apply wu_ne; first | omega | assumption | (apply Ne.symm; assumption))) rfl rfl ⟨by decide, by decide⟩ (Nat.le_of_ble_eq_true rfl) ⟨by decide, by decide⟩ ⟨rfl, rfl⟩ ?_
      rintro _ _ _ ⟨rfl, rfl, rfl⟩
      rw [show (if k < 2 then 2 * half else half) = kw half k from rfl]
      first | refine r_icmp_geN (tgt := 48) dX7_digestKey_23 (by decide) (by omega) (by omega) (fun h23 => ?_) (fun h23 => ?_) | refine r_icmp_ge (tgt := 48) dX7_digestKey_23 (by decide) (fun h23 => ?_) (fun h23 => ?_)
      · omega
      · refine r_ldc2 dX7_digestKey_26 qX7_177 ?_
        refine r_toJ (y := lN 31) rfl ?_
        refine r_lload_n dX7_digestKey_29 rfl ?_
        first | refine r_lmulN dX7_digestKey_30 ?_ | refine r_lmul dX7_digestKey_30 ?_
        refine r_aload_n dX7_digestKey_31 rfl ?_
        refine r_iload dX7_digestKey_32 rfl ?_
        refine r_iload dX7_digestKey_34 rfl ?_
        refine r_invV dX7_digestKey_36 kX7_116 (c_byteOfKeyPart (half := half) (i := i) o1 o4 hK hk (by omega) hh.2.1 (by omega)) rfl rfl (by repeat first | exact wu_eq | assumption | exact HS.o (by assumption) | exact MSG.o (by assumption) | exact DRW.o (by assumption) | (apply wu_ne; first | omega | assumption | (apply Ne.symm; assumption))) rfl rfl ⟨by decide, by decide⟩ (Nat.le_of_ble_eq_true rfl) ⟨by decide, by decide⟩ ⟨rfl, rfl⟩ ?_
        have hd := dg_lt' (b := 256) (by decide) (kvp (kP σ) (kQ σ) k) (kw half k - 1 - i)
        rintro _ _ _ ⟨rfl, rfl, rfl⟩
        refine r_toI (y := nI (dg 256 (kvp (kP σ) (kQ σ) k) (kw half k - 1 - i))) rfl ?_
        first | refine r_i2lN dX7_digestKey_39 (by omega) ?_ | refine r_i2l dX7_digestKey_39 ?_
        first | refine r_laddN dX7_digestKey_40 ?_ | refine r_ladd dX7_digestKey_40 ?_
        refine r_lstore_n (i := 3) (L0 := [(6, _), (5, _), (0, _)]) dX7_digestKey_41 rfl (by decide) rfl ?_
        refine r_iinc (L0 := [(3, _), (5, _), (0, _)]) dX7_digestKey_42 rfl (by first | exact iinc1 _ | rfl) (by decide) rfl ?_
        refine r_goto (tgt := 15) dX7_digestKey_45 (by decide) ?_
        refine r_sub [0, 2, 1, 3] rfl ?_
        exact ih (i + 1) (by omega)
  have K : ∀ z k, k + z = 7 → ab_St MX7_digestKey g 0 0 5 [(5, .int (nI k)), (3, .long (lN (mxk (kP σ) (kQ σ) half k H))), (0, .ref 7)] [] N w (rp (some (.long (lN (mxk (kP σ) (kQ σ) half 7 H)))) N w) := by
    intro z
    induction z with
    | zero =>
      intro k hk
      obtain rfl : k = 7 := by omega
      refine r_iload dX7_digestKey_5 rfl ?_
      refine r_bipush (v := nI 7) dX7_digestKey_7 (by decide) ?_
      first | refine r_icmp_geN (tgt := 54) dX7_digestKey_9 (by decide) (by omega) (by omega) (fun h9 => ?_) (fun h9 => ?_) | refine r_icmp_ge (tgt := 54) dX7_digestKey_9 (by decide) (fun h9 => ?_) (fun h9 => ?_)
      · refine r_lload_n dX7_digestKey_54 rfl ?_
        refine r_ret (r := (some (.long _))) dX7_digestKey_55 (by decide) (by decide) ?_
        exact ⟨rfl, rfl, rfl⟩
      · omega
    | succ z ih =>
      intro k hk
      refine r_iload dX7_digestKey_5 rfl ?_
      refine r_bipush (v := nI 7) dX7_digestKey_7 (by decide) ?_
      first | refine r_icmp_geN (tgt := 54) dX7_digestKey_9 (by decide) (by omega) (by omega) (fun h9 => ?_) (fun h9 => ?_) | refine r_icmp_ge (tgt := 54) dX7_digestKey_9 (by decide) (fun h9 => ?_) (fun h9 => ?_)
      · omega
      · refine r_iconst (v := nI 0) dX7_digestKey_12 (by decide) ?_
        refine r_istore (i := 6) (L0 := [(5, _), (3, _), (0, _)]) dX7_digestKey_13 (by decide) rfl ?_
        exact K2 k (by omega) (ih (k + 1) (by omega)) (kw half k) 0 (by omega)
  refine ab_Ct.of (by decide +kernel) (Nat.le_of_ble_eq_true rfl) (by rintro _ _ _ ⟨rfl, rfl, rfl⟩; trivial) ?_
  show ab_St MX7_digestKey g 0 0 0 [(0, .ref 7), (1, .long (lN H))] [] _ _ _
  refine r_lload_n dX7_digestKey_0 rfl ?_
  refine r_lstore_n (i := 3) (L0 := [(0, _), (1, _)]) dX7_digestKey_1 rfl (by decide) rfl ?_
  refine r_iconst (v := nI 0) dX7_digestKey_2 (by decide) ?_
  refine r_istore (i := 5) (L0 := [(3, _), (0, _), (1, _)]) dX7_digestKey_3 (by decide) rfl ?_
  refine r_sub [0, 1, 2] rfl ?_
  exact K 7 0 (by omega)
def dgs (half rounds c : Nat) (σ : hT) (len R sg vf : Nat) : Int64 := dct (cnt half rounds c (hX σ) (hU σ) len sg vf) 6 (lN (if hF σ = 2 then mxk (kP σ) (kQ σ) half 7 (mx R (2 * half) (2 * half) 37) else mx R (2 * half) (2 * half) 37))
set_option maxRecDepth 100000 in
set_option maxHeartbeats 4000000 in
theorem c_digest {g : ab_G} {N : Nat} {half rounds c bg : Nat} {ω : Nat → Nat} {σ : hT} {d : Nat → Nat} {len R sg vf : Nat} {w : ab_W} (h : HW w half rounds c ω bg σ d len R sg vf) : ab_Ct MX7_digest g [.ref 7] N w (rp (some (.long (dgs half rounds c σ len R sg vf))) N w) := by
  obtain ⟨o1, o2, o3, o4, ⟨n, dd, p, q, dP, dQ, qI, o5⟩, o6, ⟨o7, o8, o9⟩, o10, o11, ⟨o12, o13⟩, ⟨e, o14, o15⟩, ⟨e2, o16, o17⟩, o18⟩ := id h
  have hh := h.half
  have hm := mk1_lt (hF σ)
  have hRW := Nat.lt_of_lt_of_le o13 (pow_2W (half := half))
  have K3 : ∀ X z j, j + z = 6 → ab_St MX7_digest g 0 0 61 [(3, .int (nI (2 + j))), (1, .long (dct (cnt half rounds c (hX σ) (hU σ) len sg vf) j X)), (0, .ref 7)] [] N w (rp (some (.long (dct (cnt half rounds c (hX σ) (hU σ) len sg vf) 6 X))) N w) := by
    intro X z
    induction z with
    | zero =>
      intro j hj
      obtain rfl : j = 6 := by omega
      refine r_iload_n dX7_digest_61 rfl ?_
      refine r_bipush (v := nI 8) dX7_digest_62 (by decide) ?_
      first | refine r_icmp_geN (tgt := 86) dX7_digest_64 (by decide) (by omega) (by omega) (fun h64 => ?_) (fun h64 => ?_) | refine r_icmp_ge (tgt := 86) dX7_digest_64 (by decide) (fun h64 => ?_) (fun h64 => ?_)
      · refine r_lload_n dX7_digest_86 rfl ?_
        refine r_ret (r := (some (.long _))) dX7_digest_87 (by decide) (by decide) ?_
        exact ⟨rfl, rfl, rfl⟩
      · omega
    | succ z ih =>
      intro j hj
      refine r_iload_n dX7_digest_61 rfl ?_
      refine r_bipush (v := nI 8) dX7_digest_62 (by decide) ?_
      first | refine r_icmp_geN (tgt := 86) dX7_digest_64 (by decide) (by omega) (by omega) (fun h64 => ?_) (fun h64 => ?_) | refine r_icmp_ge (tgt := 86) dX7_digest_64 (by decide) (fun h64 => ?_) (fun h64 => ?_)
      · omega
      · refine r_ldc2 dX7_digest_67 qX7_177 ?_
        refine r_toJ (y := lN 31) rfl ?_
        refine r_lload_n dX7_digest_70 rfl ?_
        refine r_lmul dX7_digest_71 ?_
        refine r_aload_n dX7_digest_72 rfl ?_
        refine r_iload_n dX7_digest_73 rfl ?_
        refine r_invV dX7_digest_74 kX7_183 (c_count (k := 2 + j) h (by omega)) rfl rfl (by repeat first | exact wu_eq | assumption | exact HS.o (by assumption) | exact MSG.o (by assumption) | exact DRW.o (by assumption) | (apply wu_ne; first | omega | assumption | (apply Ne.symm; assumption))) rfl rfl ⟨by decide, by decide⟩ (Nat.le_of_ble_eq_true rfl) ⟨by decide, by decide⟩ ⟨rfl, rfl⟩ ?_
        rintro _ _ _ ⟨rfl, rfl, rfl⟩
        refine r_toI (y := nI (cnt half rounds c (hX σ) (hU σ) len sg vf (2 + j))) rfl ?_
        refine r_i2l dX7_digest_77 ?_
        refine r_ladd dX7_digest_78 ?_
        refine r_lstore_n (i := 1) (L0 := [(3, _), (0, _)]) dX7_digest_79 rfl (by decide) rfl ?_
        refine r_iinc (L0 := [(1, _), (0, _)]) dX7_digest_80 rfl (by first | exact iinc1 _ | rfl) (by decide) rfl ?_
        refine r_goto (tgt := 61) dX7_digest_83 (by decide) ?_
        rw [show 2 + j + 1 = 2 + (j + 1) by omega]
        refine r_sub [0, 1, 2] rfl ?_
        exact ih (j + 1) (by omega)
  have K43 : ab_St MX7_digest g 0 0 43 [(1, .long (lN (mx R (2 * half) (2 * half) 37))), (0, .ref 7)] [] N w (rp (some (.long (dgs half rounds c σ len R sg vf))) N w) := by
    refine r_aload_n dX7_digest_43 rfl ?_
    refine r_getf dX7_digest_44 fX7_49 (by repeat first | exact wu_eq | assumption | exact HS.o (by assumption) | exact MSG.o (by assumption) | exact DRW.o (by assumption) | (apply wu_ne; first | omega | assumption | (apply Ne.symm; assumption))) (by rfl) ?_
    refine r_invV dX7_digest_47 kX7_84 (c_stand o4 (mk1_lt _)) rfl rfl (by repeat first | exact wu_eq | assumption | exact HS.o (by assumption) | exact MSG.o (by assumption) | exact DRW.o (by assumption) | (apply wu_ne; first | omega | assumption | (apply Ne.symm; assumption))) rfl rfl ⟨by decide, by decide⟩ (Nat.le_of_ble_eq_true rfl) ⟨by decide, by decide⟩ ⟨rfl, rfl⟩ ?_
    rintro _ _ _ ⟨rfl, rfl, rfl⟩
    first | refine r_if_eqN (tgt := 59) dX7_digest_50 (by decide) (by omega) (fun h50 => ?_) (fun h50 => ?_) | refine r_if_eq (tgt := 59) dX7_digest_50 (by decide) (fun h50 => ?_) (fun h50 => ?_)
    · refine r_iconst (v := nI 2) dX7_digest_59 (by decide) ?_
      refine r_istore_n (i := 3) (L0 := [(1, _), (0, _)]) dX7_digest_60 rfl (by decide) rfl ?_
      unfold dgs
      rw [if_neg (mk1_0 h50)]
      exact K3 _ 6 0 (by omega)
    · refine r_aload_n dX7_digest_53 rfl ?_
      refine r_lload_n dX7_digest_54 rfl ?_
      refine r_invV dX7_digest_55 kX7_179 (c_digestKey (H := mx R (2 * half) (2 * half) 37) h (mk1_1 h50)) rfl rfl (by repeat first | exact wu_eq | assumption | exact HS.o (by assumption) | exact MSG.o (by assumption) | exact DRW.o (by assumption) | (apply wu_ne; first | omega | assumption | (apply Ne.symm; assumption))) rfl rfl ⟨by decide, by decide⟩ (Nat.le_of_ble_eq_true rfl) ⟨by decide, by decide⟩ ⟨rfl, rfl⟩ ?_
      rintro _ _ _ ⟨rfl, rfl, rfl⟩
      refine r_lstore_n (i := 1) (L0 := [(0, _)]) dX7_digest_58 rfl (by decide) rfl ?_
      refine r_iconst (v := nI 2) dX7_digest_59 (by decide) ?_
      refine r_istore_n (i := 3) (L0 := [(1, _), (0, _)]) dX7_digest_60 rfl (by decide) rfl ?_
      unfold dgs
      rw [if_pos (mk1_1 h50)]
      exact K3 _ 6 0 (by omega)
  have K1 : ∀ z i, i + z = 2 * half → ab_St MX7_digest g 0 0 6 [(3, .int (nI i)), (1, .long (lN (mx R (2 * half) i 37))), (0, .ref 7)] [] N w (rp (some (.long (dgs half rounds c σ len R sg vf))) N w) := by
    intro z
    induction z with
    | zero =>
      intro i hi
      obtain rfl : i = 2 * half := by omega
      refine r_iload_n dX7_digest_6 rfl ?_
      refine r_aload_n dX7_digest_7 rfl ?_
      refine r_getf dX7_digest_8 fX7_22 (by repeat first | exact wu_eq | assumption | exact HS.o (by assumption) | exact MSG.o (by assumption) | exact DRW.o (by assumption) | (apply wu_ne; first | omega | assumption | (apply Ne.symm; assumption))) (by rfl) ?_
      first | refine r_icmp_geN (tgt := 43) dX7_digest_11 (by decide) (by omega) (by omega) (fun h11 => ?_) (fun h11 => ?_) | refine r_icmp_ge (tgt := 43) dX7_digest_11 (by decide) (fun h11 => ?_) (fun h11 => ?_)
      · refine r_sub [1, 2] rfl ?_
        exact K43
      · omega
    | succ z ih =>
      intro i hi
      refine r_iload_n dX7_digest_6 rfl ?_
      refine r_aload_n dX7_digest_7 rfl ?_
      refine r_getf dX7_digest_8 fX7_22 (by repeat first | exact wu_eq | assumption | exact HS.o (by assumption) | exact MSG.o (by assumption) | exact DRW.o (by assumption) | (apply wu_ne; first | omega | assumption | (apply Ne.symm; assumption))) (by rfl) ?_
      first | refine r_icmp_geN (tgt := 43) dX7_digest_11 (by decide) (by omega) (by omega) (fun h11 => ?_) (fun h11 => ?_) | refine r_icmp_ge (tgt := 43) dX7_digest_11 (by decide) (fun h11 => ?_) (fun h11 => ?_)
      · omega
      · refine r_ldc2 dX7_digest_14 qX7_177 ?_
        refine r_toJ (y := lN 31) rfl ?_
        refine r_lload_n dX7_digest_17 rfl ?_
        first | refine r_lmulN dX7_digest_18 ?_ | refine r_lmul dX7_digest_18 ?_
        refine r_aload_n dX7_digest_19 rfl ?_
        refine r_getf dX7_digest_20 fX7_60 (by repeat first | exact wu_eq | assumption | exact HS.o (by assumption) | exact MSG.o (by assumption) | exact DRW.o (by assumption) | (apply wu_ne; first | omega | assumption | (apply Ne.symm; assumption))) (by rfl) ?_
        refine r_aload_n dX7_digest_23 rfl ?_
        refine r_getf dX7_digest_24 fX7_22 (by repeat first | exact wu_eq | assumption | exact HS.o (by assumption) | exact MSG.o (by assumption) | exact DRW.o (by assumption) | (apply wu_ne; first | omega | assumption | (apply Ne.symm; assumption))) (by rfl) ?_
        refine r_iconst (v := nI 1) dX7_digest_27 (by decide) ?_
        first | refine r_isubN dX7_digest_28 (by omega) ?_ | refine r_isub dX7_digest_28 ?_
        refine r_iload_n dX7_digest_29 rfl ?_
        first | refine r_isubN dX7_digest_30 (by omega) ?_ | refine r_isub dX7_digest_30 ?_
        have hd := dg_lt' (b := 256) (by decide) R (2 * half - 1 - i)
        refine r_invS dX7_digest_31 kX7_167 (c_byteAt (n := 2 * ((half + 3) / 4)) (v := R) (q := 2 * half - 1 - i) o12 (by omega) hRW (by omega)) rfl rfl ⟨by decide, by decide⟩ (Nat.le_of_ble_eq_true rfl) ⟨by decide, by decide⟩ ⟨rfl, rfl⟩ ?_
        rintro _ _ _ ⟨rfl, rfl, rfl⟩
        first | refine r_i2lN dX7_digest_34 (by omega) ?_ | refine r_i2l dX7_digest_34 ?_
        first | refine r_laddN dX7_digest_35 ?_ | refine r_ladd dX7_digest_35 ?_
        refine r_lstore_n (i := 1) (L0 := [(3, _), (0, _)]) dX7_digest_36 rfl (by decide) rfl ?_
        refine r_iinc (L0 := [(1, _), (0, _)]) dX7_digest_37 rfl (by first | exact iinc1 _ | rfl) (by decide) rfl ?_
        refine r_goto (tgt := 6) dX7_digest_40 (by decide) ?_
        refine r_sub [0, 1, 2] rfl ?_
        exact ih (i + 1) (by omega)
  refine ab_Ct.of (by decide +kernel) (Nat.le_of_ble_eq_true rfl) (by rintro _ _ _ ⟨rfl, rfl, rfl⟩; trivial) ?_
  show ab_St MX7_digest g 0 0 0 [(0, .ref 7)] [] _ _ _
  refine r_ldc2 dX7_digest_0 qX7_175 ?_
  refine r_toJ (y := lN 37) rfl ?_
  refine r_lstore_n (i := 1) (L0 := [(0, _)]) dX7_digest_3 rfl (by decide) rfl ?_
  refine r_iconst (v := nI 0) dX7_digest_4 (by decide) ?_
  refine r_istore_n (i := 3) (L0 := [(1, _), (0, _)]) dX7_digest_5 rfl (by decide) rfl ?_
  exact K1 (2 * half) 0 (by omega)
