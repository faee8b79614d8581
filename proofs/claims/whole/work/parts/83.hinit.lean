/-! SignHouse: the maker -/
/-- a number kept between two -/
def clp (lo hi : Nat) (x : Int32) : Nat := if x < nI lo then lo else if nI hi < x then hi else u32 x
theorem clp_in {lo hi : Nat} (h1 : lo ≤ hi) (h2 : hi < 2147483648) (x : Int32) : lo ≤ clp lo hi x ∧ clp lo hi x ≤ hi ∧ (¬ x < nI lo → ¬ nI hi < x → x = nI (clp lo hi x)) := by
  unfold clp
  by_cases a : x < nI lo
  · rw [if_pos a]
    exact ⟨by omega, by omega, fun h => absurd a h⟩
  · rw [if_neg a]
    by_cases b : nI hi < x
    · rw [if_pos b]
      exact ⟨by omega, by omega, fun _ h => absurd b h⟩
    · rw [if_neg b]
      rcases i32_cases x with hx | ⟨n, hn, rfl⟩
      · exact absurd (neg_lt hx (by omega)) a
      · have e : u32 (nI n) = n := by
          show (BitVec.ofNat 32 n).toNat = n
          rw [BitVec.toNat_ofNat, Nat.mod_eq_of_lt (by omega)]
        rw [e]
        rw [nI_ltI (by omega) (by omega)] at a b
        exact ⟨by omega, by omega, fun _ _ => rfl⟩
theorem clp_mm {lo hi : Nat} (h1 : lo ≤ hi) (h2 : hi < 2147483648) (x : Int32) : (if nI lo < (if x < nI hi then x else nI hi) then (if x < nI hi then x else nI hi) else nI lo) = nI (clp lo hi x) := by
  obtain ⟨a1, a2, a3⟩ := clp_in h1 h2 x
  rcases i32_cases x with hx | ⟨n, hn, rfl⟩
  · have b1 : x < nI lo := neg_lt hx (by omega)
    rw [if_pos (neg_lt hx (by omega)), if_neg (fun q => Int32.lt_irrefl (Int32.lt_trans q b1))]
    unfold clp
    rw [if_pos b1]
  · unfold clp
    have q1 := nI_ltI (a := n) (b := lo) hn (by omega)
    have q2 := nI_ltI (a := n) (b := hi) hn (by omega)
    have q3 := nI_ltI (a := hi) (b := n) (by omega) hn
    have q4 := nI_ltI (a := lo) (b := n) (by omega) hn
    have q5 := nI_ltI (a := lo) (b := hi) (by omega) (by omega)
    have e : u32 (nI n) = n := by
      show (BitVec.ofNat 32 n).toNat = n
      rw [BitVec.toNat_ofNat, Nat.mod_eq_of_lt (by omega)]
    rw [e]
    clear a1 a2 a3 e
    by_cases c1 : n < hi <;> by_cases c2 : n < lo <;> by_cases c3 : hi < n <;> by_cases c4 : lo < n <;> by_cases c5 : lo < hi <;> first | (exfalso; omega) | (simp only [q1, q2, q3, q4, q5, c1, c2, c3, c4, c5, ↓reduceIte]; done) | (simp only [q1, q2, q3, q4, q5, c1, c2, c3, c4, c5, ↓reduceIte]; exact congrArg nI (by omega))
set_option maxRecDepth 100000 in
set_option maxHeartbeats 4000000 in
theorem c_House_init {g : ab_G} {x y : Int32} {w : ab_W} (h7 : w 7 = aO 6 [.int 0, .int 0, .int 0, .null, .null, .null, .null, .null, .null, .null, .int 0, .int 0]) (hx : EXT w) : ab_Ct MX7_init g [.ref 7, .int x, .int y] 8 w (fun r N' w' => HW w' (clp 31 40 x) (clp 1 8 y) 0 (fun _ => 0) 0 (0, 0, 0, 0, 0, 0) (fun _ => 0) 0 0 0 0 ∧ (∀ k, k < 7 → w' k = w k) ∧ r = none ∧ 74 = N') := by
  obtain ⟨b1, b2, -⟩ := clp_in (lo := 31) (hi := 40) (by decide) (by decide) x
  obtain ⟨b3, b4, -⟩ := clp_in (lo := 1) (hi := 8) (by decide) (by decide) y
  have hm1 := clp_mm (lo := 31) (hi := 40) (by decide) (by decide) x
  have hm2 := clp_mm (lo := 1) (hi := 8) (by decide) (by decide) y
  generalize clp 31 40 x = half at *
  generalize clp 1 8 y = rounds at *
  refine ab_Ct.of (by decide +kernel) (Nat.le_of_ble_eq_true rfl) (by rintro _ _ _ ⟨-, -, rfl, -⟩; trivial) ?_
  show ab_St MX7_init g 0 0 0 [(0, .ref 7), (1, .int x), (2, .int y)] [] _ _ _
  refine r_aload_n dX7_init_0 rfl ?_
  refine r_obj dX7_init_1 obX7 obI obC (by decide) (by decide) ?_
  refine r_aload_n dX7_init_4 rfl ?_
  refine r_bipush (v := nI 31) dX7_init_5 (by decide) ?_
  refine r_bipush (v := nI 40) dX7_init_7 (by decide) ?_
  refine r_iload_n dX7_init_9 rfl ?_
  first | refine r_minN dX7_init_10 kX7_9 (by decide) (Nat.le_of_ble_eq_true rfl) (by decide) (by decide) (by omega) (by omega) ?_ | refine r_min dX7_init_10 kX7_9 (by decide) (Nat.le_of_ble_eq_true rfl) (by decide) (by decide) ?_
  refine r_max dX7_init_13 kX7_15 (by decide) (Nat.le_of_ble_eq_true rfl) (by decide) (by decide) ?_
  rw [hm1]
  refine r_putF dX7_init_16 fX7_18 (by repeat first | exact wu_eq | assumption | exact HS.o (by assumption) | exact MSG.o (by assumption) | exact DRW.o (by assumption) | (apply wu_ne; first | omega | assumption | (apply Ne.symm; assumption))) rfl rfl rfl (by exact Nat.le_of_ble_eq_true rfl) (by rfl) (by rfl) ?_
  refine r_aload_n dX7_init_19 rfl ?_
  refine r_iconst (v := nI 2) dX7_init_20 (by decide) ?_
  refine r_aload_n dX7_init_21 rfl ?_
  refine r_getf dX7_init_22 fX7_18 (by repeat first | exact wu_eq | assumption | exact HS.o (by assumption) | exact MSG.o (by assumption) | exact DRW.o (by assumption) | (apply wu_ne; first | omega | assumption | (apply Ne.symm; assumption))) (by rfl) ?_
  first | refine r_imulN dX7_init_25 ?_ | refine r_imul dX7_init_25 ?_
  refine r_putF dX7_init_26 fX7_22 (by repeat first | exact wu_eq | assumption | exact HS.o (by assumption) | exact MSG.o (by assumption) | exact DRW.o (by assumption) | (apply wu_ne; first | omega | assumption | (apply Ne.symm; assumption))) rfl rfl rfl (by exact Nat.le_of_ble_eq_true rfl) (by rfl) (by rfl) ?_
  refine r_aload_n dX7_init_29 rfl ?_
  refine r_iconst (v := nI 1) dX7_init_30 (by decide) ?_
  refine r_bipush (v := nI 8) dX7_init_31 (by decide) ?_
  refine r_iload_n dX7_init_33 rfl ?_
  first | refine r_minN dX7_init_34 kX7_9 (by decide) (Nat.le_of_ble_eq_true rfl) (by decide) (by decide) (by omega) (by omega) ?_ | refine r_min dX7_init_34 kX7_9 (by decide) (Nat.le_of_ble_eq_true rfl) (by decide) (by decide) ?_
  refine r_max dX7_init_37 kX7_15 (by decide) (Nat.le_of_ble_eq_true rfl) (by decide) (by decide) ?_
  rw [hm2]
  obtain ⟨x0, x1, x2, x3, x4, x5⟩ := id hx
  refine r_putF dX7_init_40 fX7_25 (by repeat first | exact wu_eq | assumption | exact HS.o (by assumption) | exact MSG.o (by assumption) | exact DRW.o (by assumption) | (apply wu_ne; first | omega | assumption | (apply Ne.symm; assumption))) rfl rfl rfl (by exact Nat.le_of_ble_eq_true rfl) (by rfl) (by rfl) ?_
  refine r_aload_n dX7_init_43 rfl ?_
  refine r_getf dX7_init_44 fX7_18 (by repeat first | exact wu_eq | assumption | exact HS.o (by assumption) | exact MSG.o (by assumption) | exact DRW.o (by assumption) | (apply wu_ne; first | omega | assumption | (apply Ne.symm; assumption))) (by rfl) ?_
  refine r_iconst (v := nI 3) dX7_init_47 (by decide) ?_
  first | refine r_iaddN dX7_init_48 ?_ | refine r_iadd dX7_init_48 ?_
  refine r_iconst (v := nI 4) dX7_init_49 (by decide) ?_
  refine r_idivN dX7_init_50 (by omega) (by omega) (by omega) ?_
  refine r_istore_n (i := 3) (L0 := [(0, _), (1, _), (2, _)]) dX7_init_51 rfl (by decide) rfl ?_
  refine r_aload_n dX7_init_52 rfl ?_
  refine r_new (fs := [.null, .null, .int 0, .int 0, .int 0]) dX7_init_53 (ci := 0) rfl iwX0 tyX0_ok nX7_28 itX0 iiX0 (by decide) rfl (by decide) (by decide) ?_
  refine r_dup dX7_init_56 rfl ?_
  refine r_invN 0 dX7_init_57 kX7_30 rfl (c_Draw_init (D := 8) (by repeat first | exact wu_eq | assumption | exact HS.o (by assumption) | exact MSG.o (by assumption) | exact DRW.o (by assumption) | (apply wu_ne; first | omega | assumption | (apply Ne.symm; assumption))) (by decide)) rfl rfl ⟨by decide, by decide⟩ (Nat.le_of_ble_eq_true rfl) ⟨by decide, by decide⟩ ⟨rfl, rfl⟩ ?_
  rintro _ _ w1 ⟨d1, f1, rfl, rfl⟩
  have e7 : w1 7 = aO 6 [.int (nI half), .int (nI (2 * half)), .int (nI rounds), .null, .null, .null, .null, .null, .null, .null, .int 0, .int 0] := (f1 7 (by decide)).trans (by repeat first | exact wu_eq | assumption | exact HS.o (by assumption) | exact MSG.o (by assumption) | exact DRW.o (by assumption) | (apply wu_ne; first | omega | assumption | (apply Ne.symm; assumption)))
  have F1 : ∀ k, k < 7 → w1 k = w k := fun k a => (f1 k (by omega)).trans (by repeat (first | rfl | (apply wu_ne; omega)))
  clear f1
  have hw10 : (half + 3) / 4 ≤ 10 := by omega
  have hw1 : 1 ≤ (half + 3) / 4 := by omega
  have z0 : (mZ MX0_init).slots = 142 := rfl
  have z1 : (mZ MX1_init).slots = 211 := rfl
  have z2 : (mZ MX2_init).slots = 624 := rfl
  have z3 : (mZ MX3_init).slots = 374 := rfl
  refine r_putF dX7_init_60 fX7_31 (by repeat first | exact wu_eq | assumption | exact HS.o (by assumption) | exact MSG.o (by assumption) | exact DRW.o (by assumption) | (apply wu_ne; first | omega | assumption | (apply Ne.symm; assumption))) rfl rfl rfl (by exact Nat.le_of_ble_eq_true rfl) (by rfl) (by rfl) ?_
  refine r_aload_n dX7_init_63 rfl ?_
  refine r_new (fs := [.null, .int 0, .int 0, .null, .null, .null, .null, .null, .null, .null, .int 0, .int 0, .int 0, .int 0]) dX7_init_64 (ci := 1) rfl iwX1 tyX1_ok nX7_35 itX1 iiX1 (by decide) rfl (by decide) (by decide) ?_
  refine r_dup dX7_init_67 rfl ?_
  refine r_aload_n dX7_init_68 rfl ?_
  refine r_getf dX7_init_69 fX7_31 (by repeat first | exact wu_eq | assumption | exact HS.o (by assumption) | exact MSG.o (by assumption) | exact DRW.o (by assumption) | (apply wu_ne; first | omega | assumption | (apply Ne.symm; assumption))) (by rfl) ?_
  refine r_aload_n dX7_init_72 rfl ?_
  refine r_getf dX7_init_73 fX7_18 (by repeat first | exact wu_eq | assumption | exact HS.o (by assumption) | exact MSG.o (by assumption) | exact DRW.o (by assumption) | (apply wu_ne; first | omega | assumption | (apply Ne.symm; assumption))) (by rfl) ?_
  refine r_iload_n dX7_init_76 rfl ?_
  refine r_aload_n dX7_init_77 rfl ?_
  refine r_getf dX7_init_78 fX7_25 (by repeat first | exact wu_eq | assumption | exact HS.o (by assumption) | exact MSG.o (by assumption) | exact DRW.o (by assumption) | (apply wu_ne; first | omega | assumption | (apply Ne.symm; assumption))) (by rfl) ?_
  refine r_invI dX7_init_81 kX7_37 rfl (c_Hunt_init (half := half) (rounds := rounds) (W := (half + 3) / 4) (by repeat first | exact wu_eq | assumption | exact HS.o (by assumption) | exact MSG.o (by assumption) | exact DRW.o (by assumption) | (apply wu_ne; first | omega | assumption | (apply Ne.symm; assumption))) rfl b1 b2 b4) rfl rfl ⟨by decide, by decide⟩ (Nat.le_of_ble_eq_true rfl) ⟨by decide, by decide⟩ ⟨rfl, rfl⟩ ?_
  rintro _ _ w2 ⟨d2, f2, rfl, rfl⟩
  have g7 : w2 7 = aO 6 [.int (nI half), .int (nI (2 * half)), .int (nI rounds), .ref 8, .null, .null, .null, .null, .null, .null, .int 0, .int 0] := (f2 7 (by decide)).trans (by repeat first | exact wu_eq | assumption | exact HS.o (by assumption) | exact MSG.o (by assumption) | exact DRW.o (by assumption) | (apply wu_ne; first | omega | assumption | (apply Ne.symm; assumption)))
  have F2 : ∀ k, k < 13 → k ≠ 7 → w2 k = w1 k := fun k a b => (f2 k (by omega)).trans (by repeat (first | rfl | (apply wu_ne; omega)))
  clear f2
  refine r_putF dX7_init_84 fX7_40 (by repeat first | exact wu_eq | assumption | exact HS.o (by assumption) | exact MSG.o (by assumption) | exact DRW.o (by assumption) | (apply wu_ne; first | omega | assumption | (apply Ne.symm; assumption))) rfl rfl rfl (by exact Nat.le_of_ble_eq_true rfl) (by rfl) (by rfl) ?_
  refine r_aload_n dX7_init_87 rfl ?_
  refine r_new (fs := [.null, .null, .null, .null, .null, .null, .null, .null, .null, .null, .null, .null, .null, .null, .null, .null, .int 0]) dX7_init_88 (ci := 2) rfl iwX2 tyX2_ok nX7_44 itX2 iiX2 (by decide) rfl (by decide) (by decide) ?_
  refine r_dup dX7_init_91 rfl ?_
  refine r_iload_n dX7_init_92 rfl ?_
  refine r_invI dX7_init_93 kX7_46 rfl (c_K_init (W := (half + 3) / 4) (by repeat first | exact wu_eq | assumption | exact HS.o (by assumption) | exact MSG.o (by assumption) | exact DRW.o (by assumption) | (apply wu_ne; first | omega | assumption | (apply Ne.symm; assumption))) hw1 hw10) rfl rfl ⟨by decide, by decide⟩ (Nat.le_of_ble_eq_true rfl) ⟨by decide, by decide⟩ ⟨rfl, rfl⟩ ?_
  rintro _ _ w3 ⟨k28, k29, k37, k45, kN, kT, f3, rfl, rfl⟩
  have h7' : w3 7 = aO 6 [.int (nI half), .int (nI (2 * half)), .int (nI rounds), .ref 8, .ref 13, .null, .null, .null, .null, .null, .int 0, .int 0] := (f3 7 (by decide)).trans (by repeat first | exact wu_eq | assumption | exact HS.o (by assumption) | exact MSG.o (by assumption) | exact DRW.o (by assumption) | (apply wu_ne; first | omega | assumption | (apply Ne.symm; assumption)))
  have F3 : ∀ k, k < 28 → k ≠ 7 → w3 k = w2 k := fun k a b => (f3 k (by omega)).trans (by repeat (first | rfl | (apply wu_ne; omega)))
  clear f3
  have y0 : w3 0 = xI 8 sH := (F3 0 (by decide) (by decide)).trans ((F2 0 (by decide) (by decide)).trans ((F1 0 (by decide)).trans x0))
  have y1 : w3 1 = xI 64 sK := (F3 1 (by decide) (by decide)).trans ((F2 1 (by decide) (by decide)).trans ((F1 1 (by decide)).trans x1))
  refine r_putF dX7_init_96 fX7_49 (by repeat first | exact wu_eq | assumption | exact HS.o (by assumption) | exact MSG.o (by assumption) | exact DRW.o (by assumption) | (apply wu_ne; first | omega | assumption | (apply Ne.symm; assumption))) rfl rfl rfl (by exact Nat.le_of_ble_eq_true rfl) (by rfl) (by rfl) ?_
  refine r_aload_n dX7_init_99 rfl ?_
  refine r_new (fs := [.null, .null, .int 0]) dX7_init_100 (ci := 3) rfl iwX3 tyX3_ok nX7_53 itX3 iiX3 (by decide) rfl (by decide) (by decide) ?_
  refine r_dup dX7_init_103 rfl ?_
  refine r_invI dX7_init_104 kX7_55 rfl (c_Message_init (by repeat first | exact wu_eq | assumption | exact HS.o (by assumption) | exact MSG.o (by assumption) | exact DRW.o (by assumption) | (apply wu_ne; first | omega | assumption | (apply Ne.symm; assumption))) (by repeat first | exact wu_eq | assumption | exact HS.o (by assumption) | exact MSG.o (by assumption) | exact DRW.o (by assumption) | (apply wu_ne; first | omega | assumption | (apply Ne.symm; assumption))) (by repeat first | exact wu_eq | assumption | exact HS.o (by assumption) | exact MSG.o (by assumption) | exact DRW.o (by assumption) | (apply wu_ne; first | omega | assumption | (apply Ne.symm; assumption)))) rfl rfl ⟨by decide, by decide⟩ (Nat.le_of_ble_eq_true rfl) ⟨by decide, by decide⟩ ⟨rfl, rfl⟩ ?_
  rintro _ _ w4 ⟨d4, f4, rfl, rfl⟩
  have i7 : w4 7 = aO 6 [.int (nI half), .int (nI (2 * half)), .int (nI rounds), .ref 8, .ref 13, .ref 28, .null, .null, .null, .null, .int 0, .int 0] := (f4 7 (by decide)).trans (by repeat first | exact wu_eq | assumption | exact HS.o (by assumption) | exact MSG.o (by assumption) | exact DRW.o (by assumption) | (apply wu_ne; first | omega | assumption | (apply Ne.symm; assumption)))
  have F4 : ∀ k, k < 66 → k ≠ 7 → w4 k = w3 k := fun k a b => (f4 k (by omega)).trans (by repeat (first | rfl | (apply wu_ne; omega)))
  clear f4
  refine r_putF dX7_init_107 fX7_56 (by repeat first | exact wu_eq | assumption | exact HS.o (by assumption) | exact MSG.o (by assumption) | exact DRW.o (by assumption) | (apply wu_ne; first | omega | assumption | (apply Ne.symm; assumption))) rfl rfl rfl (by exact Nat.le_of_ble_eq_true rfl) (by rfl) (by rfl) ?_
  refine r_aload_n dX7_init_110 rfl ?_
  refine r_iconst (v := nI 2) dX7_init_111 (by decide) ?_
  refine r_iload_n dX7_init_112 rfl ?_
  first | refine r_imulN dX7_init_113 ?_ | refine r_imul dX7_init_113 ?_
  refine r_newaJ dX7_init_114 rfl (by omega) arJ (by decide) (by first | decide | (show _ ≤ 1450; omega)) ?_
  refine r_putF dX7_init_116 fX7_60 (by repeat first | exact wu_eq | assumption | exact HS.o (by assumption) | exact MSG.o (by assumption) | exact DRW.o (by assumption) | (apply wu_ne; first | omega | assumption | (apply Ne.symm; assumption))) rfl rfl rfl (by exact Nat.le_of_ble_eq_true rfl) (by rfl) (by rfl) ?_
  refine r_aload_n dX7_init_119 rfl ?_
  refine r_iconst (v := nI 2) dX7_init_120 (by decide) ?_
  refine r_iload_n dX7_init_121 rfl ?_
  first | refine r_imulN dX7_init_122 ?_ | refine r_imul dX7_init_122 ?_
  refine r_newaJ dX7_init_123 rfl (by omega) arJ (by decide) (by first | decide | (show _ ≤ 1450; omega)) ?_
  refine r_putF dX7_init_125 fX7_64 (by repeat first | exact wu_eq | assumption | exact HS.o (by assumption) | exact MSG.o (by assumption) | exact DRW.o (by assumption) | (apply wu_ne; first | omega | assumption | (apply Ne.symm; assumption))) rfl rfl rfl (by exact Nat.le_of_ble_eq_true rfl) (by rfl) (by rfl) ?_
  refine r_aload_n dX7_init_128 rfl ?_
  refine r_iconst (v := nI 2) dX7_init_129 (by decide) ?_
  refine r_iload_n dX7_init_130 rfl ?_
  first | refine r_imulN dX7_init_131 ?_ | refine r_imul dX7_init_131 ?_
  refine r_newaJ dX7_init_132 rfl (by omega) arJ (by decide) (by first | decide | (show _ ≤ 1450; omega)) ?_
  refine r_putF dX7_init_134 fX7_67 (by repeat first | exact wu_eq | assumption | exact HS.o (by assumption) | exact MSG.o (by assumption) | exact DRW.o (by assumption) | (apply wu_ne; first | omega | assumption | (apply Ne.symm; assumption))) rfl rfl rfl (by exact Nat.le_of_ble_eq_true rfl) (by rfl) (by rfl) ?_
  refine r_ret (r := none) dX7_init_137 (by decide) (by first | decide | (show _ ≤ 1450; omega)) ?_
  have hp : 0 < 256 ^ (2 * half) := Nat.pow_pos (by decide)
  have hp2 : 0 < 4294967296 ^ (2 * ((half + 3) / 4)) := Nat.pow_pos (by decide)
  refine ⟨⟨?_, ?_, ?_, ?_, ⟨0, 0, 0, 0, 0, 0, 0, ?_⟩, ?_, ⟨?_, ?_, ?_⟩, fun q => absurd (show (0 : Nat) = 2 from q) (by decide), ?_, ⟨?_, hp⟩, ⟨0, ?_, hp⟩, ⟨0, ?_, hp2⟩, ?_⟩, ?_, rfl, rfl⟩
  · (repeat first | exact wu_eq | assumption | exact HS.o (by assumption) | exact MSG.o (by assumption) | exact DRW.o (by assumption) | (apply wu_ne; first | omega | assumption | (apply Ne.symm; assumption)))
  · refine d1.keep fun k a b => Eq.trans ?_ ((F4 k (by omega) (by omega)).trans ((F3 k (by omega) (by omega)).trans (F2 k (by omega) (by omega))))
    repeat (first | rfl | (apply wu_ne; omega))
  · refine d2.keep fun k a b => Eq.trans ?_ ((F4 k (by omega) (by omega)).trans (F3 k (by omega) (by omega)))
    repeat (first | rfl | (apply wu_ne; omega))
  · refine Eq.trans ?_ ((F4 28 (by decide) (by decide)).trans k28)
    repeat (first | rfl | (apply wu_ne; decide))
  · refine kN.keep fun k a b => Eq.trans ?_ (F4 k (by omega) (by omega))
    repeat (first | rfl | (apply wu_ne; omega))
  · refine kT.keep fun k a b => Eq.trans ?_ (F4 k (by omega) (by omega))
    repeat (first | rfl | (apply wu_ne; omega))
  · refine k29.keep fun k a b => Eq.trans ?_ (F4 k (by omega) (by omega))
    repeat (first | rfl | (apply wu_ne; omega))
  · refine k37.keep fun k a b => Eq.trans ?_ (F4 k (by omega) (by omega))
    repeat (first | rfl | (apply wu_ne; omega))
  · refine k45.keep fun k a b => Eq.trans ?_ (F4 k (by omega) (by omega))
    repeat (first | rfl | (apply wu_ne; omega))
  · refine d4.keep fun k a b => ?_
    repeat (first | rfl | (apply wu_ne; omega))
  · rw [aN_0]; (repeat first | exact wu_eq | assumption | exact HS.o (by assumption) | exact MSG.o (by assumption) | exact DRW.o (by assumption) | (apply wu_ne; first | omega | assumption | (apply Ne.symm; assumption)))
  · rw [aN_0]; (repeat first | exact wu_eq | assumption | exact HS.o (by assumption) | exact MSG.o (by assumption) | exact DRW.o (by assumption) | (apply wu_ne; first | omega | assumption | (apply Ne.symm; assumption)))
  · rw [aN_0]; (repeat first | exact wu_eq | assumption | exact HS.o (by assumption) | exact MSG.o (by assumption) | exact DRW.o (by assumption) | (apply wu_ne; first | omega | assumption | (apply Ne.symm; assumption)))
  · refine hx.keep fun k a => Eq.trans ?_ ((F4 k (by omega) (by omega)).trans ((F3 k (by omega) (by omega)).trans ((F2 k (by omega) (by omega)).trans (F1 k a))))
    repeat (first | rfl | (apply wu_ne; omega))
  · intro k a
    refine Eq.trans ?_ ((F4 k (by omega) (by omega)).trans ((F3 k (by omega) (by omega)).trans ((F2 k (by omega) (by omega)).trans (F1 k a))))
    repeat (first | rfl | (apply wu_ne; omega))
