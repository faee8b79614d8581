/-! SignHouseModel: the maker -/
/-- the rows that are made, but those not yet named -/
def MI (w1 w : ab_W) : Prop := w1 75 = aI 1596 (fun _ => 0) ∧ w1 76 = aI 300 (fun _ => 0) ∧ w1 77 = aI 8 (fun _ => 0) ∧ w1 78 = aI 64 (fun _ => 0) ∧ ∀ k, k < 74 → w1 k = w k
theorem MI.keep {w1 w2 w : ab_W} (h : MI w1 w) (hk : ∀ k, k < 79 → k ≠ 74 → w2 k = w1 k) : MI w2 w := by
  obtain ⟨h1, h2, h3, h4, h5⟩ := h
  exact ⟨(hk 75 (by decide) (by decide)).trans h1, (hk 76 (by decide) (by decide)).trans h2, (hk 77 (by decide) (by decide)).trans h3, (hk 78 (by decide) (by decide)).trans h4, fun k a => (hk k (by omega) (by omega)).trans (h5 k a)⟩
set_option maxRecDepth 100000 in
set_option maxHeartbeats 4000000 in
theorem c_Model_init {g : ab_G} {x y : Int32} {w : ab_W} (h74 : w 74 = aO 7 [.null, .int 0, .int 0, .null, .int 0, .null, .null, .null, .null, .null, .int 0, .int 0, .int 0, .int 0, .int 0, .int 0, .int 0, .int 0, .int 0, .int 0, .null, .int 0, .null]) : ab_Ct MX8_init g [.ref 74, .int x, .int y] 75 w (fun r N' w' => MH w' (clp 31 40 x) (clp 1 8 y) 0 (fun _ => 0) 0 (0, 0, 0, 0, 0, 0) (fun _ => 0) 0 0 0 0 ∧ (∀ k, k < 74 → w' k = w k) ∧ r = none ∧ 84 = N') := by
  obtain ⟨b1, b2, c1⟩ := clp_in (lo := 31) (hi := 40) (by decide) (by decide) x
  obtain ⟨b3, b4, c2⟩ := clp_in (lo := 1) (hi := 8) (by decide) (by decide) y
  have hx1 : x < nI 31 → clp 31 40 x = 31 := fun q => by unfold clp; rw [if_pos q]
  have hx2 : ¬ x < nI 31 → nI 40 < x → clp 31 40 x = 40 := fun q q2 => by unfold clp; rw [if_neg q, if_pos q2]
  have hy1 : y < nI 1 → clp 1 8 y = 1 := fun q => by unfold clp; rw [if_pos q]
  have hy2 : ¬ y < nI 1 → nI 8 < y → clp 1 8 y = 8 := fun q q2 => by unfold clp; rw [if_neg q, if_pos q2]
  generalize clp 31 40 x = half at *
  generalize clp 1 8 y = rounds at *
  have K605 : ∀ w1, w1 74 = aO 7 [.ref 75, .int 0, .int 0, .ref 76, .int 0, .ref 77, .ref 78, .ref 79, .ref 80, .ref 81, .int 0, .int 0, .int 0, .int 0, .int 0, .int 0, .int 0, .int 0, .int 0, .int 0, .ref 82, .int 0, .ref 83] → MI w1 w → w1 79 = aI 8 sH → w1 80 = aI 64 sK → w1 81 = aI 16 (fun _ => 0) → w1 82 = aI 300 (fun _ => 0) → w1 83 = aI 20 sMk → ab_St MX8_init g 9 2376 605 [(0, .ref 74), (1, .int x), (2, .int y)] [] 84 w1 (fun r N' w' => MH w' half rounds 0 (fun _ => 0) 0 (0, 0, 0, 0, 0, 0) (fun _ => 0) 0 0 0 0 ∧ (∀ k, k < 74 → w' k = w k) ∧ r = none ∧ 84 = N') := by
    intro w1 e74 eM e79 e80 e81 e82 e83
    have K632 : ∀ v, v = nI half → ab_St MX8_init g 9 2376 629 [(0, .ref 74), (1, .int x), (2, .int y)] [.int v, .ref 74] 84 w1 (fun r N' w' => MH w' half rounds 0 (fun _ => 0) 0 (0, 0, 0, 0, 0, 0) (fun _ => 0) 0 0 0 0 ∧ (∀ k, k < 74 → w' k = w k) ∧ r = none ∧ 84 = N') := by
      rintro v rfl
      have K654 : ∀ v w2, v = nI rounds → w2 = wu w1 74 (aO 7 [.ref 75, .int (nI half), .int 0, .ref 76, .int 0, .ref 77, .ref 78, .ref 79, .ref 80, .ref 81, .int 0, .int 0, .int 0, .int 0, .int 0, .int 0, .int 0, .int 0, .int 0, .int 0, .ref 82, .int 0, .ref 83]) → ab_St MX8_init g 9 2376 654 [(0, .ref 74), (1, .int x), (2, .int y)] [.int v, .ref 74] 84 w2 (fun r N' w' => MH w' half rounds 0 (fun _ => 0) 0 (0, 0, 0, 0, 0, 0) (fun _ => 0) 0 0 0 0 ∧ (∀ k, k < 74 → w' k = w k) ∧ r = none ∧ 84 = N') := by
        rintro v w2 rfl rfl
        refine r_putF dX8_init_654 fX8_113 (by repeat first | exact wu_eq | assumption | (apply wu_ne; first | omega | assumption | (apply Ne.symm; assumption))) rfl rfl rfl (by exact Nat.le_of_ble_eq_true rfl) (by rfl) (by rfl) ?_
        refine r_ret (r := none) dX8_init_657 (by decide) (by first | decide | (show _ ≤ 2376; omega)) ?_
        rw [wu_wu]
        obtain ⟨i75, i76, i77, i78, iK⟩ := eM
        have hz : (fun _ => 0 : Nat → Int32) = bI (fun _ => 0) := rfl
        have hxv : (fun _ => 0 : Nat → Int32) = xv (fun _ => 0) := by
          funext i
          show (0 : Int32) = if i < 1596 then nI (0 / 65536 ^ (i % 84) % 65536) else 0
          rw [Nat.zero_div, Nat.zero_mod]
          split <;> rfl
        have h32 : 0 / 32 = 0 ∧ 0 % 32 = 0 ∧ mk1 0 = 0 ∧ mkp 0 = 0 := by decide
        refine ⟨⟨0, fun _ => 0, ?_, wu_ne (by decide) (i75.trans (congrArg (aI 1596) hxv)), ⟨fun _ => 0, fun _ => 0, fun _ => 0, wu_ne (by decide) i76, fun _ => (by decide : 0 < 256), wu_ne (by decide) i77, fun _ _ => rfl, wu_ne (by decide) i78⟩, ⟨⟨fun _ => 0, wu_ne (by decide) e81, fun k q => absurd q (by omega)⟩, wu_ne (by decide) e79, wu_ne (by decide) e80, wu_ne (by decide) e82, fun _ => (by decide : 0 < 256), wu_ne (by decide) e83, by decide⟩, rfl, fun q => absurd (show (0 : Nat) = 1 from q) (by decide), fun q => absurd (show (0 : Nat) = 2 from q) (by decide), by decide, b1, b2, b4⟩, fun k a => (wu_ne (by omega) rfl).trans (iK k a), rfl, rfl⟩
        dsimp only [hF, hX, hU, hP]
        rw [h32.1, h32.2.1, h32.2.2.1, h32.2.2.2]
        exact wu_eq
      refine r_putF dX8_init_629 fX8_109 (by repeat first | exact wu_eq | assumption | (apply wu_ne; first | omega | assumption | (apply Ne.symm; assumption))) rfl rfl rfl (by exact Nat.le_of_ble_eq_true rfl) (by rfl) (by rfl) ?_
      refine r_aload_n dX8_init_632 rfl ?_
      refine r_iload_n dX8_init_633 rfl ?_
      refine r_iconst (v := nI 1) dX8_init_634 (by decide) ?_
      first | refine r_icmp_geN (tgt := 642) dX8_init_635 (by decide) (by omega) (by omega) (fun h635 => ?_) (fun h635 => ?_) | refine r_icmp_ge (tgt := 642) dX8_init_635 (by decide) (fun h635 => ?_) (fun h635 => ?_)
      · refine r_iload_n dX8_init_642 rfl ?_
        refine r_bipush (v := nI 8) dX8_init_643 (by decide) ?_
        first | refine r_icmp_leN (tgt := 653) dX8_init_645 (by decide) (by omega) (by omega) (fun h645 => ?_) (fun h645 => ?_) | refine r_icmp_le (tgt := 653) dX8_init_645 (by decide) (fun h645 => ?_) (fun h645 => ?_)
        · refine r_iload_n dX8_init_653 rfl ?_
          exact K654 _ _ (c2 (Int32.not_lt.mpr h635) (Int32.not_lt.mpr h645)) rfl
        · refine r_bipush (v := nI 8) dX8_init_648 (by decide) ?_
          refine r_goto (tgt := 654) dX8_init_650 (by decide) ?_
          exact K654 _ _ (by rw [hy2 (Int32.not_lt.mpr h635) (Int32.not_le.mp h645)]) rfl
      · refine r_iconst (v := nI 1) dX8_init_638 (by decide) ?_
        refine r_goto (tgt := 654) dX8_init_639 (by decide) ?_
        exact K654 _ _ (by rw [hy1 (Int32.not_le.mp h635)]) rfl
    refine r_aload_n dX8_init_605 rfl ?_
    refine r_iload_n dX8_init_606 rfl ?_
    refine r_bipush (v := nI 31) dX8_init_607 (by decide) ?_
    first | refine r_icmp_geN (tgt := 617) dX8_init_609 (by decide) (by omega) (by omega) (fun h609 => ?_) (fun h609 => ?_) | refine r_icmp_ge (tgt := 617) dX8_init_609 (by decide) (fun h609 => ?_) (fun h609 => ?_)
    · refine r_iload_n dX8_init_617 rfl ?_
      refine r_bipush (v := nI 40) dX8_init_618 (by decide) ?_
      first | refine r_icmp_leN (tgt := 628) dX8_init_620 (by decide) (by omega) (by omega) (fun h620 => ?_) (fun h620 => ?_) | refine r_icmp_le (tgt := 628) dX8_init_620 (by decide) (fun h620 => ?_) (fun h620 => ?_)
      · refine r_iload_n dX8_init_628 rfl ?_
        exact K632 _ (c1 (Int32.not_lt.mpr h609) (Int32.not_lt.mpr h620))
      · refine r_bipush (v := nI 40) dX8_init_623 (by decide) ?_
        refine r_goto (tgt := 629) dX8_init_625 (by decide) ?_
        exact K632 _ (by rw [hx2 (Int32.not_lt.mpr h609) (Int32.not_le.mp h620)])
    · refine r_bipush (v := nI 31) dX8_init_612 (by decide) ?_
      refine r_goto (tgt := 629) dX8_init_614 (by decide) ?_
      exact K632 _ (by rw [hx1 (Int32.not_le.mp h609)])
  clear c1 c2 hx1 hx2 hy1 hy2
  have K496 : ∀ w1, w1 74 = aO 7 [.ref 75, .int 0, .int 0, .ref 76, .int 0, .ref 77, .ref 78, .ref 79, .ref 80, .ref 81, .int 0, .int 0, .int 0, .int 0, .int 0, .int 0, .int 0, .int 0, .int 0, .int 0, .ref 82, .int 0, .null] → MI w1 w → w1 79 = aI 8 sH → w1 80 = aI 64 sK → w1 81 = aI 16 (fun _ => 0) → w1 82 = aI 300 (fun _ => 0) → w1 83 = aI 20 (fun _ => 0) → ab_St MX8_init g 9 2376 496 [(0, .ref 74), (1, .int x), (2, .int y)] [.ref 83, .ref 74] 84 w1 (fun r N' w' => MH w' half rounds 0 (fun _ => 0) 0 (0, 0, 0, 0, 0, 0) (fun _ => 0) 0 0 0 0 ∧ (∀ k, k < 74 → w' k = w k) ∧ r = none ∧ 84 = N') := by
    intro w1 e74 eM e79 e80 e81 e82 e83
    have ew : w1 = wu w1 83 (aI 20 (fl 0 sMk (fun _ => 0))) := (wu_self (by rw [fl_0]; exact e83)).symm
    have hfl : fl 20 sMk (fun _ => 0) = sMk := fl_end fun k hk => by
      unfold sMk HNM
      rw [if_neg (by omega), List.getD_eq_getElem?_getD, List.getElem?_eq_none (by show 19 ≤ k - 1; omega)]
      rfl
    rw [ew]
    refine r_dup dX8_init_496 rfl ?_
    refine r_iconst (v := nI 0) dX8_init_497 (by decide) ?_
    refine r_iconst (v := nI 0) dX8_init_498 (by decide) ?_
    refine r_iastore dX8_init_499 (by repeat first | exact wu_eq | assumption | (apply wu_ne; first | omega | assumption | (apply Ne.symm; assumption))) _ rfl (by decide) (by decide) ?_
    rw [wu_wu, fl_up' (show nI 0 = sMk 0 by decide +kernel)]
    refine r_dup dX8_init_500 rfl ?_
    refine r_iconst (v := nI 1) dX8_init_501 (by decide) ?_
    refine r_bipush (v := nI 48) dX8_init_502 (by decide) ?_
    refine r_iastore dX8_init_504 (by repeat first | exact wu_eq | assumption | (apply wu_ne; first | omega | assumption | (apply Ne.symm; assumption))) _ rfl (by decide) (by decide) ?_
    rw [wu_wu, fl_up' (show nI 48 = sMk 1 by decide +kernel)]
    refine r_dup dX8_init_505 rfl ?_
    refine r_iconst (v := nI 2) dX8_init_506 (by decide) ?_
    refine r_bipush (v := nI 49) dX8_init_507 (by decide) ?_
    refine r_iastore dX8_init_509 (by repeat first | exact wu_eq | assumption | (apply wu_ne; first | omega | assumption | (apply Ne.symm; assumption))) _ rfl (by decide) (by decide) ?_
    rw [wu_wu, fl_up' (show nI 49 = sMk 2 by decide +kernel)]
    refine r_dup dX8_init_510 rfl ?_
    refine r_iconst (v := nI 3) dX8_init_511 (by decide) ?_
    refine r_bipush (v := nI 48) dX8_init_512 (by decide) ?_
    refine r_iastore dX8_init_514 (by repeat first | exact wu_eq | assumption | (apply wu_ne; first | omega | assumption | (apply Ne.symm; assumption))) _ rfl (by decide) (by decide) ?_
    rw [wu_wu, fl_up' (show nI 48 = sMk 3 by decide +kernel)]
    refine r_dup dX8_init_515 rfl ?_
    refine r_iconst (v := nI 4) dX8_init_516 (by decide) ?_
    refine r_bipush (v := nI 13) dX8_init_517 (by decide) ?_
    refine r_iastore dX8_init_519 (by repeat first | exact wu_eq | assumption | (apply wu_ne; first | omega | assumption | (apply Ne.symm; assumption))) _ rfl (by decide) (by decide) ?_
    rw [wu_wu, fl_up' (show nI 13 = sMk 4 by decide +kernel)]
    refine r_dup dX8_init_520 rfl ?_
    refine r_iconst (v := nI 5) dX8_init_521 (by decide) ?_
    refine r_bipush (v := nI 6) dX8_init_522 (by decide) ?_
    refine r_iastore dX8_init_524 (by repeat first | exact wu_eq | assumption | (apply wu_ne; first | omega | assumption | (apply Ne.symm; assumption))) _ rfl (by decide) (by decide) ?_
    rw [wu_wu, fl_up' (show nI 6 = sMk 5 by decide +kernel)]
    refine r_dup dX8_init_525 rfl ?_
    refine r_bipush (v := nI 6) dX8_init_526 (by decide) ?_
    refine r_bipush (v := nI 9) dX8_init_528 (by decide) ?_
    refine r_iastore dX8_init_530 (by repeat first | exact wu_eq | assumption | (apply wu_ne; first | omega | assumption | (apply Ne.symm; assumption))) _ rfl (by decide) (by decide) ?_
    rw [wu_wu, fl_up' (show nI 9 = sMk 6 by decide +kernel)]
    refine r_dup dX8_init_531 rfl ?_
    refine r_bipush (v := nI 7) dX8_init_532 (by decide) ?_
    refine r_bipush (v := nI 96) dX8_init_534 (by decide) ?_
    refine r_iastore dX8_init_536 (by repeat first | exact wu_eq | assumption | (apply wu_ne; first | omega | assumption | (apply Ne.symm; assumption))) _ rfl (by decide) (by decide) ?_
    rw [wu_wu, fl_up' (show nI 96 = sMk 7 by decide +kernel)]
    refine r_dup dX8_init_537 rfl ?_
    refine r_bipush (v := nI 8) dX8_init_538 (by decide) ?_
    refine r_sipush (v := nI 134) dX8_init_540 (by decide) ?_
    refine r_iastore dX8_init_543 (by repeat first | exact wu_eq | assumption | (apply wu_ne; first | omega | assumption | (apply Ne.symm; assumption))) _ rfl (by decide) (by decide) ?_
    rw [wu_wu, fl_up' (show nI 134 = sMk 8 by decide +kernel)]
    refine r_dup dX8_init_544 rfl ?_
    refine r_bipush (v := nI 9) dX8_init_545 (by decide) ?_
    refine r_bipush (v := nI 72) dX8_init_547 (by decide) ?_
    refine r_iastore dX8_init_549 (by repeat first | exact wu_eq | assumption | (apply wu_ne; first | omega | assumption | (apply Ne.symm; assumption))) _ rfl (by decide) (by decide) ?_
    rw [wu_wu, fl_up' (show nI 72 = sMk 9 by decide +kernel)]
    refine r_dup dX8_init_550 rfl ?_
    refine r_bipush (v := nI 10) dX8_init_551 (by decide) ?_
    refine r_iconst (v := nI 1) dX8_init_553 (by decide) ?_
    refine r_iastore dX8_init_554 (by repeat first | exact wu_eq | assumption | (apply wu_ne; first | omega | assumption | (apply Ne.symm; assumption))) _ rfl (by decide) (by decide) ?_
    rw [wu_wu, fl_up' (show nI 1 = sMk 10 by decide +kernel)]
    refine r_dup dX8_init_555 rfl ?_
    refine r_bipush (v := nI 11) dX8_init_556 (by decide) ?_
    refine r_bipush (v := nI 101) dX8_init_558 (by decide) ?_
    refine r_iastore dX8_init_560 (by repeat first | exact wu_eq | assumption | (apply wu_ne; first | omega | assumption | (apply Ne.symm; assumption))) _ rfl (by decide) (by decide) ?_
    rw [wu_wu, fl_up' (show nI 101 = sMk 11 by decide +kernel)]
    refine r_dup dX8_init_561 rfl ?_
    refine r_bipush (v := nI 12) dX8_init_562 (by decide) ?_
    refine r_iconst (v := nI 3) dX8_init_564 (by decide) ?_
    refine r_iastore dX8_init_565 (by repeat first | exact wu_eq | assumption | (apply wu_ne; first | omega | assumption | (apply Ne.symm; assumption))) _ rfl (by decide) (by decide) ?_
    rw [wu_wu, fl_up' (show nI 3 = sMk 12 by decide +kernel)]
    refine r_dup dX8_init_566 rfl ?_
    refine r_bipush (v := nI 13) dX8_init_567 (by decide) ?_
    refine r_iconst (v := nI 4) dX8_init_569 (by decide) ?_
    refine r_iastore dX8_init_570 (by repeat first | exact wu_eq | assumption | (apply wu_ne; first | omega | assumption | (apply Ne.symm; assumption))) _ rfl (by decide) (by decide) ?_
    rw [wu_wu, fl_up' (show nI 4 = sMk 13 by decide +kernel)]
    refine r_dup dX8_init_571 rfl ?_
    refine r_bipush (v := nI 14) dX8_init_572 (by decide) ?_
    refine r_iconst (v := nI 2) dX8_init_574 (by decide) ?_
    refine r_iastore dX8_init_575 (by repeat first | exact wu_eq | assumption | (apply wu_ne; first | omega | assumption | (apply Ne.symm; assumption))) _ rfl (by decide) (by decide) ?_
    rw [wu_wu, fl_up' (show nI 2 = sMk 14 by decide +kernel)]
    refine r_dup dX8_init_576 rfl ?_
    refine r_bipush (v := nI 15) dX8_init_577 (by decide) ?_
    refine r_iconst (v := nI 1) dX8_init_579 (by decide) ?_
    refine r_iastore dX8_init_580 (by repeat first | exact wu_eq | assumption | (apply wu_ne; first | omega | assumption | (apply Ne.symm; assumption))) _ rfl (by decide) (by decide) ?_
    rw [wu_wu, fl_up' (show nI 1 = sMk 15 by decide +kernel)]
    refine r_dup dX8_init_581 rfl ?_
    refine r_bipush (v := nI 16) dX8_init_582 (by decide) ?_
    refine r_iconst (v := nI 5) dX8_init_584 (by decide) ?_
    refine r_iastore dX8_init_585 (by repeat first | exact wu_eq | assumption | (apply wu_ne; first | omega | assumption | (apply Ne.symm; assumption))) _ rfl (by decide) (by decide) ?_
    rw [wu_wu, fl_up' (show nI 5 = sMk 16 by decide +kernel)]
    refine r_dup dX8_init_586 rfl ?_
    refine r_bipush (v := nI 17) dX8_init_587 (by decide) ?_
    refine r_iconst (v := nI 0) dX8_init_589 (by decide) ?_
    refine r_iastore dX8_init_590 (by repeat first | exact wu_eq | assumption | (apply wu_ne; first | omega | assumption | (apply Ne.symm; assumption))) _ rfl (by decide) (by decide) ?_
    rw [wu_wu, fl_up' (show nI 0 = sMk 17 by decide +kernel)]
    refine r_dup dX8_init_591 rfl ?_
    refine r_bipush (v := nI 18) dX8_init_592 (by decide) ?_
    refine r_iconst (v := nI 4) dX8_init_594 (by decide) ?_
    refine r_iastore dX8_init_595 (by repeat first | exact wu_eq | assumption | (apply wu_ne; first | omega | assumption | (apply Ne.symm; assumption))) _ rfl (by decide) (by decide) ?_
    rw [wu_wu, fl_up' (show nI 4 = sMk 18 by decide +kernel)]
    refine r_dup dX8_init_596 rfl ?_
    refine r_bipush (v := nI 19) dX8_init_597 (by decide) ?_
    refine r_bipush (v := nI 32) dX8_init_599 (by decide) ?_
    refine r_iastore dX8_init_601 (by repeat first | exact wu_eq | assumption | (apply wu_ne; first | omega | assumption | (apply Ne.symm; assumption))) _ rfl (by decide) (by decide) ?_
    rw [wu_wu, fl_up' (show nI 32 = sMk 19 by decide +kernel)]
    refine r_putF dX8_init_602 fX8_106 (by repeat first | exact wu_eq | assumption | (apply wu_ne; first | omega | assumption | (apply Ne.symm; assumption))) rfl rfl rfl (by exact Nat.le_of_ble_eq_true rfl) (by rfl) (by rfl) ?_
    rw [hfl]
    exact K605 _ wu_eq (eM.keep fun k a b => wu_ne b (wu_ne (by omega) rfl)) (wu_ne (by decide) (wu_ne (by decide) e79)) (wu_ne (by decide) (wu_ne (by decide) e80)) (wu_ne (by decide) (wu_ne (by decide) e81)) (wu_ne (by decide) (wu_ne (by decide) e82)) (wu_ne (by decide) wu_eq)
  clear K605
  have K93 : ∀ w1, w1 74 = aO 7 [.ref 75, .int 0, .int 0, .ref 76, .int 0, .ref 77, .ref 78, .ref 79, .null, .null, .int 0, .int 0, .int 0, .int 0, .int 0, .int 0, .int 0, .int 0, .int 0, .int 0, .null, .int 0, .null] → MI w1 w → w1 79 = aI 8 sH → w1 80 = aI 64 (fun _ => 0) → ab_St MX8_init g 6 2040 93 [(0, .ref 74), (1, .int x), (2, .int y)] [.ref 80, .ref 74] 81 w1 (fun r N' w' => MH w' half rounds 0 (fun _ => 0) 0 (0, 0, 0, 0, 0, 0) (fun _ => 0) 0 0 0 0 ∧ (∀ k, k < 74 → w' k = w k) ∧ r = none ∧ 84 = N') := by
    intro w1 e74 eM e79 e80
    have ew : w1 = wu w1 80 (aI 64 (fl 0 sK (fun _ => 0))) := (wu_self (by rw [fl_0]; exact e80)).symm
    have hfl : fl 64 sK (fun _ => 0) = sK := fl_end fun k hk => by
      unfold sK
      rw [List.getD_eq_getElem?_getD, List.getElem?_eq_none (by exact hk)]
      rfl
    rw [ew]
    refine r_dup dX8_init_93 rfl ?_
    refine r_iconst (v := nI 0) dX8_init_94 (by decide) ?_
    refine r_ldc dX8_init_95 qX8_33 ?_
    refine r_toI (y := nI 1116352408) rfl ?_
    refine r_iastore dX8_init_97 (by repeat first | exact wu_eq | assumption | (apply wu_ne; first | omega | assumption | (apply Ne.symm; assumption))) _ rfl (by decide) (by decide) ?_
    rw [wu_wu, fl_up' (show nI 1116352408 = sK 0 by decide +kernel)]
    refine r_dup dX8_init_98 rfl ?_
    refine r_iconst (v := nI 1) dX8_init_99 (by decide) ?_
    refine r_ldc dX8_init_100 qX8_34 ?_
    refine r_toI (y := nI 1899447441) rfl ?_
    refine r_iastore dX8_init_102 (by repeat first | exact wu_eq | assumption | (apply wu_ne; first | omega | assumption | (apply Ne.symm; assumption))) _ rfl (by decide) (by decide) ?_
    rw [wu_wu, fl_up' (show nI 1899447441 = sK 1 by decide +kernel)]
    refine r_dup dX8_init_103 rfl ?_
    refine r_iconst (v := nI 2) dX8_init_104 (by decide) ?_
    refine r_ldc dX8_init_105 qX8_35 ?_
    refine r_iastore dX8_init_107 (by repeat first | exact wu_eq | assumption | (apply wu_ne; first | omega | assumption | (apply Ne.symm; assumption))) _ rfl (by decide) (by decide) ?_
    rw [wu_wu, fl_up' (show ((-1245643825) : Int32) = sK 2 by decide +kernel)]
    refine r_dup dX8_init_108 rfl ?_
    refine r_iconst (v := nI 3) dX8_init_109 (by decide) ?_
    refine r_ldc dX8_init_110 qX8_36 ?_
    refine r_iastore dX8_init_112 (by repeat first | exact wu_eq | assumption | (apply wu_ne; first | omega | assumption | (apply Ne.symm; assumption))) _ rfl (by decide) (by decide) ?_
    rw [wu_wu, fl_up' (show ((-373957723) : Int32) = sK 3 by decide +kernel)]
    refine r_dup dX8_init_113 rfl ?_
    refine r_iconst (v := nI 4) dX8_init_114 (by decide) ?_
    refine r_ldc dX8_init_115 qX8_37 ?_
    refine r_toI (y := nI 961987163) rfl ?_
    refine r_iastore dX8_init_117 (by repeat first | exact wu_eq | assumption | (apply wu_ne; first | omega | assumption | (apply Ne.symm; assumption))) _ rfl (by decide) (by decide) ?_
    rw [wu_wu, fl_up' (show nI 961987163 = sK 4 by decide +kernel)]
    refine r_dup dX8_init_118 rfl ?_
    refine r_iconst (v := nI 5) dX8_init_119 (by decide) ?_
    refine r_ldc dX8_init_120 qX8_38 ?_
    refine r_toI (y := nI 1508970993) rfl ?_
    refine r_iastore dX8_init_122 (by repeat first | exact wu_eq | assumption | (apply wu_ne; first | omega | assumption | (apply Ne.symm; assumption))) _ rfl (by decide) (by decide) ?_
    rw [wu_wu, fl_up' (show nI 1508970993 = sK 5 by decide +kernel)]
    refine r_dup dX8_init_123 rfl ?_
    refine r_bipush (v := nI 6) dX8_init_124 (by decide) ?_
    refine r_ldc dX8_init_126 qX8_39 ?_
    refine r_iastore dX8_init_128 (by repeat first | exact wu_eq | assumption | (apply wu_ne; first | omega | assumption | (apply Ne.symm; assumption))) _ rfl (by decide) (by decide) ?_
    rw [wu_wu, fl_up' (show ((-1841331548) : Int32) = sK 6 by decide +kernel)]
    refine r_dup dX8_init_129 rfl ?_
    refine r_bipush (v := nI 7) dX8_init_130 (by decide) ?_
    refine r_ldc dX8_init_132 qX8_40 ?_
    refine r_iastore dX8_init_134 (by repeat first | exact wu_eq | assumption | (apply wu_ne; first | omega | assumption | (apply Ne.symm; assumption))) _ rfl (by decide) (by decide) ?_
    rw [wu_wu, fl_up' (show ((-1424204075) : Int32) = sK 7 by decide +kernel)]
    refine r_dup dX8_init_135 rfl ?_
    refine r_bipush (v := nI 8) dX8_init_136 (by decide) ?_
    refine r_ldc dX8_init_138 qX8_41 ?_
    refine r_iastore dX8_init_140 (by repeat first | exact wu_eq | assumption | (apply wu_ne; first | omega | assumption | (apply Ne.symm; assumption))) _ rfl (by decide) (by decide) ?_
    rw [wu_wu, fl_up' (show ((-670586216) : Int32) = sK 8 by decide +kernel)]
    refine r_dup dX8_init_141 rfl ?_
    refine r_bipush (v := nI 9) dX8_init_142 (by decide) ?_
    refine r_ldc dX8_init_144 qX8_42 ?_
    refine r_toI (y := nI 310598401) rfl ?_
    refine r_iastore dX8_init_146 (by repeat first | exact wu_eq | assumption | (apply wu_ne; first | omega | assumption | (apply Ne.symm; assumption))) _ rfl (by decide) (by decide) ?_
    rw [wu_wu, fl_up' (show nI 310598401 = sK 9 by decide +kernel)]
    refine r_dup dX8_init_147 rfl ?_
    refine r_bipush (v := nI 10) dX8_init_148 (by decide) ?_
    refine r_ldc dX8_init_150 qX8_43 ?_
    refine r_toI (y := nI 607225278) rfl ?_
    refine r_iastore dX8_init_152 (by repeat first | exact wu_eq | assumption | (apply wu_ne; first | omega | assumption | (apply Ne.symm; assumption))) _ rfl (by decide) (by decide) ?_
    rw [wu_wu, fl_up' (show nI 607225278 = sK 10 by decide +kernel)]
    refine r_dup dX8_init_153 rfl ?_
    refine r_bipush (v := nI 11) dX8_init_154 (by decide) ?_
    refine r_ldc dX8_init_156 qX8_44 ?_
    refine r_toI (y := nI 1426881987) rfl ?_
    refine r_iastore dX8_init_158 (by repeat first | exact wu_eq | assumption | (apply wu_ne; first | omega | assumption | (apply Ne.symm; assumption))) _ rfl (by decide) (by decide) ?_
    rw [wu_wu, fl_up' (show nI 1426881987 = sK 11 by decide +kernel)]
    refine r_dup dX8_init_159 rfl ?_
    refine r_bipush (v := nI 12) dX8_init_160 (by decide) ?_
    refine r_ldc dX8_init_162 qX8_45 ?_
    refine r_toI (y := nI 1925078388) rfl ?_
    refine r_iastore dX8_init_164 (by repeat first | exact wu_eq | assumption | (apply wu_ne; first | omega | assumption | (apply Ne.symm; assumption))) _ rfl (by decide) (by decide) ?_
    rw [wu_wu, fl_up' (show nI 1925078388 = sK 12 by decide +kernel)]
    refine r_dup dX8_init_165 rfl ?_
    refine r_bipush (v := nI 13) dX8_init_166 (by decide) ?_
    refine r_ldc dX8_init_168 qX8_46 ?_
    refine r_iastore dX8_init_170 (by repeat first | exact wu_eq | assumption | (apply wu_ne; first | omega | assumption | (apply Ne.symm; assumption))) _ rfl (by decide) (by decide) ?_
    rw [wu_wu, fl_up' (show ((-2132889090) : Int32) = sK 13 by decide +kernel)]
    refine r_dup dX8_init_171 rfl ?_
    refine r_bipush (v := nI 14) dX8_init_172 (by decide) ?_
    refine r_ldc dX8_init_174 qX8_47 ?_
    refine r_iastore dX8_init_176 (by repeat first | exact wu_eq | assumption | (apply wu_ne; first | omega | assumption | (apply Ne.symm; assumption))) _ rfl (by decide) (by decide) ?_
    rw [wu_wu, fl_up' (show ((-1680079193) : Int32) = sK 14 by decide +kernel)]
    refine r_dup dX8_init_177 rfl ?_
    refine r_bipush (v := nI 15) dX8_init_178 (by decide) ?_
    refine r_ldc dX8_init_180 qX8_48 ?_
    refine r_iastore dX8_init_182 (by repeat first | exact wu_eq | assumption | (apply wu_ne; first | omega | assumption | (apply Ne.symm; assumption))) _ rfl (by decide) (by decide) ?_
    rw [wu_wu, fl_up' (show ((-1046744716) : Int32) = sK 15 by decide +kernel)]
    refine r_dup dX8_init_183 rfl ?_
    refine r_bipush (v := nI 16) dX8_init_184 (by decide) ?_
    refine r_ldc dX8_init_186 qX8_49 ?_
    refine r_iastore dX8_init_188 (by repeat first | exact wu_eq | assumption | (apply wu_ne; first | omega | assumption | (apply Ne.symm; assumption))) _ rfl (by decide) (by decide) ?_
    rw [wu_wu, fl_up' (show ((-459576895) : Int32) = sK 16 by decide +kernel)]
    refine r_dup dX8_init_189 rfl ?_
    refine r_bipush (v := nI 17) dX8_init_190 (by decide) ?_
    refine r_ldc dX8_init_192 qX8_50 ?_
    refine r_iastore dX8_init_194 (by repeat first | exact wu_eq | assumption | (apply wu_ne; first | omega | assumption | (apply Ne.symm; assumption))) _ rfl (by decide) (by decide) ?_
    rw [wu_wu, fl_up' (show ((-272742522) : Int32) = sK 17 by decide +kernel)]
    refine r_dup dX8_init_195 rfl ?_
    refine r_bipush (v := nI 18) dX8_init_196 (by decide) ?_
    refine r_ldc dX8_init_198 qX8_51 ?_
    refine r_toI (y := nI 264347078) rfl ?_
    refine r_iastore dX8_init_200 (by repeat first | exact wu_eq | assumption | (apply wu_ne; first | omega | assumption | (apply Ne.symm; assumption))) _ rfl (by decide) (by decide) ?_
    rw [wu_wu, fl_up' (show nI 264347078 = sK 18 by decide +kernel)]
    refine r_dup dX8_init_201 rfl ?_
    refine r_bipush (v := nI 19) dX8_init_202 (by decide) ?_
    refine r_ldc dX8_init_204 qX8_52 ?_
    refine r_toI (y := nI 604807628) rfl ?_
    refine r_iastore dX8_init_206 (by repeat first | exact wu_eq | assumption | (apply wu_ne; first | omega | assumption | (apply Ne.symm; assumption))) _ rfl (by decide) (by decide) ?_
    rw [wu_wu, fl_up' (show nI 604807628 = sK 19 by decide +kernel)]
    refine r_dup dX8_init_207 rfl ?_
    refine r_bipush (v := nI 20) dX8_init_208 (by decide) ?_
    refine r_ldc dX8_init_210 qX8_53 ?_
    refine r_toI (y := nI 770255983) rfl ?_
    refine r_iastore dX8_init_212 (by repeat first | exact wu_eq | assumption | (apply wu_ne; first | omega | assumption | (apply Ne.symm; assumption))) _ rfl (by decide) (by decide) ?_
    rw [wu_wu, fl_up' (show nI 770255983 = sK 20 by decide +kernel)]
    refine r_dup dX8_init_213 rfl ?_
    refine r_bipush (v := nI 21) dX8_init_214 (by decide) ?_
    refine r_ldc dX8_init_216 qX8_54 ?_
    refine r_toI (y := nI 1249150122) rfl ?_
    refine r_iastore dX8_init_218 (by repeat first | exact wu_eq | assumption | (apply wu_ne; first | omega | assumption | (apply Ne.symm; assumption))) _ rfl (by decide) (by decide) ?_
    rw [wu_wu, fl_up' (show nI 1249150122 = sK 21 by decide +kernel)]
    refine r_dup dX8_init_219 rfl ?_
    refine r_bipush (v := nI 22) dX8_init_220 (by decide) ?_
    refine r_ldc dX8_init_222 qX8_55 ?_
    refine r_toI (y := nI 1555081692) rfl ?_
    refine r_iastore dX8_init_224 (by repeat first | exact wu_eq | assumption | (apply wu_ne; first | omega | assumption | (apply Ne.symm; assumption))) _ rfl (by decide) (by decide) ?_
    rw [wu_wu, fl_up' (show nI 1555081692 = sK 22 by decide +kernel)]
    refine r_dup dX8_init_225 rfl ?_
    refine r_bipush (v := nI 23) dX8_init_226 (by decide) ?_
    refine r_ldc dX8_init_228 qX8_56 ?_
    refine r_toI (y := nI 1996064986) rfl ?_
    refine r_iastore dX8_init_230 (by repeat first | exact wu_eq | assumption | (apply wu_ne; first | omega | assumption | (apply Ne.symm; assumption))) _ rfl (by decide) (by decide) ?_
    rw [wu_wu, fl_up' (show nI 1996064986 = sK 23 by decide +kernel)]
    refine r_dup dX8_init_231 rfl ?_
    refine r_bipush (v := nI 24) dX8_init_232 (by decide) ?_
    refine r_ldc dX8_init_234 qX8_57 ?_
    refine r_iastore dX8_init_236 (by repeat first | exact wu_eq | assumption | (apply wu_ne; first | omega | assumption | (apply Ne.symm; assumption))) _ rfl (by decide) (by decide) ?_
    rw [wu_wu, fl_up' (show ((-1740746414) : Int32) = sK 24 by decide +kernel)]
    refine r_dup dX8_init_237 rfl ?_
    refine r_bipush (v := nI 25) dX8_init_238 (by decide) ?_
    refine r_ldc dX8_init_240 qX8_58 ?_
    refine r_iastore dX8_init_242 (by repeat first | exact wu_eq | assumption | (apply wu_ne; first | omega | assumption | (apply Ne.symm; assumption))) _ rfl (by decide) (by decide) ?_
    rw [wu_wu, fl_up' (show ((-1473132947) : Int32) = sK 25 by decide +kernel)]
    refine r_dup dX8_init_243 rfl ?_
    refine r_bipush (v := nI 26) dX8_init_244 (by decide) ?_
    refine r_ldc dX8_init_246 qX8_59 ?_
    refine r_iastore dX8_init_248 (by repeat first | exact wu_eq | assumption | (apply wu_ne; first | omega | assumption | (apply Ne.symm; assumption))) _ rfl (by decide) (by decide) ?_
    rw [wu_wu, fl_up' (show ((-1341970488) : Int32) = sK 26 by decide +kernel)]
    refine r_dup dX8_init_249 rfl ?_
    refine r_bipush (v := nI 27) dX8_init_250 (by decide) ?_
    refine r_ldc dX8_init_252 qX8_60 ?_
    refine r_iastore dX8_init_254 (by repeat first | exact wu_eq | assumption | (apply wu_ne; first | omega | assumption | (apply Ne.symm; assumption))) _ rfl (by decide) (by decide) ?_
    rw [wu_wu, fl_up' (show ((-1084653625) : Int32) = sK 27 by decide +kernel)]
    refine r_dup dX8_init_255 rfl ?_
    refine r_bipush (v := nI 28) dX8_init_256 (by decide) ?_
    refine r_ldc dX8_init_258 qX8_61 ?_
    refine r_iastore dX8_init_260 (by repeat first | exact wu_eq | assumption | (apply wu_ne; first | omega | assumption | (apply Ne.symm; assumption))) _ rfl (by decide) (by decide) ?_
    rw [wu_wu, fl_up' (show ((-958395405) : Int32) = sK 28 by decide +kernel)]
    refine r_dup dX8_init_261 rfl ?_
    refine r_bipush (v := nI 29) dX8_init_262 (by decide) ?_
    refine r_ldc dX8_init_264 qX8_62 ?_
    refine r_iastore dX8_init_266 (by repeat first | exact wu_eq | assumption | (apply wu_ne; first | omega | assumption | (apply Ne.symm; assumption))) _ rfl (by decide) (by decide) ?_
    rw [wu_wu, fl_up' (show ((-710438585) : Int32) = sK 29 by decide +kernel)]
    refine r_dup dX8_init_267 rfl ?_
    refine r_bipush (v := nI 30) dX8_init_268 (by decide) ?_
    refine r_ldc dX8_init_270 qX8_63 ?_
    refine r_toI (y := nI 113926993) rfl ?_
    refine r_iastore dX8_init_272 (by repeat first | exact wu_eq | assumption | (apply wu_ne; first | omega | assumption | (apply Ne.symm; assumption))) _ rfl (by decide) (by decide) ?_
    rw [wu_wu, fl_up' (show nI 113926993 = sK 30 by decide +kernel)]
    refine r_dup dX8_init_273 rfl ?_
    refine r_bipush (v := nI 31) dX8_init_274 (by decide) ?_
    refine r_ldc dX8_init_276 qX8_64 ?_
    refine r_toI (y := nI 338241895) rfl ?_
    refine r_iastore dX8_init_278 (by repeat first | exact wu_eq | assumption | (apply wu_ne; first | omega | assumption | (apply Ne.symm; assumption))) _ rfl (by decide) (by decide) ?_
    rw [wu_wu, fl_up' (show nI 338241895 = sK 31 by decide +kernel)]
    refine r_dup dX8_init_279 rfl ?_
    refine r_bipush (v := nI 32) dX8_init_280 (by decide) ?_
    refine r_ldc dX8_init_282 qX8_65 ?_
    refine r_toI (y := nI 666307205) rfl ?_
    refine r_iastore dX8_init_284 (by repeat first | exact wu_eq | assumption | (apply wu_ne; first | omega | assumption | (apply Ne.symm; assumption))) _ rfl (by decide) (by decide) ?_
    rw [wu_wu, fl_up' (show nI 666307205 = sK 32 by decide +kernel)]
    refine r_dup dX8_init_285 rfl ?_
    refine r_bipush (v := nI 33) dX8_init_286 (by decide) ?_
    refine r_ldc dX8_init_288 qX8_66 ?_
    refine r_toI (y := nI 773529912) rfl ?_
    refine r_iastore dX8_init_290 (by repeat first | exact wu_eq | assumption | (apply wu_ne; first | omega | assumption | (apply Ne.symm; assumption))) _ rfl (by decide) (by decide) ?_
    rw [wu_wu, fl_up' (show nI 773529912 = sK 33 by decide +kernel)]
    refine r_dup dX8_init_291 rfl ?_
    refine r_bipush (v := nI 34) dX8_init_292 (by decide) ?_
    refine r_ldc dX8_init_294 qX8_67 ?_
    refine r_toI (y := nI 1294757372) rfl ?_
    refine r_iastore dX8_init_296 (by repeat first | exact wu_eq | assumption | (apply wu_ne; first | omega | assumption | (apply Ne.symm; assumption))) _ rfl (by decide) (by decide) ?_
    rw [wu_wu, fl_up' (show nI 1294757372 = sK 34 by decide +kernel)]
    refine r_dup dX8_init_297 rfl ?_
    refine r_bipush (v := nI 35) dX8_init_298 (by decide) ?_
    refine r_ldc dX8_init_300 qX8_68 ?_
    refine r_toI (y := nI 1396182291) rfl ?_
    refine r_iastore dX8_init_302 (by repeat first | exact wu_eq | assumption | (apply wu_ne; first | omega | assumption | (apply Ne.symm; assumption))) _ rfl (by decide) (by decide) ?_
    rw [wu_wu, fl_up' (show nI 1396182291 = sK 35 by decide +kernel)]
    refine r_dup dX8_init_303 rfl ?_
    refine r_bipush (v := nI 36) dX8_init_304 (by decide) ?_
    refine r_ldc dX8_init_306 qX8_69 ?_
    refine r_toI (y := nI 1695183700) rfl ?_
    refine r_iastore dX8_init_308 (by repeat first | exact wu_eq | assumption | (apply wu_ne; first | omega | assumption | (apply Ne.symm; assumption))) _ rfl (by decide) (by decide) ?_
    rw [wu_wu, fl_up' (show nI 1695183700 = sK 36 by decide +kernel)]
    refine r_dup dX8_init_309 rfl ?_
    refine r_bipush (v := nI 37) dX8_init_310 (by decide) ?_
    refine r_ldc dX8_init_312 qX8_70 ?_
    refine r_toI (y := nI 1986661051) rfl ?_
    refine r_iastore dX8_init_314 (by repeat first | exact wu_eq | assumption | (apply wu_ne; first | omega | assumption | (apply Ne.symm; assumption))) _ rfl (by decide) (by decide) ?_
    rw [wu_wu, fl_up' (show nI 1986661051 = sK 37 by decide +kernel)]
    refine r_dup dX8_init_315 rfl ?_
    refine r_bipush (v := nI 38) dX8_init_316 (by decide) ?_
    refine r_ldc dX8_init_318 qX8_71 ?_
    refine r_iastore dX8_init_320 (by repeat first | exact wu_eq | assumption | (apply wu_ne; first | omega | assumption | (apply Ne.symm; assumption))) _ rfl (by decide) (by decide) ?_
    rw [wu_wu, fl_up' (show ((-2117940946) : Int32) = sK 38 by decide +kernel)]
    refine r_dup dX8_init_321 rfl ?_
    refine r_bipush (v := nI 39) dX8_init_322 (by decide) ?_
    refine r_ldc dX8_init_324 qX8_72 ?_
    refine r_iastore dX8_init_326 (by repeat first | exact wu_eq | assumption | (apply wu_ne; first | omega | assumption | (apply Ne.symm; assumption))) _ rfl (by decide) (by decide) ?_
    rw [wu_wu, fl_up' (show ((-1838011259) : Int32) = sK 39 by decide +kernel)]
    refine r_dup dX8_init_327 rfl ?_
    refine r_bipush (v := nI 40) dX8_init_328 (by decide) ?_
    refine r_ldc dX8_init_330 qX8_73 ?_
    refine r_iastore dX8_init_332 (by repeat first | exact wu_eq | assumption | (apply wu_ne; first | omega | assumption | (apply Ne.symm; assumption))) _ rfl (by decide) (by decide) ?_
    rw [wu_wu, fl_up' (show ((-1564481375) : Int32) = sK 40 by decide +kernel)]
    refine r_dup dX8_init_333 rfl ?_
    refine r_bipush (v := nI 41) dX8_init_334 (by decide) ?_
    refine r_ldc dX8_init_336 qX8_74 ?_
    refine r_iastore dX8_init_338 (by repeat first | exact wu_eq | assumption | (apply wu_ne; first | omega | assumption | (apply Ne.symm; assumption))) _ rfl (by decide) (by decide) ?_
    rw [wu_wu, fl_up' (show ((-1474664885) : Int32) = sK 41 by decide +kernel)]
    refine r_dup dX8_init_339 rfl ?_
    refine r_bipush (v := nI 42) dX8_init_340 (by decide) ?_
    refine r_ldc dX8_init_342 qX8_75 ?_
    refine r_iastore dX8_init_344 (by repeat first | exact wu_eq | assumption | (apply wu_ne; first | omega | assumption | (apply Ne.symm; assumption))) _ rfl (by decide) (by decide) ?_
    rw [wu_wu, fl_up' (show ((-1035236496) : Int32) = sK 42 by decide +kernel)]
    refine r_dup dX8_init_345 rfl ?_
    refine r_bipush (v := nI 43) dX8_init_346 (by decide) ?_
    refine r_ldc dX8_init_348 qX8_76 ?_
    refine r_iastore dX8_init_350 (by repeat first | exact wu_eq | assumption | (apply wu_ne; first | omega | assumption | (apply Ne.symm; assumption))) _ rfl (by decide) (by decide) ?_
    rw [wu_wu, fl_up' (show ((-949202525) : Int32) = sK 43 by decide +kernel)]
    refine r_dup dX8_init_351 rfl ?_
    refine r_bipush (v := nI 44) dX8_init_352 (by decide) ?_
    refine r_ldc dX8_init_354 qX8_77 ?_
    refine r_iastore dX8_init_356 (by repeat first | exact wu_eq | assumption | (apply wu_ne; first | omega | assumption | (apply Ne.symm; assumption))) _ rfl (by decide) (by decide) ?_
    rw [wu_wu, fl_up' (show ((-778901479) : Int32) = sK 44 by decide +kernel)]
    refine r_dup dX8_init_357 rfl ?_
    refine r_bipush (v := nI 45) dX8_init_358 (by decide) ?_
    refine r_ldc dX8_init_360 qX8_78 ?_
    refine r_iastore dX8_init_362 (by repeat first | exact wu_eq | assumption | (apply wu_ne; first | omega | assumption | (apply Ne.symm; assumption))) _ rfl (by decide) (by decide) ?_
    rw [wu_wu, fl_up' (show ((-694614492) : Int32) = sK 45 by decide +kernel)]
    refine r_dup dX8_init_363 rfl ?_
    refine r_bipush (v := nI 46) dX8_init_364 (by decide) ?_
    refine r_ldc dX8_init_366 qX8_79 ?_
    refine r_iastore dX8_init_368 (by repeat first | exact wu_eq | assumption | (apply wu_ne; first | omega | assumption | (apply Ne.symm; assumption))) _ rfl (by decide) (by decide) ?_
    rw [wu_wu, fl_up' (show ((-200395387) : Int32) = sK 46 by decide +kernel)]
    refine r_dup dX8_init_369 rfl ?_
    refine r_bipush (v := nI 47) dX8_init_370 (by decide) ?_
    refine r_ldc dX8_init_372 qX8_80 ?_
    refine r_toI (y := nI 275423344) rfl ?_
    refine r_iastore dX8_init_374 (by repeat first | exact wu_eq | assumption | (apply wu_ne; first | omega | assumption | (apply Ne.symm; assumption))) _ rfl (by decide) (by decide) ?_
    rw [wu_wu, fl_up' (show nI 275423344 = sK 47 by decide +kernel)]
    refine r_dup dX8_init_375 rfl ?_
    refine r_bipush (v := nI 48) dX8_init_376 (by decide) ?_
    refine r_ldc dX8_init_378 qX8_81 ?_
    refine r_toI (y := nI 430227734) rfl ?_
    refine r_iastore dX8_init_380 (by repeat first | exact wu_eq | assumption | (apply wu_ne; first | omega | assumption | (apply Ne.symm; assumption))) _ rfl (by decide) (by decide) ?_
    rw [wu_wu, fl_up' (show nI 430227734 = sK 48 by decide +kernel)]
    refine r_dup dX8_init_381 rfl ?_
    refine r_bipush (v := nI 49) dX8_init_382 (by decide) ?_
    refine r_ldc dX8_init_384 qX8_82 ?_
    refine r_toI (y := nI 506948616) rfl ?_
    refine r_iastore dX8_init_386 (by repeat first | exact wu_eq | assumption | (apply wu_ne; first | omega | assumption | (apply Ne.symm; assumption))) _ rfl (by decide) (by decide) ?_
    rw [wu_wu, fl_up' (show nI 506948616 = sK 49 by decide +kernel)]
    refine r_dup dX8_init_387 rfl ?_
    refine r_bipush (v := nI 50) dX8_init_388 (by decide) ?_
    refine r_ldc dX8_init_390 qX8_83 ?_
    refine r_toI (y := nI 659060556) rfl ?_
    refine r_iastore dX8_init_392 (by repeat first | exact wu_eq | assumption | (apply wu_ne; first | omega | assumption | (apply Ne.symm; assumption))) _ rfl (by decide) (by decide) ?_
    rw [wu_wu, fl_up' (show nI 659060556 = sK 50 by decide +kernel)]
    refine r_dup dX8_init_393 rfl ?_
    refine r_bipush (v := nI 51) dX8_init_394 (by decide) ?_
    refine r_ldc dX8_init_396 qX8_84 ?_
    refine r_toI (y := nI 883997877) rfl ?_
    refine r_iastore dX8_init_398 (by repeat first | exact wu_eq | assumption | (apply wu_ne; first | omega | assumption | (apply Ne.symm; assumption))) _ rfl (by decide) (by decide) ?_
    rw [wu_wu, fl_up' (show nI 883997877 = sK 51 by decide +kernel)]
    refine r_dup dX8_init_399 rfl ?_
    refine r_bipush (v := nI 52) dX8_init_400 (by decide) ?_
    refine r_ldc dX8_init_402 qX8_85 ?_
    refine r_toI (y := nI 958139571) rfl ?_
    refine r_iastore dX8_init_404 (by repeat first | exact wu_eq | assumption | (apply wu_ne; first | omega | assumption | (apply Ne.symm; assumption))) _ rfl (by decide) (by decide) ?_
    rw [wu_wu, fl_up' (show nI 958139571 = sK 52 by decide +kernel)]
    refine r_dup dX8_init_405 rfl ?_
    refine r_bipush (v := nI 53) dX8_init_406 (by decide) ?_
    refine r_ldc dX8_init_408 qX8_86 ?_
    refine r_toI (y := nI 1322822218) rfl ?_
    refine r_iastore dX8_init_410 (by repeat first | exact wu_eq | assumption | (apply wu_ne; first | omega | assumption | (apply Ne.symm; assumption))) _ rfl (by decide) (by decide) ?_
    rw [wu_wu, fl_up' (show nI 1322822218 = sK 53 by decide +kernel)]
    refine r_dup dX8_init_411 rfl ?_
    refine r_bipush (v := nI 54) dX8_init_412 (by decide) ?_
    refine r_ldc dX8_init_414 qX8_87 ?_
    refine r_toI (y := nI 1537002063) rfl ?_
    refine r_iastore dX8_init_416 (by repeat first | exact wu_eq | assumption | (apply wu_ne; first | omega | assumption | (apply Ne.symm; assumption))) _ rfl (by decide) (by decide) ?_
    rw [wu_wu, fl_up' (show nI 1537002063 = sK 54 by decide +kernel)]
    refine r_dup dX8_init_417 rfl ?_
    refine r_bipush (v := nI 55) dX8_init_418 (by decide) ?_
    refine r_ldc dX8_init_420 qX8_88 ?_
    refine r_toI (y := nI 1747873779) rfl ?_
    refine r_iastore dX8_init_422 (by repeat first | exact wu_eq | assumption | (apply wu_ne; first | omega | assumption | (apply Ne.symm; assumption))) _ rfl (by decide) (by decide) ?_
    rw [wu_wu, fl_up' (show nI 1747873779 = sK 55 by decide +kernel)]
    refine r_dup dX8_init_423 rfl ?_
    refine r_bipush (v := nI 56) dX8_init_424 (by decide) ?_
    refine r_ldc dX8_init_426 qX8_89 ?_
    refine r_toI (y := nI 1955562222) rfl ?_
    refine r_iastore dX8_init_428 (by repeat first | exact wu_eq | assumption | (apply wu_ne; first | omega | assumption | (apply Ne.symm; assumption))) _ rfl (by decide) (by decide) ?_
    rw [wu_wu, fl_up' (show nI 1955562222 = sK 56 by decide +kernel)]
    refine r_dup dX8_init_429 rfl ?_
    refine r_bipush (v := nI 57) dX8_init_430 (by decide) ?_
    refine r_ldc dX8_init_432 qX8_90 ?_
    refine r_toI (y := nI 2024104815) rfl ?_
    refine r_iastore dX8_init_434 (by repeat first | exact wu_eq | assumption | (apply wu_ne; first | omega | assumption | (apply Ne.symm; assumption))) _ rfl (by decide) (by decide) ?_
    rw [wu_wu, fl_up' (show nI 2024104815 = sK 57 by decide +kernel)]
    refine r_dup dX8_init_435 rfl ?_
    refine r_bipush (v := nI 58) dX8_init_436 (by decide) ?_
    refine r_ldc dX8_init_438 qX8_91 ?_
    refine r_iastore dX8_init_440 (by repeat first | exact wu_eq | assumption | (apply wu_ne; first | omega | assumption | (apply Ne.symm; assumption))) _ rfl (by decide) (by decide) ?_
    rw [wu_wu, fl_up' (show ((-2067236844) : Int32) = sK 58 by decide +kernel)]
    refine r_dup dX8_init_441 rfl ?_
    refine r_bipush (v := nI 59) dX8_init_442 (by decide) ?_
    refine r_ldc dX8_init_444 qX8_92 ?_
    refine r_iastore dX8_init_446 (by repeat first | exact wu_eq | assumption | (apply wu_ne; first | omega | assumption | (apply Ne.symm; assumption))) _ rfl (by decide) (by decide) ?_
    rw [wu_wu, fl_up' (show ((-1933114872) : Int32) = sK 59 by decide +kernel)]
    refine r_dup dX8_init_447 rfl ?_
    refine r_bipush (v := nI 60) dX8_init_448 (by decide) ?_
    refine r_ldc dX8_init_450 qX8_93 ?_
    refine r_iastore dX8_init_452 (by repeat first | exact wu_eq | assumption | (apply wu_ne; first | omega | assumption | (apply Ne.symm; assumption))) _ rfl (by decide) (by decide) ?_
    rw [wu_wu, fl_up' (show ((-1866530822) : Int32) = sK 60 by decide +kernel)]
    refine r_dup dX8_init_453 rfl ?_
    refine r_bipush (v := nI 61) dX8_init_454 (by decide) ?_
    refine r_ldc dX8_init_456 qX8_94 ?_
    refine r_iastore dX8_init_458 (by repeat first | exact wu_eq | assumption | (apply wu_ne; first | omega | assumption | (apply Ne.symm; assumption))) _ rfl (by decide) (by decide) ?_
    rw [wu_wu, fl_up' (show ((-1538233109) : Int32) = sK 61 by decide +kernel)]
    refine r_dup dX8_init_459 rfl ?_
    refine r_bipush (v := nI 62) dX8_init_460 (by decide) ?_
    refine r_ldc dX8_init_462 qX8_95 ?_
    refine r_iastore dX8_init_464 (by repeat first | exact wu_eq | assumption | (apply wu_ne; first | omega | assumption | (apply Ne.symm; assumption))) _ rfl (by decide) (by decide) ?_
    rw [wu_wu, fl_up' (show ((-1090935817) : Int32) = sK 62 by decide +kernel)]
    refine r_dup dX8_init_465 rfl ?_
    refine r_bipush (v := nI 63) dX8_init_466 (by decide) ?_
    refine r_ldc dX8_init_468 qX8_96 ?_
    refine r_iastore dX8_init_470 (by repeat first | exact wu_eq | assumption | (apply wu_ne; first | omega | assumption | (apply Ne.symm; assumption))) _ rfl (by decide) (by decide) ?_
    rw [wu_wu, fl_up' (show ((-965641998) : Int32) = sK 63 by decide +kernel)]
    refine r_putF dX8_init_471 fX8_97 (by repeat first | exact wu_eq | assumption | (apply wu_ne; first | omega | assumption | (apply Ne.symm; assumption))) rfl rfl rfl (by exact Nat.le_of_ble_eq_true rfl) (by rfl) (by rfl) ?_
    rw [hfl]
    refine r_aload_n dX8_init_474 rfl ?_
    refine r_bipush (v := nI 16) dX8_init_475 (by decide) ?_
    refine r_newaI dX8_init_477 rfl (by omega) arI (by decide) (by first | decide | (show _ ≤ 2376; omega)) ?_
    refine r_putF dX8_init_479 fX8_100 (by repeat first | exact wu_eq | assumption | (apply wu_ne; first | omega | assumption | (apply Ne.symm; assumption))) rfl rfl rfl (by exact Nat.le_of_ble_eq_true rfl) (by rfl) (by rfl) ?_
    refine r_aload_n dX8_init_482 rfl ?_
    refine r_sipush (v := nI 300) dX8_init_483 (by decide) ?_
    refine r_newaI dX8_init_486 rfl (by omega) arI (by decide) (by first | decide | (show _ ≤ 2376; omega)) ?_
    refine r_putF dX8_init_488 fX8_103 (by repeat first | exact wu_eq | assumption | (apply wu_ne; first | omega | assumption | (apply Ne.symm; assumption))) rfl rfl rfl (by exact Nat.le_of_ble_eq_true rfl) (by rfl) (by rfl) ?_
    refine r_aload_n dX8_init_491 rfl ?_
    refine r_bipush (v := nI 20) dX8_init_492 (by decide) ?_
    refine r_newaI dX8_init_494 rfl (by omega) arI (by decide) (by first | decide | (show _ ≤ 2376; omega)) ?_
    refine K496 _ ?_ ?_ ?_ ?_ ?_ ?_ ?_
    · (repeat first | exact wu_eq | assumption | (apply wu_ne; first | omega | assumption | (apply Ne.symm; assumption)))
    · refine eM.keep fun k a b => ?_
      repeat (first | rfl | (apply wu_ne; omega))
    · (repeat first | exact wu_eq | assumption | (apply wu_ne; first | omega | assumption | (apply Ne.symm; assumption)))
    · (repeat first | exact wu_eq | assumption | (apply wu_ne; first | omega | assumption | (apply Ne.symm; assumption)))
    · (repeat first | exact wu_eq | assumption | (apply wu_ne; first | omega | assumption | (apply Ne.symm; assumption)))
    · (repeat first | exact wu_eq | assumption | (apply wu_ne; first | omega | assumption | (apply Ne.symm; assumption)))
    · (repeat first | exact wu_eq | assumption | (apply wu_ne; first | omega | assumption | (apply Ne.symm; assumption)))
  clear K496
  have K43 : ∀ w1, w1 74 = aO 7 [.ref 75, .int 0, .int 0, .ref 76, .int 0, .ref 77, .ref 78, .null, .null, .null, .int 0, .int 0, .int 0, .int 0, .int 0, .int 0, .int 0, .int 0, .int 0, .int 0, .null, .int 0, .null] → MI w1 w → w1 79 = aI 8 (fun _ => 0) → ab_St MX8_init g 5 1976 43 [(0, .ref 74), (1, .int x), (2, .int y)] [.ref 79, .ref 74] 80 w1 (fun r N' w' => MH w' half rounds 0 (fun _ => 0) 0 (0, 0, 0, 0, 0, 0) (fun _ => 0) 0 0 0 0 ∧ (∀ k, k < 74 → w' k = w k) ∧ r = none ∧ 84 = N') := by
    intro w1 e74 eM e79
    have ew : w1 = wu w1 79 (aI 8 (fl 0 sH (fun _ => 0))) := (wu_self (by rw [fl_0]; exact e79)).symm
    have hfl : fl 8 sH (fun _ => 0) = sH := fl_end fun k hk => by
      unfold sH
      rw [List.getD_eq_getElem?_getD, List.getElem?_eq_none (by exact hk)]
      rfl
    rw [ew]
    refine r_dup dX8_init_43 rfl ?_
    refine r_iconst (v := nI 0) dX8_init_44 (by decide) ?_
    refine r_ldc dX8_init_45 qX8_22 ?_
    refine r_toI (y := nI 1779033703) rfl ?_
    refine r_iastore dX8_init_47 (by repeat first | exact wu_eq | assumption | (apply wu_ne; first | omega | assumption | (apply Ne.symm; assumption))) _ rfl (by decide) (by decide) ?_
    rw [wu_wu, fl_up' (show nI 1779033703 = sH 0 by decide +kernel)]
    refine r_dup dX8_init_48 rfl ?_
    refine r_iconst (v := nI 1) dX8_init_49 (by decide) ?_
    refine r_ldc dX8_init_50 qX8_23 ?_
    refine r_iastore dX8_init_52 (by repeat first | exact wu_eq | assumption | (apply wu_ne; first | omega | assumption | (apply Ne.symm; assumption))) _ rfl (by decide) (by decide) ?_
    rw [wu_wu, fl_up' (show ((-1150833019) : Int32) = sH 1 by decide +kernel)]
    refine r_dup dX8_init_53 rfl ?_
    refine r_iconst (v := nI 2) dX8_init_54 (by decide) ?_
    refine r_ldc dX8_init_55 qX8_24 ?_
    refine r_toI (y := nI 1013904242) rfl ?_
    refine r_iastore dX8_init_57 (by repeat first | exact wu_eq | assumption | (apply wu_ne; first | omega | assumption | (apply Ne.symm; assumption))) _ rfl (by decide) (by decide) ?_
    rw [wu_wu, fl_up' (show nI 1013904242 = sH 2 by decide +kernel)]
    refine r_dup dX8_init_58 rfl ?_
    refine r_iconst (v := nI 3) dX8_init_59 (by decide) ?_
    refine r_ldc dX8_init_60 qX8_25 ?_
    refine r_iastore dX8_init_62 (by repeat first | exact wu_eq | assumption | (apply wu_ne; first | omega | assumption | (apply Ne.symm; assumption))) _ rfl (by decide) (by decide) ?_
    rw [wu_wu, fl_up' (show ((-1521486534) : Int32) = sH 3 by decide +kernel)]
    refine r_dup dX8_init_63 rfl ?_
    refine r_iconst (v := nI 4) dX8_init_64 (by decide) ?_
    refine r_ldc dX8_init_65 qX8_26 ?_
    refine r_toI (y := nI 1359893119) rfl ?_
    refine r_iastore dX8_init_67 (by repeat first | exact wu_eq | assumption | (apply wu_ne; first | omega | assumption | (apply Ne.symm; assumption))) _ rfl (by decide) (by decide) ?_
    rw [wu_wu, fl_up' (show nI 1359893119 = sH 4 by decide +kernel)]
    refine r_dup dX8_init_68 rfl ?_
    refine r_iconst (v := nI 5) dX8_init_69 (by decide) ?_
    refine r_ldc dX8_init_70 qX8_27 ?_
    refine r_iastore dX8_init_72 (by repeat first | exact wu_eq | assumption | (apply wu_ne; first | omega | assumption | (apply Ne.symm; assumption))) _ rfl (by decide) (by decide) ?_
    rw [wu_wu, fl_up' (show ((-1694144372) : Int32) = sH 5 by decide +kernel)]
    refine r_dup dX8_init_73 rfl ?_
    refine r_bipush (v := nI 6) dX8_init_74 (by decide) ?_
    refine r_ldc dX8_init_76 qX8_28 ?_
    refine r_toI (y := nI 528734635) rfl ?_
    refine r_iastore dX8_init_78 (by repeat first | exact wu_eq | assumption | (apply wu_ne; first | omega | assumption | (apply Ne.symm; assumption))) _ rfl (by decide) (by decide) ?_
    rw [wu_wu, fl_up' (show nI 528734635 = sH 6 by decide +kernel)]
    refine r_dup dX8_init_79 rfl ?_
    refine r_bipush (v := nI 7) dX8_init_80 (by decide) ?_
    refine r_ldc dX8_init_82 qX8_29 ?_
    refine r_toI (y := nI 1541459225) rfl ?_
    refine r_iastore dX8_init_84 (by repeat first | exact wu_eq | assumption | (apply wu_ne; first | omega | assumption | (apply Ne.symm; assumption))) _ rfl (by decide) (by decide) ?_
    rw [wu_wu, fl_up' (show nI 1541459225 = sH 7 by decide +kernel)]
    refine r_putF dX8_init_85 fX8_30 (by repeat first | exact wu_eq | assumption | (apply wu_ne; first | omega | assumption | (apply Ne.symm; assumption))) rfl rfl rfl (by exact Nat.le_of_ble_eq_true rfl) (by rfl) (by rfl) ?_
    rw [hfl]
    refine r_aload_n dX8_init_88 rfl ?_
    refine r_bipush (v := nI 64) dX8_init_89 (by decide) ?_
    refine r_newaI dX8_init_91 rfl (by omega) arI (by decide) (by first | decide | (show _ ≤ 2376; omega)) ?_
    refine K93 _ ?_ ?_ ?_ ?_
    · (repeat first | exact wu_eq | assumption | (apply wu_ne; first | omega | assumption | (apply Ne.symm; assumption)))
    · refine eM.keep fun k a b => ?_
      repeat (first | rfl | (apply wu_ne; omega))
    · (repeat first | exact wu_eq | assumption | (apply wu_ne; first | omega | assumption | (apply Ne.symm; assumption)))
    · (repeat first | exact wu_eq | assumption | (apply wu_ne; first | omega | assumption | (apply Ne.symm; assumption)))
  clear K93
  refine ab_Ct.of (by decide +kernel) (Nat.le_of_ble_eq_true rfl) (by rintro _ _ _ ⟨-, -, rfl, -⟩; trivial) ?_
  show ab_St MX8_init g 0 0 0 [(0, .ref 74), (1, .int x), (2, .int y)] [] _ _ _
  refine r_aload_n dX8_init_0 rfl ?_
  refine r_obj dX8_init_1 obX8 obI obC (by decide) (by decide) ?_
  refine r_aload_n dX8_init_4 rfl ?_
  refine r_sipush (v := nI 1596) dX8_init_5 (by decide) ?_
  refine r_newaI dX8_init_8 rfl (by omega) arI (by decide) (by first | decide | (show _ ≤ 2376; omega)) ?_
  refine r_putF dX8_init_10 fX8_7 (by repeat first | exact wu_eq | assumption | (apply wu_ne; first | omega | assumption | (apply Ne.symm; assumption))) rfl rfl rfl (by exact Nat.le_of_ble_eq_true rfl) (by rfl) (by rfl) ?_
  refine r_aload_n dX8_init_13 rfl ?_
  refine r_sipush (v := nI 300) dX8_init_14 (by decide) ?_
  refine r_newaI dX8_init_17 rfl (by omega) arI (by decide) (by first | decide | (show _ ≤ 2376; omega)) ?_
  refine r_putF dX8_init_19 fX8_13 (by repeat first | exact wu_eq | assumption | (apply wu_ne; first | omega | assumption | (apply Ne.symm; assumption))) rfl rfl rfl (by exact Nat.le_of_ble_eq_true rfl) (by rfl) (by rfl) ?_
  refine r_aload_n dX8_init_22 rfl ?_
  refine r_bipush (v := nI 8) dX8_init_23 (by decide) ?_
  refine r_newaI dX8_init_25 rfl (by omega) arI (by decide) (by first | decide | (show _ ≤ 2376; omega)) ?_
  refine r_putF dX8_init_27 fX8_16 (by repeat first | exact wu_eq | assumption | (apply wu_ne; first | omega | assumption | (apply Ne.symm; assumption))) rfl rfl rfl (by exact Nat.le_of_ble_eq_true rfl) (by rfl) (by rfl) ?_
  refine r_aload_n dX8_init_30 rfl ?_
  refine r_bipush (v := nI 64) dX8_init_31 (by decide) ?_
  refine r_newaI dX8_init_33 rfl (by omega) arI (by decide) (by first | decide | (show _ ≤ 2376; omega)) ?_
  refine r_putF dX8_init_35 fX8_19 (by repeat first | exact wu_eq | assumption | (apply wu_ne; first | omega | assumption | (apply Ne.symm; assumption))) rfl rfl rfl (by exact Nat.le_of_ble_eq_true rfl) (by rfl) (by rfl) ?_
  refine r_aload_n dX8_init_38 rfl ?_
  refine r_bipush (v := nI 8) dX8_init_39 (by decide) ?_
  refine r_newaI dX8_init_41 rfl (by omega) arI (by decide) (by first | decide | (show _ ≤ 2376; omega)) ?_
  refine K43 _ ?_ ⟨?_, ?_, ?_, ?_, fun k a => ?_⟩ ?_
  · (repeat first | exact wu_eq | assumption | (apply wu_ne; first | omega | assumption | (apply Ne.symm; assumption)))
  · (repeat first | exact wu_eq | assumption | (apply wu_ne; first | omega | assumption | (apply Ne.symm; assumption)))
  · (repeat first | exact wu_eq | assumption | (apply wu_ne; first | omega | assumption | (apply Ne.symm; assumption)))
  · (repeat first | exact wu_eq | assumption | (apply wu_ne; first | omega | assumption | (apply Ne.symm; assumption)))
  · (repeat first | exact wu_eq | assumption | (apply wu_ne; first | omega | assumption | (apply Ne.symm; assumption)))
  · repeat (first | rfl | (apply wu_ne; omega))
  · (repeat first | exact wu_eq | assumption | (apply wu_ne; first | omega | assumption | (apply Ne.symm; assumption)))
