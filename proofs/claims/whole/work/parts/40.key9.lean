/-! SignHouse$KeyRows: part -/
set_option maxRecDepth 100000 in
set_option maxHeartbeats 4000000 in
theorem c_part {g : ab_G} {N made k : Nat} {w : ab_W} (h : w 28 = krO made) (hk : k < 7) : ab_Ct MX2_part g [.ref 28, .int (nI k)] N w (rp (some (.ref (53 + k))) N w) := by
  refine ab_Ct.of (by decide +kernel) (Nat.le_of_ble_eq_true rfl) (by rintro _ _ _ ⟨rfl, rfl, rfl⟩; trivial) ?_
  show ab_St MX2_part g 0 0 0 [(0, .ref 28), (1, .int (nI k))] [] _ _ _
  refine r_iload_n dX2_part_0 rfl ?_
  rcases (by omega : k = 0 ∨ k = 1 ∨ k = 2 ∨ k = 3 ∨ k = 4 ∨ k = 5 ∨ k = 6) with rfl | rfl | rfl | rfl | rfl | rfl | rfl
  · refine r_tabIn (off := 39) (tgt := 40) dX2_part_1 (by decide) (by decide) rfl rfl ?_
    refine r_aload_n dX2_part_40 rfl ?_
    refine r_getf dX2_part_41 fX2_30 (by repeat first | exact wu_eq | assumption | (apply wu_ne; first | omega | assumption | (apply Ne.symm; assumption))) (by rfl) ?_
    refine r_ret (r := (some (.ref _))) dX2_part_44 (by decide) (by decide) ?_
    exact ⟨rfl, rfl, rfl⟩
  · refine r_tabIn (off := 44) (tgt := 45) dX2_part_1 (by decide) (by decide) rfl rfl ?_
    refine r_aload_n dX2_part_45 rfl ?_
    refine r_getf dX2_part_46 fX2_34 (by repeat first | exact wu_eq | assumption | (apply wu_ne; first | omega | assumption | (apply Ne.symm; assumption))) (by rfl) ?_
    refine r_ret (r := (some (.ref _))) dX2_part_49 (by decide) (by decide) ?_
    exact ⟨rfl, rfl, rfl⟩
  · refine r_tabIn (off := 49) (tgt := 50) dX2_part_1 (by decide) (by decide) rfl rfl ?_
    refine r_aload_n dX2_part_50 rfl ?_
    refine r_getf dX2_part_51 fX2_37 (by repeat first | exact wu_eq | assumption | (apply wu_ne; first | omega | assumption | (apply Ne.symm; assumption))) (by rfl) ?_
    refine r_ret (r := (some (.ref _))) dX2_part_54 (by decide) (by decide) ?_
    exact ⟨rfl, rfl, rfl⟩
  · refine r_tabIn (off := 54) (tgt := 55) dX2_part_1 (by decide) (by decide) rfl rfl ?_
    refine r_aload_n dX2_part_55 rfl ?_
    refine r_getf dX2_part_56 fX2_40 (by repeat first | exact wu_eq | assumption | (apply wu_ne; first | omega | assumption | (apply Ne.symm; assumption))) (by rfl) ?_
    refine r_ret (r := (some (.ref _))) dX2_part_59 (by decide) (by decide) ?_
    exact ⟨rfl, rfl, rfl⟩
  · refine r_tabIn (off := 59) (tgt := 60) dX2_part_1 (by decide) (by decide) rfl rfl ?_
    refine r_aload_n dX2_part_60 rfl ?_
    refine r_getf dX2_part_61 fX2_43 (by repeat first | exact wu_eq | assumption | (apply wu_ne; first | omega | assumption | (apply Ne.symm; assumption))) (by rfl) ?_
    refine r_ret (r := (some (.ref _))) dX2_part_64 (by decide) (by decide) ?_
    exact ⟨rfl, rfl, rfl⟩
  · refine r_tabIn (off := 64) (tgt := 65) dX2_part_1 (by decide) (by decide) rfl rfl ?_
    refine r_aload_n dX2_part_65 rfl ?_
    refine r_getf dX2_part_66 fX2_46 (by repeat first | exact wu_eq | assumption | (apply wu_ne; first | omega | assumption | (apply Ne.symm; assumption))) (by rfl) ?_
    refine r_ret (r := (some (.ref _))) dX2_part_69 (by decide) (by decide) ?_
    exact ⟨rfl, rfl, rfl⟩
  · refine r_tabOut (tgt := 70) dX2_part_1 (by decide) rfl ?_
    refine r_aload_n dX2_part_70 rfl ?_
    refine r_getf dX2_part_71 fX2_49 (by repeat first | exact wu_eq | assumption | (apply wu_ne; first | omega | assumption | (apply Ne.symm; assumption))) (by rfl) ?_
    refine r_ret (r := (some (.ref _))) dX2_part_74 (by decide) (by decide) ?_
    exact ⟨rfl, rfl, rfl⟩
