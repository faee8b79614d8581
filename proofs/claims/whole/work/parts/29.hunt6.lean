/-! SignHouse$Hunt: the maker -/
set_option maxRecDepth 100000 in
set_option maxHeartbeats 4000000 in
theorem c_Hunt_init {g : ab_G} {half rounds W : Nat} {w : ab_W} (h13 : w 13 = aO 1 [.null, .int 0, .int 0, .null, .null, .null, .null, .null, .null, .null, .int 0, .int 0, .int 0, .int 0]) (hW : W = (half + 3) / 4) (h1 : 31 ≤ half) (h2 : half ≤ 40) (h3 : rounds ≤ 8) : ab_Ct MX1_init g [.ref 13, .ref 8, .int (nI half), .int (nI W), .int (nI rounds)] 14 w (fun r N' w' => HS w' half rounds W 0 0 0 0 0 0 ∧ (∀ k, k < 13 → w' k = w k) ∧ r = none ∧ 28 = N') := by
  have hmax : (if nI 1 < nI W then nI W else nI 1) = nI W := by
    rw [if_pos ((nI_ltI (by decide) (by omega)).mpr (by omega))]
  refine ab_Ct.of (by decide +kernel) (Nat.le_of_ble_eq_true rfl) (by rintro _ _ _ ⟨-, -, rfl, -⟩; trivial) ?_
  show ab_St MX1_init g 0 0 0 [(0, .ref 13), (1, .ref 8), (2, .int (nI half)), (3, .int (nI W)), (4, .int (nI rounds))] [] _ _ _
  refine r_aload_n dX1_init_0 rfl ?_
  refine r_obj dX1_init_1 obX1 obI obC (by decide) (by decide) ?_
  refine r_aload_n dX1_init_4 rfl ?_
  refine r_aload_n dX1_init_5 rfl ?_
  refine r_putF dX1_init_6 fX1_7 (by repeat first | exact wu_eq | assumption | (apply wu_ne; first | omega | assumption | (apply Ne.symm; assumption))) rfl rfl rfl (by exact Nat.le_of_ble_eq_true rfl) (by rfl) (by rfl) ?_
  refine r_aload_n dX1_init_9 rfl ?_
  refine r_iload_n dX1_init_10 rfl ?_
  refine r_putF dX1_init_11 fX1_13 (by repeat first | exact wu_eq | assumption | (apply wu_ne; first | omega | assumption | (apply Ne.symm; assumption))) rfl rfl rfl (by exact Nat.le_of_ble_eq_true rfl) (by rfl) (by rfl) ?_
  refine r_aload_n dX1_init_14 rfl ?_
  refine r_iload dX1_init_15 rfl ?_
  refine r_putF dX1_init_17 fX1_17 (by repeat first | exact wu_eq | assumption | (apply wu_ne; first | omega | assumption | (apply Ne.symm; assumption))) rfl rfl rfl (by exact Nat.le_of_ble_eq_true rfl) (by rfl) (by rfl) ?_
  refine r_iconst (v := nI 1) dX1_init_20 (by decide) ?_
  refine r_iload_n dX1_init_21 rfl ?_
  refine r_max dX1_init_22 kX1_20 (by decide) (Nat.le_of_ble_eq_true rfl) (by decide) (by decide) ?_
  rw [hmax]
  refine r_istore (i := 5) (L0 := [(0, _), (1, _), (2, _), (3, _), (4, _)]) dX1_init_25 (by decide) rfl ?_
  refine r_aload_n dX1_init_27 rfl ?_
  refine r_new (fs := [.int 0, .null, .null, .null, .null, .null, .null, .null, .long 0]) dX1_init_28 (ci := 4) rfl iwX4 tyX4_ok nX1_26 itX4 iiX4 (by decide) rfl (by decide) (by decide) ?_
  refine r_dup dX1_init_31 rfl ?_
  refine r_iload dX1_init_32 rfl ?_
  refine r_invI dX1_init_34 kX1_28 rfl (c_Modulus_init (M := 14) (W := W) (by repeat first | exact wu_eq | assumption | (apply wu_ne; first | omega | assumption | (apply Ne.symm; assumption))) (by omega) (by omega)) rfl rfl ⟨by decide, by decide⟩ (Nat.le_of_ble_eq_true rfl) ⟨by decide, by decide⟩ ⟨rfl, rfl⟩ ?_
  rintro _ _ w1 ⟨m1, f1, rfl, rfl⟩
  have e13 := f1 13 (by decide)
  rw [wu_ne (by decide) rfl, wu_eq] at e13
  have hp : 0 < 4294967296 ^ W := Nat.pow_pos (by decide)
  have hp2 : 0 < 256 ^ half := Nat.pow_pos (by decide)
  have hz : (mZ MX4_init).slots ≤ 142 := by decide
  refine r_putF dX1_init_37 fX1_31 (by repeat first | exact wu_eq | assumption | (apply wu_ne; first | omega | assumption | (apply Ne.symm; assumption))) rfl rfl rfl (by exact Nat.le_of_ble_eq_true rfl) (by rfl) (by rfl) ?_
  refine r_aload_n dX1_init_40 rfl ?_
  refine r_iload dX1_init_41 rfl ?_
  refine r_newaJ dX1_init_43 rfl (by omega) arJ (by decide) (by first | decide | (show _ ≤ 211; omega)) ?_
  refine r_putF dX1_init_45 fX1_35 (by repeat first | exact wu_eq | assumption | (apply wu_ne; first | omega | assumption | (apply Ne.symm; assumption))) rfl rfl rfl (by exact Nat.le_of_ble_eq_true rfl) (by rfl) (by rfl) ?_
  refine r_aload_n dX1_init_48 rfl ?_
  refine r_iload dX1_init_49 rfl ?_
  refine r_newaJ dX1_init_51 rfl (by omega) arJ (by decide) (by first | decide | (show _ ≤ 211; omega)) ?_
  refine r_putF dX1_init_53 fX1_39 (by repeat first | exact wu_eq | assumption | (apply wu_ne; first | omega | assumption | (apply Ne.symm; assumption))) rfl rfl rfl (by exact Nat.le_of_ble_eq_true rfl) (by rfl) (by rfl) ?_
  refine r_aload_n dX1_init_56 rfl ?_
  refine r_iload dX1_init_57 rfl ?_
  refine r_newaJ dX1_init_59 rfl (by omega) arJ (by decide) (by first | decide | (show _ ≤ 211; omega)) ?_
  refine r_putF dX1_init_61 fX1_42 (by repeat first | exact wu_eq | assumption | (apply wu_ne; first | omega | assumption | (apply Ne.symm; assumption))) rfl rfl rfl (by exact Nat.le_of_ble_eq_true rfl) (by rfl) (by rfl) ?_
  refine r_aload_n dX1_init_64 rfl ?_
  refine r_iload dX1_init_65 rfl ?_
  refine r_newaJ dX1_init_67 rfl (by omega) arJ (by decide) (by first | decide | (show _ ≤ 211; omega)) ?_
  refine r_putF dX1_init_69 fX1_45 (by repeat first | exact wu_eq | assumption | (apply wu_ne; first | omega | assumption | (apply Ne.symm; assumption))) rfl rfl rfl (by exact Nat.le_of_ble_eq_true rfl) (by rfl) (by rfl) ?_
  refine r_aload_n dX1_init_72 rfl ?_
  refine r_iload dX1_init_73 rfl ?_
  refine r_newaJ dX1_init_75 rfl (by omega) arJ (by decide) (by first | decide | (show _ ≤ 211; omega)) ?_
  refine r_putF dX1_init_77 fX1_48 (by repeat first | exact wu_eq | assumption | (apply wu_ne; first | omega | assumption | (apply Ne.symm; assumption))) rfl rfl rfl (by exact Nat.le_of_ble_eq_true rfl) (by rfl) (by rfl) ?_
  refine r_aload_n dX1_init_80 rfl ?_
  refine r_iload dX1_init_81 rfl ?_
  refine r_newaJ dX1_init_83 rfl (by omega) arJ (by decide) (by first | decide | (show _ ≤ 211; omega)) ?_
  refine r_putF dX1_init_85 fX1_51 (by repeat first | exact wu_eq | assumption | (apply wu_ne; first | omega | assumption | (apply Ne.symm; assumption))) rfl rfl rfl (by exact Nat.le_of_ble_eq_true rfl) (by rfl) (by rfl) ?_
  refine r_ret (r := none) dX1_init_88 (by decide) (by first | decide | (show _ ≤ 211; omega)) ?_
  refine ⟨⟨?_, m1.keep fun k a b => ?_, ⟨0, 0, 0, ?_, ?_, ?_, hp, hp, hp⟩, ⟨0, ?_, hp2⟩, ?_, ?_, hp, hp, hW, h1, h2, h3, by decide, by decide⟩, ?_, rfl, rfl⟩
  · exact wu_eq
  · repeat (first | rfl | (apply wu_ne; omega))
  · rw [aN_0]; (repeat first | exact wu_eq | assumption | (apply wu_ne; first | omega | assumption | (apply Ne.symm; assumption)))
  · rw [aN_0]; (repeat first | exact wu_eq | assumption | (apply wu_ne; first | omega | assumption | (apply Ne.symm; assumption)))
  · rw [aN_0]; (repeat first | exact wu_eq | assumption | (apply wu_ne; first | omega | assumption | (apply Ne.symm; assumption)))
  · rw [aN_0]; (repeat first | exact wu_eq | assumption | (apply wu_ne; first | omega | assumption | (apply Ne.symm; assumption)))
  · rw [aN_0]; (repeat first | exact wu_eq | assumption | (apply wu_ne; first | omega | assumption | (apply Ne.symm; assumption)))
  · rw [aN_0]; (repeat first | exact wu_eq | assumption | (apply wu_ne; first | omega | assumption | (apply Ne.symm; assumption)))
  · intro k hk
    refine Eq.trans ?_ ((f1 k (by omega)).trans ?_)
    · repeat (first | rfl | (apply wu_ne; omega))
    · repeat (first | rfl | (apply wu_ne; omega))
