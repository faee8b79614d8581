/-! SignHouse$Modulus: the constructor -/
theorem rJ_0 : rJ 0 = fun _ => 0 := by
  funext k
  unfold rJ
  rw [dg_big (b := 4294967296) (v := 0) (n := 0) (by decide) (by omega) (by decide)]
  rfl
theorem aN_0 (n : Nat) : aN n 0 = aJ n (fun _ => 0) := by
  show aJ n (rJ 0) = _
  rw [rJ_0]
set_option maxRecDepth 100000 in
set_option maxHeartbeats 4000000 in
theorem c_Modulus_init {g : ab_G} {M W : Nat} {w : ab_W} (hM : w M = aO 4 [.int 0, .null, .null, .null, .null, .null, .null, .null, .long 0]) (h1 : 1 ≤ W) (hW : W ≤ 20) : ab_Ct MX4_init g [.ref M, .int (nI W)] (M + 1) w (fun r N' w' => MSH w' M W ∧ (∀ k, k < M → w' k = w k) ∧ r = none ∧ M + 8 = N') := by
  have hmax : (if nI 1 < nI W then nI W else nI 1) = nI W := by
    by_cases h : 1 < W
    · rw [if_pos ((nI_ltI (by decide) (by omega)).mpr h)]
    · rw [show W = 1 by omega]
      split <;> rfl
  refine ab_Ct.of (by decide +kernel) (Nat.le_of_ble_eq_true rfl) (by rintro _ _ _ ⟨-, -, rfl, -⟩; trivial) ?_
  show ab_St MX4_init g 0 0 0 [(0, .ref M), (1, .int (nI W))] [] _ _ _
  refine r_aload_n dX4_init_0 rfl ?_
  refine r_obj dX4_init_1 obX4 obI obC (by decide) (by decide) ?_
  refine r_aload_n dX4_init_4 rfl ?_
  refine r_iconst (v := nI 1) dX4_init_5 (by decide) ?_
  refine r_iload_n dX4_init_6 rfl ?_
  refine r_max dX4_init_7 kX4_7 (by decide) (Nat.le_of_ble_eq_true rfl) (by decide) (by decide) ?_
  rw [hmax]
  refine r_putF dX4_init_10 fX4_13 (by repeat first | exact wu_eq | assumption | (apply wu_ne; first | omega | assumption | (apply Ne.symm; assumption))) rfl rfl rfl (by exact Nat.le_of_ble_eq_true rfl) (by rfl) (by rfl) ?_
  refine r_aload_n dX4_init_13 rfl ?_
  refine r_aload_n dX4_init_14 rfl ?_
  refine r_getf dX4_init_15 fX4_13 (by repeat first | exact wu_eq | assumption | (apply wu_ne; first | omega | assumption | (apply Ne.symm; assumption))) (by rfl) ?_
  refine r_newaJ dX4_init_18 rfl (by omega) arJ (by decide) (by first | decide | (show _ ≤ 142; omega)) ?_
  refine r_putF dX4_init_20 fX4_19 (by repeat first | exact wu_eq | assumption | (apply wu_ne; first | omega | assumption | (apply Ne.symm; assumption))) rfl rfl rfl (by exact Nat.le_of_ble_eq_true rfl) (by rfl) (by rfl) ?_
  refine r_aload_n dX4_init_23 rfl ?_
  refine r_aload_n dX4_init_24 rfl ?_
  refine r_getf dX4_init_25 fX4_13 (by repeat first | exact wu_eq | assumption | (apply wu_ne; first | omega | assumption | (apply Ne.symm; assumption))) (by rfl) ?_
  refine r_newaJ dX4_init_28 rfl (by omega) arJ (by decide) (by first | decide | (show _ ≤ 142; omega)) ?_
  refine r_putF dX4_init_30 fX4_23 (by repeat first | exact wu_eq | assumption | (apply wu_ne; first | omega | assumption | (apply Ne.symm; assumption))) rfl rfl rfl (by exact Nat.le_of_ble_eq_true rfl) (by rfl) (by rfl) ?_
  refine r_aload_n dX4_init_33 rfl ?_
  refine r_aload_n dX4_init_34 rfl ?_
  refine r_getf dX4_init_35 fX4_13 (by repeat first | exact wu_eq | assumption | (apply wu_ne; first | omega | assumption | (apply Ne.symm; assumption))) (by rfl) ?_
  refine r_newaJ dX4_init_38 rfl (by omega) arJ (by decide) (by first | decide | (show _ ≤ 142; omega)) ?_
  refine r_putF dX4_init_40 fX4_26 (by repeat first | exact wu_eq | assumption | (apply wu_ne; first | omega | assumption | (apply Ne.symm; assumption))) rfl rfl rfl (by exact Nat.le_of_ble_eq_true rfl) (by rfl) (by rfl) ?_
  refine r_aload_n dX4_init_43 rfl ?_
  refine r_aload_n dX4_init_44 rfl ?_
  refine r_getf dX4_init_45 fX4_13 (by repeat first | exact wu_eq | assumption | (apply wu_ne; first | omega | assumption | (apply Ne.symm; assumption))) (by rfl) ?_
  refine r_newaJ dX4_init_48 rfl (by omega) arJ (by decide) (by first | decide | (show _ ≤ 142; omega)) ?_
  refine r_putF dX4_init_50 fX4_29 (by repeat first | exact wu_eq | assumption | (apply wu_ne; first | omega | assumption | (apply Ne.symm; assumption))) rfl rfl rfl (by exact Nat.le_of_ble_eq_true rfl) (by rfl) (by rfl) ?_
  refine r_aload_n dX4_init_53 rfl ?_
  refine r_aload_n dX4_init_54 rfl ?_
  refine r_getf dX4_init_55 fX4_13 (by repeat first | exact wu_eq | assumption | (apply wu_ne; first | omega | assumption | (apply Ne.symm; assumption))) (by rfl) ?_
  refine r_newaJ dX4_init_58 rfl (by omega) arJ (by decide) (by first | decide | (show _ ≤ 142; omega)) ?_
  refine r_putF dX4_init_60 fX4_32 (by repeat first | exact wu_eq | assumption | (apply wu_ne; first | omega | assumption | (apply Ne.symm; assumption))) rfl rfl rfl (by exact Nat.le_of_ble_eq_true rfl) (by rfl) (by rfl) ?_
  refine r_aload_n dX4_init_63 rfl ?_
  refine r_aload_n dX4_init_64 rfl ?_
  refine r_getf dX4_init_65 fX4_13 (by repeat first | exact wu_eq | assumption | (apply wu_ne; first | omega | assumption | (apply Ne.symm; assumption))) (by rfl) ?_
  refine r_newaJ dX4_init_68 rfl (by omega) arJ (by decide) (by first | decide | (show _ ≤ 142; omega)) ?_
  refine r_putF dX4_init_70 fX4_35 (by repeat first | exact wu_eq | assumption | (apply wu_ne; first | omega | assumption | (apply Ne.symm; assumption))) rfl rfl rfl (by exact Nat.le_of_ble_eq_true rfl) (by rfl) (by rfl) ?_
  refine r_aload_n dX4_init_73 rfl ?_
  refine r_aload_n dX4_init_74 rfl ?_
  refine r_getf dX4_init_75 fX4_13 (by repeat first | exact wu_eq | assumption | (apply wu_ne; first | omega | assumption | (apply Ne.symm; assumption))) (by rfl) ?_
  refine r_iconst (v := nI 2) dX4_init_78 (by decide) ?_
  first | refine r_iaddN dX4_init_79 ?_ | refine r_iadd dX4_init_79 ?_
  refine r_newaJ dX4_init_80 rfl (by omega) arJ (by decide) (by first | decide | (show _ ≤ 142; omega)) ?_
  refine r_putF dX4_init_82 fX4_38 (by repeat first | exact wu_eq | assumption | (apply wu_ne; first | omega | assumption | (apply Ne.symm; assumption))) rfl rfl rfl (by exact Nat.le_of_ble_eq_true rfl) (by rfl) (by rfl) ?_
  refine r_ret (r := none) dX4_init_85 (by decide) (by first | decide | (show _ ≤ 142; omega)) ?_
  have hp : 0 < 4294967296 ^ W := Nat.pow_pos (by decide)
  have hp2 : 0 < 4294967296 ^ (W + 2) := Nat.pow_pos (by decide)
  refine ⟨⟨0, 0, 0, 0, 0, 0, 0, 0, ?_, ?_, ?_, ?_, ?_, ?_, ?_, ?_, hp, hp, hp, hp, hp, hp, hp2, h1, by omega⟩, ?_, rfl, rfl⟩
  · exact wu_eq
  · rw [aN_0]; (repeat first | exact wu_eq | assumption | (apply wu_ne; first | omega | assumption | (apply Ne.symm; assumption)))
  · rw [aN_0]; (repeat first | exact wu_eq | assumption | (apply wu_ne; first | omega | assumption | (apply Ne.symm; assumption)))
  · rw [aN_0]; (repeat first | exact wu_eq | assumption | (apply wu_ne; first | omega | assumption | (apply Ne.symm; assumption)))
  · rw [aN_0]; (repeat first | exact wu_eq | assumption | (apply wu_ne; first | omega | assumption | (apply Ne.symm; assumption)))
  · rw [aN_0]; (repeat first | exact wu_eq | assumption | (apply wu_ne; first | omega | assumption | (apply Ne.symm; assumption)))
  · rw [aN_0]; (repeat first | exact wu_eq | assumption | (apply wu_ne; first | omega | assumption | (apply Ne.symm; assumption)))
  · rw [aN_0]; (repeat first | exact wu_eq | assumption | (apply wu_ne; first | omega | assumption | (apply Ne.symm; assumption)))
  · intro k hk
    repeat (first | rfl | (apply wu_ne; omega))
