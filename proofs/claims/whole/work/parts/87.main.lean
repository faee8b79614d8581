/-! SignHouseLaw: its loop, its body -/
set_option maxRecDepth 100000 in
set_option maxHeartbeats 4000000 in
theorem l_loop {g : ab_G} {L : Nat} {xs : Nat → Int32} (h6 : gX g 6 = xI L xs) (hL : L ≤ 2050) : ∀ n i, L ≤ i + 4 * n → 2 ≤ i → i < 3000 → ∀ w, LI w → ab_St ML_law g 77 3861 38 [(3, .int (nI i)), (2, .ref 74), (1, .ref 7), (0, .ref 6)] [] 84 w (fun r _ _ => r = some (.int (nI 1))) := by
  intro n
  induction n with
  | zero =>
    intro i hn h2 hi w hw
    refine r_low fun low => ?_
    have e6 := (low 6 (by decide)).trans h6
    by_cases hL4 : 4 ≤ L
    · refine r_iload_n dL_law_38 rfl ?_
      refine r_aload_n dL_law_39 rfl ?_
      refine r_alen' dL_law_40 (by repeat first | exact wu_eq | assumption | (apply wu_ne; first | omega | assumption | (apply Ne.symm; assumption))) (by rfl) ?_
      refine r_iconst (v := nI 4) dL_law_41 (by decide) ?_
      first | refine r_isubN dL_law_42 (by omega) ?_ | refine r_isub dL_law_42 ?_
      first | refine r_icmp_gtN (tgt := 533) dL_law_43 (by decide) (by omega) (by omega) (fun h43 => ?_) (fun h43 => ?_) | refine r_icmp_gt (tgt := 533) dL_law_43 (by decide) (fun h43 => ?_) (fun h43 => ?_)
      · refine r_iconst (v := nI 1) dL_law_533 (by decide) ?_
        refine r_ret (r := (some (.int _))) dL_law_534 (by decide) (by decide) ?_
        exact rfl
      · omega
    · refine r_iload_n dL_law_38 rfl ?_
      refine r_aload_n dL_law_39 rfl ?_
      refine r_alen' dL_law_40 (by repeat first | exact wu_eq | assumption | (apply wu_ne; first | omega | assumption | (apply Ne.symm; assumption))) (by rfl) ?_
      refine r_iconst (v := nI 4) dL_law_41 (by decide) ?_
      refine r_isub dL_law_42 ?_
      refine r_icmp_gt (tgt := 533) dL_law_43 (by decide) (fun _ => ?_) (fun q => absurd (neg_lt (pk_sneg (by decide) (by omega)) (by omega)) q)
      refine r_iconst (v := nI 1) dL_law_533 (by decide) ?_
      refine r_ret (r := (some (.int _))) dL_law_534 (by decide) (by decide) ?_
      exact rfl
  | succ n ih =>
    intro i hn h2 hi w hw
    refine r_low fun low => ?_
    have e6 := (low 6 (by decide)).trans h6
    by_cases hL4 : 4 ≤ L
    · refine r_iload_n dL_law_38 rfl ?_
      refine r_aload_n dL_law_39 rfl ?_
      refine r_alen' dL_law_40 (by repeat first | exact wu_eq | assumption | (apply wu_ne; first | omega | assumption | (apply Ne.symm; assumption))) (by rfl) ?_
      refine r_iconst (v := nI 4) dL_law_41 (by decide) ?_
      first | refine r_isubN dL_law_42 (by omega) ?_ | refine r_isub dL_law_42 ?_
      first | refine r_icmp_gtN (tgt := 533) dL_law_43 (by decide) (by omega) (by omega) (fun h43 => ?_) (fun h43 => ?_) | refine r_icmp_gt (tgt := 533) dL_law_43 (by decide) (fun h43 => ?_) (fun h43 => ?_)
      · refine r_iconst (v := nI 1) dL_law_533 (by decide) ?_
        refine r_ret (r := (some (.int _))) dL_law_534 (by decide) (by decide) ?_
        exact rfl
      · have hi4 : i + 4 ≤ L := by omega
        have K : ∀ w2, LI w2 → ab_St ML_law g 77 3861 527 [(3, .int (nI i)), (2, .ref 74), (1, .ref 7), (0, .ref 6)] [] 84 w2 (fun r _ _ => r = some (.int (nI 1))) := by
          intro w2 hw2
          refine r_iinc (L0 := [(2, _), (1, _), (0, _)]) dL_law_527 rfl (by first | exact iinc4 _ | rfl) (by decide) rfl ?_
          refine r_goto (tgt := 38) dL_law_530 (by decide) ?_
          exact ih (i + 4) (by omega) (by omega) (by omega) w2 hw2
        obtain ⟨k, hk, e⟩ := pk_andE (xs i) 4 (show (nI 15).toBitVec.toNat = 2 ^ 4 - 1 by decide)
        refine r_aload_n dL_law_46 rfl ?_
        refine r_iload_n dL_law_47 rfl ?_
        refine r_iaload' dL_law_48 (by repeat first | exact wu_eq | assumption | (apply wu_ne; first | omega | assumption | (apply Ne.symm; assumption))) (by rfl) _ rfl (by omega) (by omega) ?_
        refine r_bipush (v := nI 15) dL_law_49 (by decide) ?_
        refine r_iand dL_law_51 ?_
        rw [e]
        clear e ih
        have hk16 : k < 16 := hk
        rcases (by omega : k = 0 ∨ k = 1 ∨ k = 2 ∨ k = 3 ∨ k = 4 ∨ k = 5 ∨ k = 6 ∨ k = 7 ∨ k = 8 ∨ k = 9 ∨ k = 10 ∨ k = 11 ∨ k = 12 ∨ k = 13 ∨ k = 14 ∨ k = 15) with rfl | rfl | rfl | rfl | rfl | rfl | rfl | rfl | rfl | rfl | rfl | rfl | rfl | rfl | rfl | rfl
        · exact r_tabIn (off := 80) (tgt := 132) dL_law_52 (by decide) (by decide) rfl rfl (l_seed h6 hL hi4 hw K)
        · exact r_tabIn (off := 103) (tgt := 155) dL_law_52 (by decide) (by decide) rfl rfl (l_search h6 hL hi4 hw K)
        · exact r_tabIn (off := 126) (tgt := 178) dL_law_52 (by decide) (by decide) rfl rfl (l_forget h6 hL hi4 hw K)
        · exact r_tabIn (off := 139) (tgt := 191) dL_law_52 (by decide) (by decide) rfl rfl (l_key h6 hL hi4 hw K)
        · exact r_tabIn (off := 172) (tgt := 224) dL_law_52 (by decide) (by decide) rfl rfl (l_count h6 hL hi4 hw K)
        · exact r_tabIn (off := 195) (tgt := 247) dL_law_52 (by decide) (by decide) rfl rfl (l_feed h6 hL hi4 hw K)
        · exact r_tabIn (off := 258) (tgt := 310) dL_law_52 (by decide) (by decide) rfl rfl (l_cut h6 hL hi4 hw K)
        · exact r_tabIn (off := 281) (tgt := 333) dL_law_52 (by decide) (by decide) rfl rfl (l_hash h6 hL hi4 hw K)
        · exact r_tabIn (off := 304) (tgt := 356) dL_law_52 (by decide) (by decide) rfl rfl (l_encoded h6 hL hi4 hw K)
        · exact r_tabIn (off := 327) (tgt := 379) dL_law_52 (by decide) (by decide) rfl rfl (l_sign h6 hL hi4 hw K)
        · exact r_tabIn (off := 340) (tgt := 392) dL_law_52 (by decide) (by decide) rfl rfl (l_verify h6 hL hi4 hw K)
        · exact r_tabIn (off := 353) (tgt := 405) dL_law_52 (by decide) (by decide) rfl rfl (l_power h6 hL hi4 hw K)
        · exact r_tabIn (off := 392) (tgt := 444) dL_law_52 (by decide) (by decide) rfl rfl (l_encode h6 hL hi4 hw K)
        · exact r_tabIn (off := 405) (tgt := 457) dL_law_52 (by decide) (by decide) rfl rfl (l_set h6 hL hi4 hw K)
        · exact r_tabIn (off := 438) (tgt := 490) dL_law_52 (by decide) (by decide) rfl rfl (l_get h6 hL hi4 hw K)
        · exact r_tabIn (off := 461) (tgt := 513) dL_law_52 (by decide) (by decide) rfl rfl (l_digest h6 hL hi4 hw K)
    · refine r_iload_n dL_law_38 rfl ?_
      refine r_aload_n dL_law_39 rfl ?_
      refine r_alen' dL_law_40 (by repeat first | exact wu_eq | assumption | (apply wu_ne; first | omega | assumption | (apply Ne.symm; assumption))) (by rfl) ?_
      refine r_iconst (v := nI 4) dL_law_41 (by decide) ?_
      refine r_isub dL_law_42 ?_
      refine r_icmp_gt (tgt := 533) dL_law_43 (by decide) (fun _ => ?_) (fun q => absurd (neg_lt (pk_sneg (by decide) (by omega)) (by omega)) q)
      refine r_iconst (v := nI 1) dL_law_533 (by decide) ?_
      refine r_ret (r := (some (.int _))) dL_law_534 (by decide) (by decide) ?_
      exact rfl
set_option maxRecDepth 100000 in
set_option maxHeartbeats 4000000 in
theorem c_law {g : ab_G} {L : Nat} {xs : Nat → Int32} {w : ab_W} (h6 : gX g 6 = xI L xs) (w6 : w 6 = xI L xs) (hL : L ≤ 2050) (hx : EXT w) : ab_St ML_law g 0 0 0 [(0, .ref 6)] [] 7 w (fun r _ _ => r = some (.int (nI 1))) := by
  refine r_new (fs := [.int 0, .int 0, .int 0, .null, .null, .null, .null, .null, .null, .null, .int 0, .int 0]) dL_law_0 (ci := 6) rfl iwX7 tyX7_ok nL_7 itX7 iiX7 (by decide) rfl (by decide) (by decide) ?_
  refine r_dup dL_law_3 rfl ?_
  refine r_aload_n dL_law_4 rfl ?_
  refine r_iconst (v := nI 0) dL_law_5 (by decide) ?_
  refine r_invS dL_law_6 kL_9 (c_cell (L := L) (xs := xs) (k := 0) (by repeat first | exact wu_eq | assumption | (apply wu_ne; first | omega | assumption | (apply Ne.symm; assumption))) hL (by decide)) rfl rfl ⟨by decide, by decide⟩ (Nat.le_of_ble_eq_true rfl) ⟨by decide, by decide⟩ ⟨rfl, rfl⟩ ?_
  rintro _ _ _ ⟨rfl, rfl, rfl⟩
  refine r_aload_n dL_law_9 rfl ?_
  refine r_iconst (v := nI 1) dL_law_10 (by decide) ?_
  refine r_invS dL_law_11 kL_9 (c_cell (L := L) (xs := xs) (k := 1) (by repeat first | exact wu_eq | assumption | (apply wu_ne; first | omega | assumption | (apply Ne.symm; assumption))) hL (by decide)) rfl rfl ⟨by decide, by decide⟩ (Nat.le_of_ble_eq_true rfl) ⟨by decide, by decide⟩ ⟨rfl, rfl⟩ ?_
  rintro _ _ _ ⟨rfl, rfl, rfl⟩
  refine r_invI dL_law_14 kL_15 rfl (c_House_init wu_eq (hx.keep fun k a ↦ wu_ne (by omega) rfl)) rfl rfl ⟨by decide, by decide⟩ (Nat.le_of_ble_eq_true rfl) ⟨by decide, by decide⟩ ⟨rfl, rfl⟩ ?_
  rintro _ _ w1 ⟨H, F, rfl, rfl⟩
  have f6 : w1 6 = xI L xs := (F 6 (by decide)).trans (wu_ne (by decide) w6)
  generalize hxx : (if 0 < L then xs 0 else 0) = x at *
  generalize hyy : (if 1 < L then xs 1 else 0) = y at *
  refine r_astore_n (i := 1) (L0 := [(0, _)]) dL_law_17 rfl (by decide) rfl ?_
  refine r_new (fs := [.null, .int 0, .int 0, .null, .int 0, .null, .null, .null, .null, .null, .int 0, .int 0, .int 0, .int 0, .int 0, .int 0, .int 0, .int 0, .int 0, .int 0, .null, .int 0, .null]) dL_law_18 (ci := 7) rfl iwX8 tyX8_ok nL_18 itX8 iiX8 (by decide) rfl (by decide) (by decide) ?_
  refine r_dup dL_law_21 rfl ?_
  refine r_aload_n dL_law_22 rfl ?_
  refine r_iconst (v := nI 0) dL_law_23 (by decide) ?_
  refine r_invS dL_law_24 kL_9 (c_cell (L := L) (xs := xs) (k := 0) (by repeat first | exact wu_eq | assumption | (apply wu_ne; first | omega | assumption | (apply Ne.symm; assumption))) hL (by decide)) rfl rfl ⟨by decide, by decide⟩ (Nat.le_of_ble_eq_true rfl) ⟨by decide, by decide⟩ ⟨rfl, rfl⟩ ?_
  rintro _ _ _ ⟨rfl, rfl, rfl⟩
  refine r_aload_n dL_law_27 rfl ?_
  refine r_iconst (v := nI 1) dL_law_28 (by decide) ?_
  refine r_invS dL_law_29 kL_9 (c_cell (L := L) (xs := xs) (k := 1) (by repeat first | exact wu_eq | assumption | (apply wu_ne; first | omega | assumption | (apply Ne.symm; assumption))) hL (by decide)) rfl rfl ⟨by decide, by decide⟩ (Nat.le_of_ble_eq_true rfl) ⟨by decide, by decide⟩ ⟨rfl, rfl⟩ ?_
  rintro _ _ _ ⟨rfl, rfl, rfl⟩
  rw [hxx, hyy]
  refine r_invI dL_law_32 kL_20 rfl (c_Model_init wu_eq) rfl rfl ⟨by decide, by decide⟩ (Nat.le_of_ble_eq_true rfl) ⟨by decide, by decide⟩ ⟨rfl, rfl⟩ ?_
  rintro _ _ w2 ⟨M, F2, rfl, rfl⟩
  have H2 : HW w2 (clp 31 40 x) (clp 1 8 y) 0 (fun _ => 0) 0 (0, 0, 0, 0, 0, 0) (fun _ => 0) 0 0 0 0 := H.keep fun k a => (F2 k a).trans (wu_ne (by omega) rfl)
  have I0 : INV (clp 31 40 x) (0, 0, 0, 0, 0, 0) := ⟨fun q => absurd (show 1 ≤ 0 from q) (by decide), fun q => absurd (show (0 : Nat) = 2 from q) (by decide), (by decide : 0 ≤ 2)⟩
  refine r_astore_n (i := 2) (L0 := [(1, _), (0, _)]) dL_law_35 rfl (by decide) rfl ?_
  refine r_iconst (v := nI 2) dL_law_36 (by decide) ?_
  refine r_istore_n (i := 3) (L0 := [(2, _), (1, _), (0, _)]) dL_law_37 rfl (by decide) rfl ?_
  exact l_loop h6 hL 520 2 (by omega) (by decide) (by decide) w2 ⟨_, _, _, _, _, _, _, _, _, _, _, H2, M, I0, fun _ => rfl⟩
