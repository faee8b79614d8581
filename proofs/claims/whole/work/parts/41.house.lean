/-! SignHouse: the encoded message -/
abbrev hoO (half rounds sg vf : Nat) : ab_C := aO 6 [.int (nI half), .int (nI (2 * half)), .int (nI rounds), .ref 8, .ref 13, .ref 28, .ref 66, .ref 71, .ref 72, .ref 73, .int (nI sg), .int (nI vf)]
/-- byte i of the encoded message -/
def enb (d : Nat → Nat) (len half i : Nat) : Nat := if 2 * half - 32 ≤ i then hby (sha d len) (i - (2 * half - 32)) else if 2 * half - 51 ≤ i then HNM (i - (2 * half - 51)) else if i = 0 then 0 else if i = 2 * half - 52 then 0 else if i = 1 then 1 else 255
set_option maxRecDepth 100000 in
set_option maxHeartbeats 4000000 in
theorem c_bytesOfKeyPart {g : ab_G} {N half rounds sg vf k : Nat} {w : ab_W} (h : w 7 = hoO half rounds sg vf) (hk : k < 7) : ab_Ct MX7_bytesOfKeyPart g [.ref 7, .int (nI k)] N w (rp (some (.int (nI (if k < 2 then 2 * half else half)))) N w) := by
  refine ab_Ct.of (by decide +kernel) (Nat.le_of_ble_eq_true rfl) (by rintro _ _ _ ⟨rfl, rfl, rfl⟩; trivial) ?_
  show ab_St MX7_bytesOfKeyPart g 0 0 0 [(0, .ref 7), (1, .int (nI k))] [] _ _ _
  refine r_iload_n dX7_bytesOfKeyPart_0 rfl ?_
  refine r_iconst (v := nI 2) dX7_bytesOfKeyPart_1 (by decide) ?_
  first | refine r_icmp_geN (tgt := 12) dX7_bytesOfKeyPart_2 (by decide) (by omega) (by omega) (fun h2 => ?_) (fun h2 => ?_) | refine r_icmp_ge (tgt := 12) dX7_bytesOfKeyPart_2 (by decide) (fun h2 => ?_) (fun h2 => ?_)
  · refine r_aload_n dX7_bytesOfKeyPart_12 rfl ?_
    refine r_getf dX7_bytesOfKeyPart_13 fX7_18 (by repeat first | exact wu_eq | assumption | (apply wu_ne; first | omega | assumption | (apply Ne.symm; assumption))) (by rfl) ?_
    refine r_ret (r := (some (.int _))) dX7_bytesOfKeyPart_16 (by decide) (by decide) ?_
    rw [if_neg (by omega)]
    exact ⟨rfl, rfl, rfl⟩
  · refine r_aload_n dX7_bytesOfKeyPart_5 rfl ?_
    refine r_getf dX7_bytesOfKeyPart_6 fX7_22 (by repeat first | exact wu_eq | assumption | (apply wu_ne; first | omega | assumption | (apply Ne.symm; assumption))) (by rfl) ?_
    refine r_goto (tgt := 16) dX7_bytesOfKeyPart_9 (by decide) ?_
    refine r_ret (r := (some (.int _))) dX7_bytesOfKeyPart_16 (by decide) (by decide) ?_
    rw [if_pos (by omega)]
    exact ⟨rfl, rfl, rfl⟩
set_option maxRecDepth 100000 in
set_option maxHeartbeats 4000000 in
theorem c_encodedByte {g : ab_G} {N half rounds sg vf len i : Nat} {d : Nat → Nat} {w : ab_W} (h : w 7 = hoO half rounds sg vf) (h31 : 31 ≤ half) (h40 : half ≤ 40) (hM : MSG w d len) (x5 : w 5 = xI 19 sHN) (hi : i < 2 * half) : ab_Ct MX7_encodedByte g [.ref 7, .int (nI i)] N w (rp (some (.int (nI (enb d len half i)))) N w) := by
  obtain ⟨f, k66, -⟩ := id hM
  refine ab_Ct.of (by decide +kernel) (Nat.le_of_ble_eq_true rfl) (by rintro _ _ _ ⟨rfl, rfl, rfl⟩; trivial) ?_
  show ab_St MX7_encodedByte g 0 0 0 [(0, .ref 7), (1, .int (nI i))] [] _ _ _
  refine r_aload_n dX7_encodedByte_0 rfl ?_
  refine r_getf dX7_encodedByte_1 fX7_22 (by repeat first | exact wu_eq | assumption | (apply wu_ne; first | omega | assumption | (apply Ne.symm; assumption))) (by rfl) ?_
  refine r_bipush (v := nI 32) dX7_encodedByte_4 (by decide) ?_
  first | refine r_isubN dX7_encodedByte_6 (by omega) ?_ | refine r_isub dX7_encodedByte_6 ?_
  refine r_istore_n (i := 2) (L0 := [(0, _), (1, _)]) dX7_encodedByte_7 rfl (by decide) rfl ?_
  refine r_iload_n dX7_encodedByte_8 rfl ?_
  refine r_gets dX7_encodedByte_9 (by decide) sX7_190 ?_
  refine r_alen' dX7_encodedByte_12 (by repeat first | exact wu_eq | assumption | (apply wu_ne; first | omega | assumption | (apply Ne.symm; assumption))) (by rfl) ?_
  first | refine r_isubN dX7_encodedByte_13 (by omega) ?_ | refine r_isub dX7_encodedByte_13 ?_
  refine r_istore_n (i := 3) (L0 := [(2, _), (0, _), (1, _)]) dX7_encodedByte_14 rfl (by decide) rfl ?_
  refine r_iload_n dX7_encodedByte_15 rfl ?_
  refine r_iload_n dX7_encodedByte_16 rfl ?_
  first | refine r_icmp_ltN (tgt := 31) dX7_encodedByte_17 (by decide) (by omega) (by omega) (fun h17 => ?_) (fun h17 => ?_) | refine r_icmp_lt (tgt := 31) dX7_encodedByte_17 (by decide) (fun h17 => ?_) (fun h17 => ?_)
  · refine r_iload_n dX7_encodedByte_31 rfl ?_
    refine r_iload_n dX7_encodedByte_32 rfl ?_
    first | refine r_icmp_ltN (tgt := 61) dX7_encodedByte_33 (by decide) (by omega) (by omega) (fun h33 => ?_) (fun h33 => ?_) | refine r_icmp_lt (tgt := 61) dX7_encodedByte_33 (by decide) (fun h33 => ?_) (fun h33 => ?_)
    · refine r_iload_n dX7_encodedByte_61 rfl ?_
      first | refine r_if_eqN (tgt := 72) dX7_encodedByte_62 (by decide) (by omega) (fun h62 => ?_) (fun h62 => ?_) | refine r_if_eq (tgt := 72) dX7_encodedByte_62 (by decide) (fun h62 => ?_) (fun h62 => ?_)
      · refine r_iconst (v := nI 0) dX7_encodedByte_72 (by decide) ?_
        refine r_ret (r := (some (.int _))) dX7_encodedByte_73 (by decide) (by decide) ?_
        unfold enb
        rw [if_neg (by omega), if_neg (by omega), if_pos (by omega)]
        exact ⟨rfl, rfl, rfl⟩
      · refine r_iload_n dX7_encodedByte_65 rfl ?_
        refine r_iload_n dX7_encodedByte_66 rfl ?_
        refine r_iconst (v := nI 1) dX7_encodedByte_67 (by decide) ?_
        first | refine r_isubN dX7_encodedByte_68 (by omega) ?_ | refine r_isub dX7_encodedByte_68 ?_
        first | refine r_icmp_neN (tgt := 74) dX7_encodedByte_69 (by decide) (by omega) (by omega) (fun h69 => ?_) (fun h69 => ?_) | refine r_icmp_ne (tgt := 74) dX7_encodedByte_69 (by decide) (fun h69 => ?_) (fun h69 => ?_)
        · refine r_iload_n dX7_encodedByte_74 rfl ?_
          refine r_iconst (v := nI 1) dX7_encodedByte_75 (by decide) ?_
          first | refine r_icmp_neN (tgt := 83) dX7_encodedByte_76 (by decide) (by omega) (by omega) (fun h76 => ?_) (fun h76 => ?_) | refine r_icmp_ne (tgt := 83) dX7_encodedByte_76 (by decide) (fun h76 => ?_) (fun h76 => ?_)
          · refine r_sipush (v := nI 255) dX7_encodedByte_83 (by decide) ?_
            refine r_ret (r := (some (.int _))) dX7_encodedByte_86 (by decide) (by decide) ?_
            unfold enb
            rw [if_neg (by omega), if_neg (by omega), if_neg (by omega), if_neg (by omega), if_neg (by omega)]
            exact ⟨rfl, rfl, rfl⟩
          · refine r_iconst (v := nI 1) dX7_encodedByte_79 (by decide) ?_
            refine r_goto (tgt := 86) dX7_encodedByte_80 (by decide) ?_
            refine r_ret (r := (some (.int _))) dX7_encodedByte_86 (by decide) (by decide) ?_
            unfold enb
            rw [if_neg (by omega), if_neg (by omega), if_neg (by omega), if_neg (by omega), if_pos (by omega)]
            exact ⟨rfl, rfl, rfl⟩
        · refine r_iconst (v := nI 0) dX7_encodedByte_72 (by decide) ?_
          refine r_ret (r := (some (.int _))) dX7_encodedByte_73 (by decide) (by decide) ?_
          unfold enb
          rw [if_neg (by omega), if_neg (by omega), if_neg (by omega), if_pos (by omega)]
          exact ⟨rfl, rfl, rfl⟩
    · refine r_iload_n dX7_encodedByte_36 rfl ?_
      refine r_iload_n dX7_encodedByte_37 rfl ?_
      first | refine r_isubN dX7_encodedByte_38 (by omega) ?_ | refine r_isub dX7_encodedByte_38 ?_
      refine r_istore (i := 4) (L0 := [(3, _), (2, _), (0, _), (1, _)]) dX7_encodedByte_39 (by decide) rfl ?_
      refine r_iload dX7_encodedByte_41 rfl ?_
      refine r_gets dX7_encodedByte_43 (by decide) sX7_190 ?_
      refine r_alen' dX7_encodedByte_46 (by repeat first | exact wu_eq | assumption | (apply wu_ne; first | omega | assumption | (apply Ne.symm; assumption))) (by rfl) ?_
      first | refine r_icmp_geN (tgt := 59) dX7_encodedByte_47 (by decide) (by omega) (by omega) (fun h47 => ?_) (fun h47 => ?_) | refine r_icmp_ge (tgt := 59) dX7_encodedByte_47 (by decide) (fun h47 => ?_) (fun h47 => ?_)
      · omega
      · refine r_gets dX7_encodedByte_50 (by decide) sX7_190 ?_
        refine r_iload dX7_encodedByte_53 rfl ?_
        refine r_iaload' dX7_encodedByte_55 (by repeat first | exact wu_eq | assumption | (apply wu_ne; first | omega | assumption | (apply Ne.symm; assumption))) (by rfl) _ rfl (by omega) (by omega) ?_
        rw [show sHN (i - (2 * half - 32 - 19)) = nI (HNM (i - (2 * half - 32 - 19))) from rfl]
        refine r_goto (tgt := 60) dX7_encodedByte_56 (by decide) ?_
        refine r_ret (r := (some (.int _))) dX7_encodedByte_60 (by decide) (by decide) ?_
        unfold enb
        rw [if_neg (by omega), if_pos (by omega), show 2 * half - 32 - 19 = 2 * half - 51 by omega]
        exact ⟨rfl, rfl, rfl⟩
  · refine r_aload_n dX7_encodedByte_20 rfl ?_
    refine r_getf dX7_encodedByte_21 fX7_56 (by repeat first | exact wu_eq | assumption | (apply wu_ne; first | omega | assumption | (apply Ne.symm; assumption))) (by rfl) ?_
    refine r_iload_n dX7_encodedByte_24 rfl ?_
    refine r_iload_n dX7_encodedByte_25 rfl ?_
    first | refine r_isubN dX7_encodedByte_26 (by omega) ?_ | refine r_isub dX7_encodedByte_26 ?_
    refine r_invV dX7_encodedByte_27 kX7_138 (c_hashByte (q := i - (2 * half - 32)) hM (by omega)) rfl rfl (by repeat first | exact wu_eq | assumption | (apply wu_ne; first | omega | assumption | (apply Ne.symm; assumption))) rfl rfl ⟨by decide, by decide⟩ (Nat.le_of_ble_eq_true rfl) ⟨by decide, by decide⟩ ⟨rfl, rfl⟩ ?_
    rintro _ _ _ ⟨rfl, rfl, rfl⟩
    refine r_ret (r := (some (.int _))) dX7_encodedByte_30 (by decide) (by decide) ?_
    unfold enb
    rw [if_pos (by omega)]
    exact ⟨rfl, rfl, rfl⟩
