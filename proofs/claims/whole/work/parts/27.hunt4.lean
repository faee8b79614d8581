/-! SignHouse$Hunt: a candidate examined; the small methods -/
def HNM (k : Nat) : Nat := [48, 49, 48, 13, 6, 9, 96, 134, 72, 1, 101, 3, 4, 2, 1, 5, 0, 4, 32].getD k 0
def sHN : Nat → Int32 := fun k => nI (HNM k)
/-- the static rows -/
def EXT (w : ab_W) : Prop := w 0 = xI 8 sH ∧ w 1 = xI 64 sK ∧ w 2 = xI 53 sPr ∧ w 3 = xI 8 sBs ∧ w 4 = xJ 1 (rJ 65537) ∧ w 5 = xI 19 sHN
theorem EXT.keep {w w' : ab_W} (h : EXT w) (hk : ∀ k, k < 7 → w' k = w k) : EXT w' := by
  obtain ⟨h0, h1, h2, h3, h4, h5⟩ := h
  exact ⟨(hk 0 (by decide)).trans h0, (hk 1 (by decide)).trans h1, (hk 2 (by decide)).trans h2, (hk 3 (by decide)).trans h3, (hk 4 (by decide)).trans h4, (hk 5 (by decide)).trans h5⟩
def HS (w : ab_W) (half rounds W bg pf ex un fi se : Nat) : Prop := w 13 = huO half rounds bg pf ex un ∧ MSH w 14 W ∧ RW3 w W ∧ (∃ ci, w 22 = aN W ci ∧ ci < 256 ^ half) ∧ w 26 = aN W fi ∧ w 27 = aN W se ∧ fi < 4294967296 ^ W ∧ se < 4294967296 ^ W ∧ W = (half + 3) / 4 ∧ 31 ≤ half ∧ half ≤ 40 ∧ rounds ≤ 8 ∧ pf ≤ 2 ∧ bg < 2
theorem RW3.keep {w w' : ab_W} {W : Nat} (h : RW3 w W) (hk : ∀ k, 23 ≤ k → k ≤ 25 → w' k = w k) : RW3 w' W := by
  obtain ⟨cl, op, rs, h1, h2, h3, hb⟩ := h
  exact ⟨cl, op, rs, (hk 23 (by decide) (by decide)).trans h1, (hk 24 (by decide) (by decide)).trans h2, (hk 25 (by decide) (by decide)).trans h3, hb⟩
theorem HS.keep {w w' : ab_W} {half rounds W bg pf ex un fi se : Nat} (h : HS w half rounds W bg pf ex un fi se) (hk : ∀ k, 13 ≤ k → k ≤ 27 → w' k = w k) : HS w' half rounds W bg pf ex un fi se := by
  obtain ⟨h1, h2, h3, ⟨ci, h4, h5⟩, h6, h7, hb⟩ := h
  exact ⟨(hk 13 (by decide) (by decide)).trans h1, h2.keep fun k a b => hk k (by omega) (by omega), h3.keep fun k a b => hk k (by omega) (by omega), ⟨ci, (hk 22 (by decide) (by decide)).trans h4, h5⟩, (hk 26 (by decide) (by decide)).trans h6, (hk 27 (by decide) (by decide)).trans h7, hb⟩
/-- the object's numbers anew -/
theorem HS.obj {w : ab_W} {half rounds W bg pf ex un fi se bg' pf' ex' un' : Nat} (h : HS w half rounds W bg pf ex un fi se) (h1 : pf' ≤ 2) (h2 : bg' < 2) : HS (wu w 13 (huO half rounds bg' pf' ex' un')) half rounds W bg' pf' ex' un' fi se := by
  obtain ⟨a1, a2, a3, ⟨ci, a4, a5⟩, a6, a7, a8, a9, a10, a11, a12, a13, a14, a15⟩ := h
  have hk : ∀ k, k ≠ 13 → wu w 13 (huO half rounds bg' pf' ex' un') k = w k := fun k hk => wu_ne hk rfl
  exact ⟨wu_eq, a2.keep fun k a b => hk k (by omega), a3.keep fun k a b => hk k (by omega), ⟨ci, (hk _ (by decide)).trans a4, a5⟩, (hk _ (by decide)).trans a6, (hk _ (by decide)).trans a7, a8, a9, a10, a11, a12, a13, h1, h2⟩
noncomputable def xs (C rounds pf un fi se : Nat) : Nat × Nat × Nat × Nat := xif (ND C) (xif (GD C rounds pf fi) (pf + 1, un + 1, (if pf = 0 then C else fi), (if pf = 0 then se else C)) (pf, un + 1, fi, se)) (pf, un, fi, se)
set_option maxRecDepth 100000 in
set_option maxHeartbeats 1000000 in
theorem c_examineNext {g : ab_G} {N half rounds W bg pf ex un fi se c P : Nat} {ω : Nat → Nat} {w : ab_W} (h : HS w half rounds W bg pf ex un fi se) (hD : DRW w 8 c ω P) (hx : EXT w) (hpf : pf < 2) : ab_Ct MX1_examineNext g [.ref 13] N w (fun r N' w' => HS w' half rounds W bg (xs (cand ω c half P) rounds pf un fi se).1 (ex + 1) (xs (cand ω c half P) rounds pf un fi se).2.1 (xs (cand ω c half P) rounds pf un fi se).2.2.1 (xs (cand ω c half P) rounds pf un fi se).2.2.2 ∧ DRW w' 8 c ω (P + half) ∧ (∀ j, (j < 8 ∨ 27 < j) → w' j = w j) ∧ r = none ∧ N = N') := by
  obtain ⟨a1, a2, a3, ⟨ci, a4, a5⟩, a6, a7, a8, a9, a10, a11, a12, a13, a14, a15⟩ := h
  obtain ⟨x0, x1, x2, x3, x4, x5⟩ := hx
  have hW20 : W ≤ 20 := by omega
  have hC0 := cand_lt ω c half P
  have hCW : cand ω c half P < 4294967296 ^ W := Nat.lt_of_lt_of_le hC0 (pow_WB a10)
  have hodd := cand_odd ω c half P (by omega)
  have hbig : 100 < cand ω c half P := Nat.lt_of_lt_of_le (show 100 < 256 ^ 1 by decide) (Nat.le_trans (Nat.pow_le_pow_right (by decide) (by omega)) (cand_big ω c half P (by omega)))
  refine ab_Ct.of (by decide +kernel) (Nat.le_of_ble_eq_true rfl) (by rintro _ _ _ ⟨-, -, -, rfl, -⟩; trivial) ?_
  show ab_St MX1_examineNext g 0 0 0 [(0, .ref 13)] [] _ _ _
  refine r_aload_n dX1_examineNext_0 rfl ?_
  refine r_invV dX1_examineNext_1 kX1_67 (c_drawCandidate (W := W) a1 hD a4 a10 a11 a12 a5 x0 x1) rfl rfl (by repeat first | exact wu_eq | assumption | (apply wu_ne; first | omega | assumption | (apply Ne.symm; assumption))) rfl rfl ⟨by decide, by decide⟩ (Nat.le_of_ble_eq_true rfl) ⟨by decide, by decide⟩ ⟨rfl, rfl⟩ ?_
  rintro _ _ w1 ⟨d1, e22, hf1, rfl, rfl⟩
  generalize cand ω c half P = C at *
  have e13 := (hf1 13 (by decide) (by decide)).trans a1
  refine r_aload_n dX1_examineNext_4 rfl ?_
  refine r_dup dX1_examineNext_5 rfl ?_
  refine r_getf dX1_examineNext_6 fX1_61 (by repeat first | exact wu_eq | assumption | (apply wu_ne; first | omega | assumption | (apply Ne.symm; assumption))) (by rfl) ?_
  refine r_iconst (v := nI 1) dX1_examineNext_9 (by decide) ?_
  first | refine r_iaddN dX1_examineNext_10 ?_ | refine r_iadd dX1_examineNext_10 ?_
  refine r_putf dX1_examineNext_11 fX1_61 (by repeat first | exact wu_eq | assumption | (apply wu_ne; first | omega | assumption | (apply Ne.symm; assumption))) rfl (by exact Nat.le_of_ble_eq_true rfl) (by rfl) (by rfl) ?_
  rw [show List.set [Value.ref 8, .int (nI half), .int (nI rounds), .ref 14, .ref 22, .ref 23, .ref 24, .ref 25, .ref 26, .ref 27, .int (nI bg), .int (nI pf), .int (nI ex), .int (nI un)] 12 (.int (nI (ex + 1))) = [Value.ref 8, .int (nI half), .int (nI rounds), .ref 14, .ref 22, .ref 23, .ref 24, .ref 25, .ref 26, .ref 27, .int (nI bg), .int (nI pf), .int (nI (ex + 1)), .int (nI un)] from rfl]
  have H1 : HS (wu w1 13 (huO half rounds bg pf (ex + 1) un)) half rounds W bg pf (ex + 1) un fi se := by
    refine HS.obj (bg := bg) (pf := pf) (ex := ex) (un := un) ⟨e13, a2.keep fun k a b => hf1 k (by omega) (by omega), a3.keep fun k a b => hf1 k (by omega) (by omega), ⟨C, e22, hC0⟩, (hf1 26 (by decide) (by decide)).trans a6, (hf1 27 (by decide) (by decide)).trans a7, a8, a9, a10, a11, a12, a13, a14, a15⟩ a14 a15
  have D1 : DRW (wu w1 13 (huO half rounds bg pf (ex + 1) un)) 8 c ω (P + half) := d1.keep fun k a b => wu_ne (by omega) rfl
  have F1 : ∀ j, (j < 8 ∨ 27 < j) → (wu w1 13 (huO half rounds bg pf (ex + 1) un)) j = w j := fun j hj => (wu_ne (by omega) rfl).trans (hf1 j (by omega) (by omega))
  have f22 : (wu w1 13 (huO half rounds bg pf (ex + 1) un)) 22 = aN W C := wu_ne (by decide) e22
  generalize wu w1 13 (huO half rounds bg pf (ex + 1) un) = w2 at H1 D1 F1 f22 ⊢
  have f2 := (F1 2 (by decide)).trans x2
  have f3 := (F1 3 (by decide)).trans x3
  obtain ⟨b1, -⟩ := id H1
  refine r_aload_n dX1_examineNext_14 rfl ?_
  refine r_invV dX1_examineNext_15 kX1_70 (c_hasSmallDivisor (W := W) (C := C) b1 f22 hW20 hCW f2) rfl rfl (by repeat first | exact wu_eq | assumption | (apply wu_ne; first | omega | assumption | (apply Ne.symm; assumption))) rfl rfl ⟨by decide, by decide⟩ (Nat.le_of_ble_eq_true rfl) ⟨by decide, by decide⟩ ⟨rfl, rfl⟩ ?_
  rintro _ _ _ ⟨b, hb, hbi, rfl, rfl, rfl⟩
  first | refine r_if_eqN (tgt := 22) dX1_examineNext_18 (by decide) (by omega) (fun h18 => ?_) (fun h18 => ?_) | refine r_if_eq (tgt := 22) dX1_examineNext_18 (by decide) (fun h18 => ?_) (fun h18 => ?_)
  · refine r_aload_n dX1_examineNext_22 rfl ?_
    refine r_dup dX1_examineNext_23 rfl ?_
    refine r_getf dX1_examineNext_24 fX1_64 (by repeat first | exact wu_eq | assumption | (apply wu_ne; first | omega | assumption | (apply Ne.symm; assumption))) (by rfl) ?_
    refine r_iconst (v := nI 1) dX1_examineNext_27 (by decide) ?_
    first | refine r_iaddN dX1_examineNext_28 ?_ | refine r_iadd dX1_examineNext_28 ?_
    refine r_putf dX1_examineNext_29 fX1_64 (by repeat first | exact wu_eq | assumption | (apply wu_ne; first | omega | assumption | (apply Ne.symm; assumption))) rfl (by exact Nat.le_of_ble_eq_true rfl) (by rfl) (by rfl) ?_
    have hnd : ND C := Classical.not_not.mp fun q => by have := hbi.mpr q; omega
    rw [show List.set [Value.ref 8, .int (nI half), .int (nI rounds), .ref 14, .ref 22, .ref 23, .ref 24, .ref 25, .ref 26, .ref 27, .int (nI bg), .int (nI pf), .int (nI (ex + 1)), .int (nI un)] 13 (.int (nI (un + 1))) = [Value.ref 8, .int (nI half), .int (nI rounds), .ref 14, .ref 22, .ref 23, .ref 24, .ref 25, .ref 26, .ref 27, .int (nI bg), .int (nI pf), .int (nI (ex + 1)), .int (nI (un + 1))] from rfl]
    have H2 : HS (wu w2 13 (huO half rounds bg pf (ex + 1) (un + 1))) half rounds W bg pf (ex + 1) (un + 1) fi se := H1.obj a14 a15
    have D2 : DRW (wu w2 13 (huO half rounds bg pf (ex + 1) (un + 1))) 8 c ω (P + half) := D1.keep fun k a b => wu_ne (by omega) rfl
    have F2 : ∀ j, (j < 8 ∨ 27 < j) → (wu w2 13 (huO half rounds bg pf (ex + 1) (un + 1))) j = w j := fun j hj => (wu_ne (by omega) rfl).trans (F1 j hj)
    have k22 : (wu w2 13 (huO half rounds bg pf (ex + 1) (un + 1))) 22 = aN W C := wu_ne (by decide) f22
    generalize wu w2 13 (huO half rounds bg pf (ex + 1) (un + 1)) = w3 at H2 D2 F2 k22 ⊢
    have k3 := (F2 3 (by decide)).trans x3
    obtain ⟨c1, c2, c3, -, c6, c7, -⟩ := id H2
    refine r_aload_n dX1_examineNext_32 rfl ?_
    refine r_invV dX1_examineNext_33 kX1_74 (c_isGood (W := W) (C := C) (fi := fi) c1 k22 c6 c2 c3 hW20 hCW hodd hbig a8 a13 a14 k3) rfl rfl (by repeat first | exact wu_eq | assumption | (apply wu_ne; first | omega | assumption | (apply Ne.symm; assumption))) rfl rfl ⟨by decide, by decide⟩ (Nat.le_of_ble_eq_true rfl) ⟨by decide, by decide⟩ ⟨rfl, rfl⟩ ?_
    rintro _ _ w4 ⟨b', hb', hbi', m2, m3, hf4, rfl, rfl⟩
    have g13 := (hf4 13 (by decide)).trans c1
    have g22 := (hf4 22 (by decide)).trans k22
    have g26 := (hf4 26 (by decide)).trans c6
    have g27 := (hf4 27 (by decide)).trans c7
    have F4 : ∀ j, (j < 8 ∨ 27 < j) → w4 j = w j := fun j hj => (hf4 j (by omega)).trans (F2 j hj)
    have D4 : DRW w4 8 c ω (P + half) := D2.keep fun k a b => hf4 k (by omega)
    have H4 : HS w4 half rounds W bg pf (ex + 1) (un + 1) fi se := ⟨g13, m2, m3, ⟨C, g22, hC0⟩, g26, g27, a8, a9, a10, a11, a12, a13, a14, a15⟩
    first | refine r_if_eqN (tgt := 74) dX1_examineNext_36 (by decide) (by omega) (fun h36 => ?_) (fun h36 => ?_) | refine r_if_eq (tgt := 74) dX1_examineNext_36 (by decide) (fun h36 => ?_) (fun h36 => ?_)
    · refine r_ret (r := none) dX1_examineNext_74 (by decide) (by decide) ?_
      have hng : ¬ GD C rounds pf fi := fun q => by have := hbi'.mpr q; omega
      unfold xs
      rw [xif_t hnd, xif_f hng]
      exact ⟨H4, D4, F4, rfl, rfl⟩
    · have hg : GD C rounds pf fi := hbi'.mp (by omega)
      unfold xs
      rw [xif_t hnd, xif_t hg]
      refine r_aload_n dX1_examineNext_39 rfl ?_
      refine r_getf dX1_examineNext_40 fX1_58 (by repeat first | exact wu_eq | assumption | (apply wu_ne; first | omega | assumption | (apply Ne.symm; assumption))) (by rfl) ?_
      first | refine r_if_neN (tgt := 53) dX1_examineNext_43 (by decide) (by omega) (fun h43 => ?_) (fun h43 => ?_) | refine r_if_ne (tgt := 53) dX1_examineNext_43 (by decide) (fun h43 => ?_) (fun h43 => ?_)
      · refine r_aload_n dX1_examineNext_53 rfl ?_
        refine r_getf dX1_examineNext_54 fX1_51 (by repeat first | exact wu_eq | assumption | (apply wu_ne; first | omega | assumption | (apply Ne.symm; assumption))) (by rfl) ?_
        refine r_aload_n dX1_examineNext_57 rfl ?_
        refine r_getf dX1_examineNext_58 fX1_35 (by repeat first | exact wu_eq | assumption | (apply wu_ne; first | omega | assumption | (apply Ne.symm; assumption))) (by rfl) ?_
        refine r_invS dX1_examineNext_61 kX1_77 (c_copy (n := W) (m := W) (u := se) (v := C) (by decide) g27 g22 (by omega) (by omega) a9 hCW) rfl rfl ⟨by decide, by decide⟩ (Nat.le_of_ble_eq_true rfl) ⟨by decide, by decide⟩ ⟨rfl, rfl⟩ ?_
        rintro _ _ _ ⟨rfl, rfl, rfl⟩
        refine r_aload_n dX1_examineNext_64 rfl ?_
        refine r_dup dX1_examineNext_65 rfl ?_
        refine r_getf dX1_examineNext_66 fX1_58 (by repeat first | exact wu_eq | assumption | (apply wu_ne; first | omega | assumption | (apply Ne.symm; assumption))) (by rfl) ?_
        refine r_iconst (v := nI 1) dX1_examineNext_69 (by decide) ?_
        first | refine r_iaddN dX1_examineNext_70 ?_ | refine r_iadd dX1_examineNext_70 ?_
        refine r_putf dX1_examineNext_71 fX1_58 (by repeat first | exact wu_eq | assumption | (apply wu_ne; first | omega | assumption | (apply Ne.symm; assumption))) rfl (by exact Nat.le_of_ble_eq_true rfl) (by rfl) (by rfl) ?_
        refine r_ret (r := none) dX1_examineNext_74 (by decide) (by decide) ?_
        rw [Nat.mod_eq_of_lt hCW, if_neg h43, if_neg h43]
        refine ⟨?_, ?_, ?_, rfl, rfl⟩
        · exact HS.obj (bg := bg) (pf := pf) (ex := ex + 1) (un := un + 1) ⟨wu_ne (by decide) g13, m2.keep fun k a b => wu_ne (by omega) rfl, m3.keep fun k a b => wu_ne (by omega) rfl, ⟨C, wu_ne (by decide) g22, hC0⟩, wu_ne (by decide) g26, wu_eq, a8, hCW, a10, a11, a12, a13, a14, a15⟩ (by omega) a15
        · exact D4.keep fun k a b => wu_ne (by omega) (wu_ne (by omega) rfl)
        · exact fun j hj => (wu_ne (by omega) (wu_ne (by omega) rfl)).trans (F4 j hj)
      · refine r_aload_n dX1_examineNext_46 rfl ?_
        refine r_getf dX1_examineNext_47 fX1_48 (by repeat first | exact wu_eq | assumption | (apply wu_ne; first | omega | assumption | (apply Ne.symm; assumption))) (by rfl) ?_
        refine r_goto (tgt := 57) dX1_examineNext_50 (by decide) ?_
        refine r_aload_n dX1_examineNext_57 rfl ?_
        refine r_getf dX1_examineNext_58 fX1_35 (by repeat first | exact wu_eq | assumption | (apply wu_ne; first | omega | assumption | (apply Ne.symm; assumption))) (by rfl) ?_
        refine r_invS dX1_examineNext_61 kX1_77 (c_copy (n := W) (m := W) (u := fi) (v := C) (by decide) g26 g22 (by omega) (by omega) a8 hCW) rfl rfl ⟨by decide, by decide⟩ (Nat.le_of_ble_eq_true rfl) ⟨by decide, by decide⟩ ⟨rfl, rfl⟩ ?_
        rintro _ _ _ ⟨rfl, rfl, rfl⟩
        refine r_aload_n dX1_examineNext_64 rfl ?_
        refine r_dup dX1_examineNext_65 rfl ?_
        refine r_getf dX1_examineNext_66 fX1_58 (by repeat first | exact wu_eq | assumption | (apply wu_ne; first | omega | assumption | (apply Ne.symm; assumption))) (by rfl) ?_
        refine r_iconst (v := nI 1) dX1_examineNext_69 (by decide) ?_
        first | refine r_iaddN dX1_examineNext_70 ?_ | refine r_iadd dX1_examineNext_70 ?_
        refine r_putf dX1_examineNext_71 fX1_58 (by repeat first | exact wu_eq | assumption | (apply wu_ne; first | omega | assumption | (apply Ne.symm; assumption))) rfl (by exact Nat.le_of_ble_eq_true rfl) (by rfl) (by rfl) ?_
        refine r_ret (r := none) dX1_examineNext_74 (by decide) (by decide) ?_
        rw [Nat.mod_eq_of_lt hCW, if_pos h43, if_pos h43]
        refine ⟨?_, ?_, ?_, rfl, rfl⟩
        · exact HS.obj (bg := bg) (pf := pf) (ex := ex + 1) (un := un + 1) ⟨wu_ne (by decide) g13, m2.keep fun k a b => wu_ne (by omega) rfl, m3.keep fun k a b => wu_ne (by omega) rfl, ⟨C, wu_ne (by decide) g22, hC0⟩, wu_eq, wu_ne (by decide) g27, hCW, a9, a10, a11, a12, a13, a14, a15⟩ (by omega) a15
        · exact D4.keep fun k a b => wu_ne (by omega) (wu_ne (by omega) rfl)
        · exact fun j hj => (wu_ne (by omega) (wu_ne (by omega) rfl)).trans (F4 j hj)
  · refine r_ret (r := none) dX1_examineNext_21 (by decide) (by decide) ?_
    have hnd : ¬ ND C := hbi.mp (by omega)
    unfold xs
    rw [xif_f hnd]
    exact ⟨H1, D1, F1, rfl, rfl⟩
