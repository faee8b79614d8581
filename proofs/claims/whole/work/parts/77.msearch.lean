/-! SignHouseModel: examines, search -/
def mkp (pf : Nat) : Nat := if pf = 0 then 0 else 1
def MH (w : ab_W) (half rounds c : Nat) (ω : Nat → Nat) (bg : Nat) (σ : hT) (d : Nat → Nat) (len R sg vf : Nat) : Prop := ∃ bu v, w 74 = mdO half rounds bu c bg (mk1 (hF σ)) (mkp (hF σ)) (hX σ) (hU σ) (hP σ / 32) (hP σ % 32) sg vf len ∧ w 75 = xA v ∧ MB w ∧ ME w c ω d ∧ v 7 = R ∧ (hF σ = 1 → v 2 = hA σ) ∧ (hF σ = 2 → ∀ k, k < 7 → v k = kvp (kP σ) (kQ σ) k) ∧ len ≤ 300 ∧ 31 ≤ half ∧ half ≤ 40 ∧ rounds ≤ 8
theorem MH.keep {w w' : ab_W} {half rounds c : Nat} {ω : Nat → Nat} {bg : Nat} {σ : hT} {d : Nat → Nat} {len R sg vf : Nat} (h : MH w half rounds c ω bg σ d len R sg vf) (hk : ∀ k, 73 < k → w' k = w k) : MH w' half rounds c ω bg σ d len R sg vf := by
  obtain ⟨bu, v, h1, h2, h3, h4, h5⟩ := h
  exact ⟨bu, v, (hk 74 (by decide)).trans h1, (hk 75 (by decide)).trans h2, h3.keep fun k a b => hk k (by omega), h4.keep fun k a b => hk k (by omega), h5⟩
theorem PRM.b20 {C half : Nat} (h : PRM C half) (h1 : 31 ≤ half) (h2 : half ≤ 40) : bn20 C := by
  refine ⟨Nat.le_trans (show 65536 ≤ 256 ^ 2 by decide) (Nat.le_trans (Nat.pow_le_pow_right (by decide) (by omega)) h.2.1), Nat.lt_of_lt_of_le h.2.2.1 ?_⟩
  rw [show (65536 : Nat) = 256 ^ 2 by decide, ← Nat.pow_mul]
  exact Nat.pow_le_pow_right (by decide) (by omega)
theorem cand_b20 {ω : Nat → Nat} {c half P : Nat} (h1 : 31 ≤ half) (h2 : half ≤ 40) : bn20 (cand ω c half P) := by
  refine ⟨Nat.le_trans (show 65536 ≤ 256 ^ 2 by decide) (Nat.le_trans (Nat.pow_le_pow_right (by decide) (by omega)) (cand_big ω c half P (by omega))), Nat.lt_of_lt_of_le (cand_lt ω c half P) ?_⟩
  rw [show (65536 : Nat) = 256 ^ 2 by decide, ← Nat.pow_mul]
  exact Nat.pow_le_pow_right (by decide) (by omega)
theorem cbp_or {half i b : Nat} (hi : i < half) (hh : 1 < half) : b ||| (if i = 0 then 192 else 0) ||| (if i = half - 1 then 1 else 0) = cbp half (half - 1 - i) b := by
  unfold cbp
  by_cases h0 : i = 0
  · rw [if_pos h0, if_neg (by omega), if_neg (by omega), if_pos (by omega), Nat.or_zero]
  · rw [if_neg h0, Nat.or_zero]
    by_cases h1 : i = half - 1
    · rw [if_pos h1, if_pos (by omega), if_neg (by omega)]
    · rw [if_neg h1, if_neg (by omega), if_neg (by omega), Nat.or_zero]
set_option maxRecDepth 100000 in
set_option maxHeartbeats 4000000 in
theorem c_examines {g : ab_G} {N half rounds c bg : Nat} {ω d : Nat → Nat} {σ : hT} {len R sg vf : Nat} {w : ab_W} (h : MH w half rounds c ω bg σ d len R sg vf) (hI : INV half σ) (hF2 : hF σ ≠ 2) : ab_Ct MX8_examines g [.ref 74] N w (fun r N' w' => MH w' half rounds c ω bg (hs1 half rounds c ω σ) d len R sg vf ∧ (∀ k, k < 74 → w' k = w k) ∧ r = none ∧ N = N') := by
  obtain ⟨P, pf, ex, un, fi, se⟩ := σ
  obtain ⟨bu, v, h1, h2, h3, h4, h5, h6, h7, h8, h9, h10, h11⟩ := h
  obtain ⟨I1, I2, I3⟩ := hI
  unfold hs1
  rw [if_neg hF2]
  dsimp only [hP, hF, hX, hU, hA, hB] at *
  have hCn := cand_b20 (ω := ω) (c := c) (P := P) h9 h10
  have hCl := cand_lt ω c half P
  have hCo := cand_odd ω c half P (by omega)
  have hCd := fun pl (q : pl < half) => cand_dg ω c half P q
  have hCp := PRM_cand (ω := ω) (c := c) (P := P) h9
  generalize cand ω c half P = C at *
  have hik : mk1 pf = 0 := by unfold mk1; rw [if_neg hF2]
  rw [hik] at h1
  -- behind the drawing
  have K67 : ∀ w1 bu1 v1, w1 74 = mdO half rounds bu1 c bg 0 (mkp pf) ex un ((P + half) / 32) ((P + half) % 32) sg vf len → w1 75 = xA v1 → MB w1 → (∀ k, k ≠ 74 → k ≠ 75 → (k < 76 ∨ 78 < k) → w1 k = w k) → v1 8 = C → (∀ k, k < 8 → v1 k = v k) → ab_St MX8_examines g 0 0 67 [(0, .ref 74)] [] N w1 (fun r N' w' => MH w' half rounds c ω bg (P + half, (xs C rounds pf un fi se).1, ex + 1, (xs C rounds pf un fi se).2.1, (xs C rounds pf un fi se).2.2.1, (xs C rounds pf un fi se).2.2.2) d len R sg vf ∧ (∀ k, k < 74 → w' k = w k) ∧ r = none ∧ N = N') := by
    intro w1 bu1 v1 e74 e75 eB eF e8 eK
    clear hCl hCd
    refine r_aload_n dX8_examines_67 rfl ?_
    refine r_dup dX8_examines_68 rfl ?_
    refine r_getf dX8_examines_69 fX8_248 (by repeat first | exact wu_eq | assumption | (apply wu_ne; first | omega | assumption | (apply Ne.symm; assumption))) (by rfl) ?_
    refine r_iconst (v := nI 1) dX8_examines_72 (by decide) ?_
    first | refine r_iaddN dX8_examines_73 ?_ | refine r_iadd dX8_examines_73 ?_
    refine r_putf dX8_examines_74 fX8_248 (by repeat first | exact wu_eq | assumption | (apply wu_ne; first | omega | assumption | (apply Ne.symm; assumption))) rfl (by exact Nat.le_of_ble_eq_true rfl) (by rfl) (by rfl) ?_
    refine r_toW (w' := wu w1 74 (mdO half rounds bu1 c bg 0 (mkp pf) (ex + 1) un ((P + half) / 32) ((P + half) % 32) sg vf len)) rfl ?_
    have f74 : (wu w1 74 (mdO half rounds bu1 c bg 0 (mkp pf) (ex + 1) un ((P + half) / 32) ((P + half) % 32) sg vf len)) 74 = mdO half rounds bu1 c bg 0 (mkp pf) (ex + 1) un ((P + half) / 32) ((P + half) % 32) sg vf len := wu_eq
    have f75 : (wu w1 74 (mdO half rounds bu1 c bg 0 (mkp pf) (ex + 1) un ((P + half) / 32) ((P + half) % 32) sg vf len)) 75 = xA v1 := wu_ne (by decide) e75
    have fF : ∀ k, k ≠ 74 → (wu w1 74 (mdO half rounds bu1 c bg 0 (mkp pf) (ex + 1) un ((P + half) / 32) ((P + half) % 32) sg vf len)) k = w1 k := fun k a => wu_ne a rfl
    generalize wu w1 74 (mdO half rounds bu1 c bg 0 (mkp pf) (ex + 1) un ((P + half) / 32) ((P + half) % 32) sg vf len) = w2 at f74 f75 fF ⊢
    have hfi : 0 < pf → v1 2 = fi ∧ bnd fi := fun q => by
      have hp1 : pf = 1 := by omega
      exact ⟨(eK 2 (by decide)).trans (h6 hp1), ((I1 (by omega)).b20 h9 h10).b⟩
    refine r_aload_n dX8_examines_77 rfl ?_
    refine r_invV dX8_examines_78 kX8_251 (c_misGood (C := C) (rounds := rounds) (pf := pf) (fi := fi) (v := v1) f74 f75 e8 hCn.b40 hCo h11 rfl hfi) rfl rfl (by repeat first | exact wu_eq | assumption | (apply wu_ne; first | omega | assumption | (apply Ne.symm; assumption))) rfl rfl ⟨by decide, by decide⟩ (Nat.le_of_ble_eq_true rfl) ⟨by decide, by decide⟩ ⟨rfl, rfl⟩ ?_
    rintro _ _ w3 ⟨⟨b, hb, rfl, hbi⟩, g74, ⟨v2, g75, gv⟩, gF, rfl⟩
    have gK : ∀ k, k < 8 → v2 k = v k := fun k a => (gv k (by omega) (by omega) (by omega) (by omega)).trans (eK k a)
    have g8 : v2 8 = C := (gv 8 (by decide) (by decide) (by decide) (by decide)).trans e8
    have gB : MB w3 := eB.keep fun k a b => (gF k (by omega) (by omega)).trans (fF k (by omega))
    have gE : ME w3 c ω d := h4.keep fun k a b => (gF k (by omega) (by omega)).trans ((fF k (by omega)).trans (eF k (by omega) (by omega) (by omega)))
    have gL : ∀ k, k < 74 → w3 k = w k := fun k a => (gF k (by omega) (by omega)).trans ((fF k (by omega)).trans (eF k (by omega) (by omega) (by omega)))
    clear fF f74 f75 eF e74 e75 eB
    have hun : (xs C rounds pf un fi se).2.1 = xif (ND C) (un + 1) un := by
      unfold xs
      by_cases q1 : ND C
      · rw [xif_t q1, xif_t q1]
        by_cases q2 : GD C rounds pf fi
        · rw [xif_t q2]
        · rw [xif_f q2]
      · rw [xif_f q1, xif_f q1]
    rw [hun]
    generalize xif (ND C) (un + 1) un = un1 at g74 ⊢
    first | refine r_if_eqN (tgt := 118) dX8_examines_81 (by decide) (by omega) (fun h81 => ?_) (fun h81 => ?_) | refine r_if_eq (tgt := 118) dX8_examines_81 (by decide) (fun h81 => ?_) (fun h81 => ?_)
    · refine r_ret (r := none) dX8_examines_118 (by decide) (by decide) ?_
      have hx1 : ¬ (ND C ∧ GD C rounds pf fi) := fun q => by have := hbi.mpr q; omega
      have e : (xs C rounds pf un fi se).1 = pf ∧ (xs C rounds pf un fi se).2.2.1 = fi ∧ (xs C rounds pf un fi se).2.2.2 = se := by
        unfold xs
        by_cases q1 : ND C
        · rw [xif_t q1, xif_f fun q2 => hx1 ⟨q1, q2⟩]
          exact ⟨rfl, rfl, rfl⟩
        · rw [xif_f q1]
          exact ⟨rfl, rfl, rfl⟩
      rw [e.1, e.2.1, e.2.2]
      refine ⟨⟨bu1, v2, ?_, g75, gB, gE, (gK 7 (by decide)).trans h5, fun q => (gK 2 (by decide)).trans (h6 q), fun q => absurd q hF2, h8, h9, h10, h11⟩, gL, rfl, rfl⟩
      dsimp only [hF, hX, hU, hP]
      rw [hik]
      exact g74
    · obtain ⟨q1, q2⟩ := hbi.mp (by omega)
      have hC1 := hCp q2.1
      have hCne := q2.2.1
      rcases (by omega : pf = 0 ∨ pf = 1) with rfl | rfl
      · have e : (xs C rounds 0 un fi se).1 = 1 ∧ (xs C rounds 0 un fi se).2.2.1 = C ∧ (xs C rounds 0 un fi se).2.2.2 = se := by
          unfold xs
          rw [xif_t q1, xif_t q2]
          exact ⟨rfl, rfl, rfl⟩
        rw [e.1, e.2.1, e.2.2]
        rw [show mkp 0 = 0 from rfl] at g74
        clear q1 q2 hC1 hCne hbi hCp hCo
        refine r_aload_n dX8_examines_84 rfl ?_
        refine r_aload_n dX8_examines_85 rfl ?_
        refine r_getf dX8_examines_86 fX8_220 (by repeat first | exact wu_eq | assumption | (apply wu_ne; first | omega | assumption | (apply Ne.symm; assumption))) (by rfl) ?_
        first | refine r_if_eqN (tgt := 96) dX8_examines_89 (by decide) (by omega) (fun h89 => ?_) (fun h89 => ?_) | refine r_if_eq (tgt := 96) dX8_examines_89 (by decide) (fun h89 => ?_) (fun h89 => ?_)
        · refine r_iconst (v := nI 2) dX8_examines_96 (by decide) ?_
          refine r_bipush (v := nI 8) dX8_examines_97 (by decide) ?_
          refine r_invV dX8_examines_99 kX8_139 (c_mcopy (t := 2) (s := 8) (v := v2) g74 g75 (by decide) (by decide) (by decide)) rfl rfl (by repeat first | exact wu_eq | assumption | (apply wu_ne; first | omega | assumption | (apply Ne.symm; assumption))) rfl rfl ⟨by decide, by decide⟩ (Nat.le_of_ble_eq_true rfl) ⟨by decide, by decide⟩ ⟨rfl, rfl⟩ ?_
          rintro _ _ _ ⟨rfl, rfl, rfl⟩
          rw [g8]
          refine r_aload_n dX8_examines_102 rfl ?_
          refine r_getf dX8_examines_103 fX8_220 (by repeat first | exact wu_eq | assumption | (apply wu_ne; first | omega | assumption | (apply Ne.symm; assumption))) (by rfl) ?_
          first | refine r_if_eqN (tgt := 113) dX8_examines_106 (by decide) (by omega) (fun h106 => ?_) (fun h106 => ?_) | refine r_if_eq (tgt := 113) dX8_examines_106 (by decide) (fun h106 => ?_) (fun h106 => ?_)
          · refine r_aload_n dX8_examines_113 rfl ?_
            refine r_iconst (v := nI 1) dX8_examines_114 (by decide) ?_
            refine r_putf dX8_examines_115 fX8_220 (by repeat first | exact wu_eq | assumption | (apply wu_ne; first | omega | assumption | (apply Ne.symm; assumption))) rfl (by exact Nat.le_of_ble_eq_true rfl) (by rfl) (by rfl) ?_
            refine r_ret (r := none) dX8_examines_118 (by decide) (by decide) ?_
            refine ⟨⟨bu1, us v2 2 C, wu_eq, wu_ne (by decide) wu_eq, gB.keep fun k a b => wu_ne (by omega) (wu_ne (by omega) rfl), gE.keep fun k a b => wu_ne (by omega) (wu_ne (by omega) rfl), ?_, fun _ => us_eq, fun q => absurd (show (1 : Nat) = 2 from q) (by decide), h8, h9, h10, h11⟩, fun k a => (wu_ne (by omega) (wu_ne (by omega) rfl)).trans (gL k a), rfl, rfl⟩
            exact (us_ne (by decide)).trans ((gK 7 (by decide)).trans h5)
          · omega
        · omega
      · have e : (xs C rounds 1 un fi se).1 = 2 ∧ (xs C rounds 1 un fi se).2.2.1 = fi ∧ (xs C rounds 1 un fi se).2.2.2 = C := by
          unfold xs
          rw [xif_t q1, xif_t q2]
          exact ⟨rfl, rfl, rfl⟩
        rw [e.1, e.2.1, e.2.2]
        rw [show mkp 1 = 1 from rfl] at g74
        have hF1 := I1 (Nat.le_refl 1)
        have b1 := hF1.b20 h9 h10
        have b2 := hC1.b20 h9 h10
        have r1 := hF1.2.2.2
        have r2 := hC1.2.2.2
        have ev2 : v2 2 = fi := (gK 2 (by decide)).trans (h6 rfl)
        clear q1 q2 hC1 hCne hbi hCp hCo hF1
        refine r_aload_n dX8_examines_84 rfl ?_
        refine r_aload_n dX8_examines_85 rfl ?_
        refine r_getf dX8_examines_86 fX8_220 (by repeat first | exact wu_eq | assumption | (apply wu_ne; first | omega | assumption | (apply Ne.symm; assumption))) (by rfl) ?_
        first | refine r_if_eqN (tgt := 96) dX8_examines_89 (by decide) (by omega) (fun h89 => ?_) (fun h89 => ?_) | refine r_if_eq (tgt := 96) dX8_examines_89 (by decide) (fun h89 => ?_) (fun h89 => ?_)
        · omega
        · refine r_iconst (v := nI 3) dX8_examines_92 (by decide) ?_
          refine r_goto (tgt := 97) dX8_examines_93 (by decide) ?_
          refine r_bipush (v := nI 8) dX8_examines_97 (by decide) ?_
          refine r_invV dX8_examines_99 kX8_139 (c_mcopy (t := 3) (s := 8) (v := v2) g74 g75 (by decide) (by decide) (by decide)) rfl rfl (by repeat first | exact wu_eq | assumption | (apply wu_ne; first | omega | assumption | (apply Ne.symm; assumption))) rfl rfl ⟨by decide, by decide⟩ (Nat.le_of_ble_eq_true rfl) ⟨by decide, by decide⟩ ⟨rfl, rfl⟩ ?_
          rintro _ _ _ ⟨rfl, rfl, rfl⟩
          rw [g8]
          refine r_aload_n dX8_examines_102 rfl ?_
          refine r_getf dX8_examines_103 fX8_220 (by repeat first | exact wu_eq | assumption | (apply wu_ne; first | omega | assumption | (apply Ne.symm; assumption))) (by rfl) ?_
          first | refine r_if_eqN (tgt := 113) dX8_examines_106 (by decide) (by omega) (fun h106 => ?_) (fun h106 => ?_) | refine r_if_eq (tgt := 113) dX8_examines_106 (by decide) (fun h106 => ?_) (fun h106 => ?_)
          · omega
          · refine r_aload_n dX8_examines_109 rfl ?_
            refine r_invV dX8_examines_110 kX8_254 (c_makesKey (p0 := fi) (q0 := C) (v := us v2 3 C) (wu_ne (by decide) g74) wu_eq ((us_ne (by decide)).trans ev2) us_eq b1 b2 r1 r2) rfl rfl (by repeat first | exact wu_eq | assumption | (apply wu_ne; first | omega | assumption | (apply Ne.symm; assumption))) rfl rfl ⟨by decide, by decide⟩ (Nat.le_of_ble_eq_true rfl) ⟨by decide, by decide⟩ ⟨rfl, rfl⟩ ?_
            rintro _ _ w4 ⟨k74, ⟨v4, k75, kk, k7⟩, kF, rfl, rfl⟩
            refine r_aload_n dX8_examines_113 rfl ?_
            refine r_iconst (v := nI 1) dX8_examines_114 (by decide) ?_
            refine r_putf dX8_examines_115 fX8_220 (by repeat first | exact wu_eq | assumption | (apply wu_ne; first | omega | assumption | (apply Ne.symm; assumption))) rfl (by exact Nat.le_of_ble_eq_true rfl) (by rfl) (by rfl) ?_
            refine r_ret (r := none) dX8_examines_118 (by decide) (by decide) ?_
            refine ⟨⟨bu1, v4, wu_eq, wu_ne (by decide) k75, gB.keep fun k a b => (wu_ne (by omega) rfl).trans ((kF k (by omega) (by omega)).trans (wu_ne (by omega) rfl)), gE.keep fun k a b => (wu_ne (by omega) rfl).trans ((kF k (by omega) (by omega)).trans (wu_ne (by omega) rfl)), ?_, fun q => absurd (show (2 : Nat) = 1 from q) (by decide), fun _ => kk, h8, h9, h10, h11⟩, fun k a => (wu_ne (by omega) rfl).trans ((kF k (by omega) (by omega)).trans ((wu_ne (by omega) rfl).trans (gL k a))), rfl, rfl⟩
            exact k7.trans ((us_ne (by decide)).trans ((gK 7 (by decide)).trans h5))
  -- the drawing
  have K8 : ∀ z i w1 bu1 v1, i + z = half → w1 74 = mdO half rounds bu1 c bg 0 (mkp pf) ex un ((P + i) / 32) ((P + i) % 32) sg vf len → w1 75 = xA v1 → MB w1 → (∀ k, k ≠ 74 → k ≠ 75 → (k < 76 ∨ 78 < k) → w1 k = w k) → v1 8 < 256 ^ half → (∀ pl, half - i ≤ pl → pl < half → dg 256 (v1 8) pl = cbp half pl (dby ω c (P + (half - 1 - pl)))) → (∀ k, k < 8 → v1 k = v k) → ab_St MX8_examines g 0 0 8 [(1, .int (nI i)), (0, .ref 74)] [] N w1 (fun r N' w' => MH w' half rounds c ω bg (P + half, (xs C rounds pf un fi se).1, ex + 1, (xs C rounds pf un fi se).2.1, (xs C rounds pf un fi se).2.2.1, (xs C rounds pf un fi se).2.2.2) d len R sg vf ∧ (∀ k, k < 74 → w' k = w k) ∧ r = none ∧ N = N') := by
    intro z
    induction z with
    | zero =>
      intro i w1 bu1 v1 hi e74 e75 eB eF e8 edg eK
      obtain rfl : i = half := by omega
      refine r_iload_n dX8_examines_8 rfl ?_
      refine r_aload_n dX8_examines_9 rfl ?_
      refine r_getf dX8_examines_10 fX8_109 (by repeat first | exact wu_eq | assumption | (apply wu_ne; first | omega | assumption | (apply Ne.symm; assumption))) (by rfl) ?_
      first | refine r_icmp_geN (tgt := 67) dX8_examines_13 (by decide) (by omega) (by omega) (fun h13 => ?_) (fun h13 => ?_) | refine r_icmp_ge (tgt := 67) dX8_examines_13 (by decide) (fun h13 => ?_) (fun h13 => ?_)
      · refine r_sub [1] rfl ?_
        refine K67 w1 bu1 v1 e74 e75 eB eF ?_ eK
        exact dg_ext e8 hCl fun pl hpl => by rw [edg pl (by omega) hpl, hCd pl hpl]
      · omega
    | succ z ih =>
      intro i w1 bu1 v1 hi e74 e75 eB eF e8 edg eK
      have eE : ME w1 c ω d := h4.keep fun k a b => eF k (by omega) (by omega) (by omega)
      have hby := dby_lt ω c (P + i)
      have hcb := cbp_lt (half := half) (pl := half - 1 - i) hby
      have hor := cbp_or (half := half) (i := i) (b := dby ω c (P + i)) (by omega) (by omega)
      have K58 : ∀ w2 bu2, w2 74 = mdO half rounds bu2 c bg 0 (mkp pf) ex un ((P + i + 1) / 32) ((P + i + 1) % 32) sg vf len → w2 75 = xA v1 → MB w2 → (∀ k, k ≠ 74 → (k < 76 ∨ 78 < k) → w2 k = w1 k) → ∀ x, x = cbp half (half - 1 - i) (dby ω c (P + i)) → ab_St MX8_examines g 0 0 58 [(2, .int (nI (dby ω c (P + i)))), (1, .int (nI i)), (0, .ref 74)] [.int (nI x), .int (nI i), .int (nI half), .int (nI 8), .ref 74] N w2 (fun r N' w' => MH w' half rounds c ω bg (P + half, (xs C rounds pf un fi se).1, ex + 1, (xs C rounds pf un fi se).2.1, (xs C rounds pf un fi se).2.2.1, (xs C rounds pf un fi se).2.2.2) d len R sg vf ∧ (∀ k, k < 74 → w' k = w k) ∧ r = none ∧ N = N') := by
        intro w2 bu2 f74 f75 fB fF x hx
        subst hx
        refine r_invV dX8_examines_58 kX8_244 (c_byteTo (s := 8) (z := half) (i := i) (b := cbp half (half - 1 - i) (dby ω c (P + i))) (v := v1) f74 f75 (by decide) (by omega) (by omega) hcb) rfl rfl (by repeat first | exact wu_eq | assumption | (apply wu_ne; first | omega | assumption | (apply Ne.symm; assumption))) rfl rfl ⟨by decide, by decide⟩ (Nat.le_of_ble_eq_true rfl) ⟨by decide, by decide⟩ ⟨rfl, rfl⟩ ?_
        rintro _ _ _ ⟨rfl, rfl, rfl⟩
        refine r_iinc (L0 := [(2, _), (0, _)]) dX8_examines_61 rfl (by first | exact iinc1 _ | rfl) (by decide) rfl ?_
        refine r_goto (tgt := 8) dX8_examines_64 (by decide) ?_
        refine r_sub [0, 2] rfl ?_
        refine ih (i + 1) _ bu2 (us v1 8 (ud 256 (v1 8) (half - 1 - i) (cbp half (half - 1 - i) (dby ω c (P + i))))) (by omega) (wu_ne (by decide) f74) wu_eq (fB.keep fun k a b => wu_ne (by omega) rfl) (fun k a b q => (wu_ne b rfl).trans ((fF k a q).trans (eF k a b q))) ?_ ?_ fun k a => (us_ne (by omega)).trans (eK k a)
        · rw [us_eq]
          exact ud_lt (by decide) hcb e8 (by omega)
        · intro pl a b
          rw [us_eq, dg_ud (by decide) hcb]
          by_cases q : pl = half - 1 - i
          · rw [if_pos q, q, show half - 1 - (half - 1 - i) = i by omega]
          · rw [if_neg q, edg pl (by omega) b]
      refine r_iload_n dX8_examines_8 rfl ?_
      refine r_aload_n dX8_examines_9 rfl ?_
      refine r_getf dX8_examines_10 fX8_109 (by repeat first | exact wu_eq | assumption | (apply wu_ne; first | omega | assumption | (apply Ne.symm; assumption))) (by rfl) ?_
      first | refine r_icmp_geN (tgt := 67) dX8_examines_13 (by decide) (by omega) (by omega) (fun h13 => ?_) (fun h13 => ?_) | refine r_icmp_ge (tgt := 67) dX8_examines_13 (by decide) (fun h13 => ?_) (fun h13 => ?_)
      · omega
      · refine r_aload_n dX8_examines_16 rfl ?_
        refine r_invV dX8_examines_17 kX8_240 (c_draws (P := P + i) e74 eB eE) rfl rfl (by repeat first | exact wu_eq | assumption | (apply wu_ne; first | omega | assumption | (apply Ne.symm; assumption))) rfl rfl ⟨by decide, by decide⟩ (Nat.le_of_ble_eq_true rfl) ⟨by decide, by decide⟩ ⟨rfl, rfl⟩ ?_
        rintro _ _ w2 ⟨⟨bu2, f74⟩, fB, fF, rfl, rfl⟩
        have f75 := (fF 75 (by decide) (by decide)).trans e75
        have K58' := K58 w2 bu2 f74 f75 fB fF
        clear K58 ih
        have K41 : ∀ x, x = (if i = 0 then 192 else 0) → ab_St MX8_examines g 0 0 41 [(2, .int (nI (dby ω c (P + i)))), (1, .int (nI i)), (0, .ref 74)] [.int (nI x), .int (nI (dby ω c (P + i))), .int (nI i), .int (nI half), .int (nI 8), .ref 74] N w2 (fun r N' w' => MH w' half rounds c ω bg (P + half, (xs C rounds pf un fi se).1, ex + 1, (xs C rounds pf un fi se).2.1, (xs C rounds pf un fi se).2.2.1, (xs C rounds pf un fi se).2.2.2) d len R sg vf ∧ (∀ k, k < 74 → w' k = w k) ∧ r = none ∧ N = N') := by
          intro x hx
          subst hx
          refine r_ior dX8_examines_41 ?_
          rw [nI_or]
          refine r_iload_n dX8_examines_42 rfl ?_
          refine r_aload_n dX8_examines_43 rfl ?_
          refine r_getf dX8_examines_44 fX8_109 (by repeat first | exact wu_eq | assumption | (apply wu_ne; first | omega | assumption | (apply Ne.symm; assumption))) (by rfl) ?_
          refine r_iconst (v := nI 1) dX8_examines_47 (by decide) ?_
          first | refine r_isubN dX8_examines_48 (by omega) ?_ | refine r_isub dX8_examines_48 ?_
          first | refine r_icmp_neN (tgt := 56) dX8_examines_49 (by decide) (by omega) (by omega) (fun h49 => ?_) (fun h49 => ?_) | refine r_icmp_ne (tgt := 56) dX8_examines_49 (by decide) (fun h49 => ?_) (fun h49 => ?_)
          · refine r_iconst (v := nI 0) dX8_examines_56 (by decide) ?_
            refine r_ior dX8_examines_57 ?_
            rw [nI_or]
            refine K58' _ ?_
            rw [← hor, if_neg h49]
          · refine r_iconst (v := nI 1) dX8_examines_52 (by decide) ?_
            refine r_goto (tgt := 57) dX8_examines_53 (by decide) ?_
            refine r_ior dX8_examines_57 ?_
            rw [nI_or]
            refine K58' _ ?_
            rw [← hor, if_pos h49]
        refine r_istore_n (i := 2) (L0 := [(1, _), (0, _)]) dX8_examines_20 rfl (by decide) rfl ?_
        refine r_aload_n dX8_examines_21 rfl ?_
        refine r_bipush (v := nI 8) dX8_examines_22 (by decide) ?_
        refine r_aload_n dX8_examines_24 rfl ?_
        refine r_getf dX8_examines_25 fX8_109 (by repeat first | exact wu_eq | assumption | (apply wu_ne; first | omega | assumption | (apply Ne.symm; assumption))) (by rfl) ?_
        refine r_iload_n dX8_examines_28 rfl ?_
        refine r_iload_n dX8_examines_29 rfl ?_
        refine r_iload_n dX8_examines_30 rfl ?_
        first | refine r_if_neN (tgt := 40) dX8_examines_31 (by decide) (by omega) (fun h31 => ?_) (fun h31 => ?_) | refine r_if_ne (tgt := 40) dX8_examines_31 (by decide) (fun h31 => ?_) (fun h31 => ?_)
        · refine r_iconst (v := nI 0) dX8_examines_40 (by decide) ?_
          exact K41 0 (by rw [if_neg h31])
        · refine r_sipush (v := nI 192) dX8_examines_34 (by decide) ?_
          refine r_goto (tgt := 41) dX8_examines_37 (by decide) ?_
          exact K41 192 (by rw [if_pos h31])
  refine ab_Ct.of (by decide +kernel) (Nat.le_of_ble_eq_true rfl) (by rintro _ _ _ ⟨-, -, rfl, -⟩; trivial) ?_
  show ab_St MX8_examines g 0 0 0 [(0, .ref 74)] [] _ _ _
  refine r_aload_n dX8_examines_0 rfl ?_
  refine r_bipush (v := nI 8) dX8_examines_1 (by decide) ?_
  refine r_invV dX8_examines_3 kX8_116 (c_clear (s := 8) (v := v) h1 h2 (by decide)) rfl rfl (by repeat first | exact wu_eq | assumption | (apply wu_ne; first | omega | assumption | (apply Ne.symm; assumption))) rfl rfl ⟨by decide, by decide⟩ (Nat.le_of_ble_eq_true rfl) ⟨by decide, by decide⟩ ⟨rfl, rfl⟩ ?_
  rintro _ _ _ ⟨rfl, rfl, rfl⟩
  refine r_iconst (v := nI 0) dX8_examines_6 (by decide) ?_
  refine r_istore_n (i := 1) (L0 := [(0, _)]) dX8_examines_7 rfl (by decide) rfl ?_
  refine K8 half 0 _ bu (us v 8 0) (by omega) (wu_ne (by decide) h1) wu_eq (h3.keep fun k a b => wu_ne (by omega) rfl) (fun k a b _ => wu_ne b rfl) ?_ (fun pl a b => by omega) fun k a => us_ne (by omega)
  rw [us_eq]
  exact Nat.pow_pos (by decide)
set_option maxRecDepth 100000 in
set_option maxHeartbeats 4000000 in
theorem c_msearch {g : ab_G} {N half rounds c bg m : Nat} {ω d : Nat → Nat} {σ : hT} {len R sg vf : Nat} {w : ab_W} (h : MH w half rounds c ω bg σ d len R sg vf) (hI : INV half σ) (h1 : 1 ≤ m) (h2 : m ≤ 60) (hc : 0 < c) : ab_Ct MX8_search g [.ref 74, .int (nI m)] N w (fun r N' w' => MH w' half rounds c ω 1 (hsn half rounds c ω m σ) d len R sg vf ∧ (∀ k, k < 74 → w' k = w k) ∧ r = some (.int (nI (mk1 (hF (hsn half rounds c ω m σ))))) ∧ N = N') := by
  obtain ⟨bu, v, a1, a2, a3, a4, a5, a6, a7, a8, a9, a10, a11⟩ := id h
  have hc16 : c ≤ 16 := by
    obtain ⟨-, -, -, -, -, -, q⟩ := id a4
    exact q
  have Kend : ∀ w1 τ, MH w1 half rounds c ω 1 τ d len R sg vf → (∀ k, k < 74 → w1 k = w k) → hsn half rounds c ω m σ = τ → ∀ L, lk L 0 = some (.ref 74) → ab_St MX8_search g 0 0 52 L [] N w1 (fun r N' w' => MH w' half rounds c ω 1 (hsn half rounds c ω m σ) d len R sg vf ∧ (∀ k, k < 74 → w' k = w k) ∧ r = some (.int (nI (mk1 (hF (hsn half rounds c ω m σ))))) ∧ N = N') := by
    intro w1 τ H F e L hL
    rw [e]
    obtain ⟨bu1, v1, e1, -⟩ := id H
    have hm := mk1_lt (hF τ)
    refine r_aload_n dX8_search_52 hL ?_
    refine r_getf dX8_search_53 fX8_237 (by repeat first | exact wu_eq | assumption | (apply wu_ne; first | omega | assumption | (apply Ne.symm; assumption))) (by rfl) ?_
    first | refine r_if_eqN (tgt := 63) dX8_search_56 (by decide) (by omega) (fun h56 => ?_) (fun h56 => ?_) | refine r_if_eq (tgt := 63) dX8_search_56 (by decide) (fun h56 => ?_) (fun h56 => ?_)
    · refine r_iconst (v := nI 0) dX8_search_63 (by decide) ?_
      refine r_ret (r := (some (.int _))) dX8_search_64 (by decide) (by decide) ?_
      rw [h56]
      exact ⟨H, F, rfl, rfl⟩
    · refine r_iconst (v := nI 1) dX8_search_59 (by decide) ?_
      refine r_goto (tgt := 64) dX8_search_60 (by decide) ?_
      refine r_ret (r := (some (.int _))) dX8_search_64 (by decide) (by decide) ?_
      rw [show mk1 (hF τ) = 1 by omega]
      exact ⟨H, F, rfl, rfl⟩
  have K : ∀ k j, j + k = m → ∀ w1, MH w1 half rounds c ω 1 (hsn half rounds c ω j σ) d len R sg vf → (∀ k, k < 74 → w1 k = w k) → ab_St MX8_search g 0 0 30 [(2, .int (nI j)), (0, .ref 74), (1, .int (nI m))] [] N w1 (fun r N' w' => MH w' half rounds c ω 1 (hsn half rounds c ω m σ) d len R sg vf ∧ (∀ k, k < 74 → w' k = w k) ∧ r = some (.int (nI (mk1 (hF (hsn half rounds c ω m σ))))) ∧ N = N') := by
    intro k
    induction k with
    | zero =>
      intro j hj w1 H F
      obtain rfl : j = m := by omega
      refine r_iload_n dX8_search_30 rfl ?_
      refine r_iload_n dX8_search_31 rfl ?_
      first | refine r_icmp_geN (tgt := 52) dX8_search_32 (by decide) (by omega) (by omega) (fun h32 => ?_) (fun h32 => ?_) | refine r_icmp_ge (tgt := 52) dX8_search_32 (by decide) (fun h32 => ?_) (fun h32 => ?_)
      · exact Kend w1 _ H F rfl _ rfl
      · omega
    | succ k ih =>
      intro j hj w1 H F
      have hI1 := hI.steps (rounds := rounds) (c := c) (ω := ω) a9 j
      have hnext : hsn half rounds c ω (j + 1) σ = hs1 half rounds c ω (hsn half rounds c ω j σ) := rfl
      have hstop := hsn_stop (half := half) (rounds := rounds) (c := c) (ω := ω) (σ := σ) (j := j)
      have ih1 := ih (j + 1) (by omega)
      rw [hnext] at ih1
      generalize hsn half rounds c ω j σ = τ at H hI1 hstop ih1
      obtain ⟨bu1, v1, e1, -⟩ := id H
      have hm := mk1_lt (hF τ)
      refine r_iload_n dX8_search_30 rfl ?_
      refine r_iload_n dX8_search_31 rfl ?_
      first | refine r_icmp_geN (tgt := 52) dX8_search_32 (by decide) (by omega) (by omega) (fun h32 => ?_) (fun h32 => ?_) | refine r_icmp_ge (tgt := 52) dX8_search_32 (by decide) (fun h32 => ?_) (fun h32 => ?_)
      · omega
      · refine r_aload_n dX8_search_35 rfl ?_
        refine r_getf dX8_search_36 fX8_237 (by repeat first | exact wu_eq | assumption | (apply wu_ne; first | omega | assumption | (apply Ne.symm; assumption))) (by rfl) ?_
        first | refine r_if_neN (tgt := 52) dX8_search_39 (by decide) (by omega) (fun h39 => ?_) (fun h39 => ?_) | refine r_if_ne (tgt := 52) dX8_search_39 (by decide) (fun h39 => ?_) (fun h39 => ?_)
        · refine Kend w1 _ H F ?_ _ rfl
          rw [show m = j + (k + 1) by omega]
          exact hstop (mk1_1 h39) (k + 1)
        · refine r_aload_n dX8_search_42 rfl ?_
          refine r_invV dX8_search_43 kX8_261 (c_examines H hI1 (mk1_0 h39)) rfl rfl (by repeat first | exact wu_eq | assumption | (apply wu_ne; first | omega | assumption | (apply Ne.symm; assumption))) rfl rfl ⟨by decide, by decide⟩ (Nat.le_of_ble_eq_true rfl) ⟨by decide, by decide⟩ ⟨rfl, rfl⟩ ?_
          rintro _ _ w2 ⟨H2, F2, rfl, rfl⟩
          refine r_iinc (L0 := [(0, _), (1, _)]) dX8_search_46 rfl (by first | exact iinc1 _ | rfl) (by decide) rfl ?_
          refine r_goto (tgt := 30) dX8_search_49 (by decide) ?_
          exact ih1 w2 H2 fun k a => (F2 k a).trans (F k a)
  refine ab_Ct.of (by decide +kernel) (Nat.le_of_ble_eq_true rfl) (by rintro _ _ _ ⟨-, -, rfl, -⟩; trivial) ?_
  show ab_St MX8_search g 0 0 0 [(0, .ref 74), (1, .int (nI m))] [] _ _ _
  refine r_iload_n dX8_search_0 rfl ?_
  refine r_iconst (v := nI 1) dX8_search_1 (by decide) ?_
  refine r_bipush (v := nI 60) dX8_search_2 (by decide) ?_
  refine r_invS dX8_search_4 kX8_257 (c_in (a := m) (lo := 1) (hi := 60) (by omega) (by decide) (by decide)) rfl rfl ⟨by decide, by decide⟩ (Nat.le_of_ble_eq_true rfl) ⟨by decide, by decide⟩ ⟨rfl, rfl⟩ ?_
  rintro _ _ _ ⟨rfl, rfl, rfl⟩
  rw [if_pos ⟨h1, h2⟩]
  first | refine r_if_neN (tgt := 13) dX8_search_7 (by decide) (by omega) (fun h7 => ?_) (fun h7 => ?_) | refine r_if_ne (tgt := 13) dX8_search_7 (by decide) (fun h7 => ?_) (fun h7 => ?_)
  · refine r_aload_n dX8_search_13 rfl ?_
    refine r_getf dX8_search_14 fX8_173 (by repeat first | exact wu_eq | assumption | (apply wu_ne; first | omega | assumption | (apply Ne.symm; assumption))) (by rfl) ?_
    first | refine r_if_neN (tgt := 23) dX8_search_17 (by decide) (by omega) (fun h17 => ?_) (fun h17 => ?_) | refine r_if_ne (tgt := 23) dX8_search_17 (by decide) (fun h17 => ?_) (fun h17 => ?_)
    · refine r_aload_n dX8_search_23 rfl ?_
      refine r_iconst (v := nI 1) dX8_search_24 (by decide) ?_
      refine r_putf dX8_search_25 fX8_169 (by repeat first | exact wu_eq | assumption | (apply wu_ne; first | omega | assumption | (apply Ne.symm; assumption))) rfl (by exact Nat.le_of_ble_eq_true rfl) (by rfl) (by rfl) ?_
      refine r_iconst (v := nI 0) dX8_search_28 (by decide) ?_
      refine r_istore_n (i := 2) (L0 := [(0, _), (1, _)]) dX8_search_29 rfl (by decide) rfl ?_
      refine K m 0 (by omega) _ ?_ fun k a => wu_ne (by omega) rfl
      exact ⟨bu, v, wu_eq, wu_ne (by decide) a2, a3.keep fun k a b => wu_ne (by omega) rfl, a4.keep fun k a b => wu_ne (by omega) rfl, a5, a6, a7, a8, a9, a10, a11⟩
    · omega
  · omega
set_option maxRecDepth 100000 in
set_option maxHeartbeats 4000000 in
theorem c_msearch_neg {g : ab_G} {N : Nat} {fs : List Value} {x : Int32} {w : ab_W} (h : w 74 = mdX fs) (hx : x < 0) : ab_Ct MX8_search g [.ref 74, .int x] N w (rp (some (.int (-2))) N w) := by
  refine ab_Ct.of (by decide +kernel) (Nat.le_of_ble_eq_true rfl) (by rintro _ _ _ ⟨rfl, rfl, rfl⟩; trivial) ?_
  show ab_St MX8_search g 0 0 0 [(0, .ref 74), (1, .int x)] [] _ _ _
  refine r_iload_n dX8_search_0 rfl ?_
  refine r_iconst (v := nI 1) dX8_search_1 (by decide) ?_
  refine r_bipush (v := nI 60) dX8_search_2 (by decide) ?_
  refine r_invS dX8_search_4 kX8_257 (c_in_neg (lo := 1) hx (by decide)) rfl rfl ⟨by decide, by decide⟩ (Nat.le_of_ble_eq_true rfl) ⟨by decide, by decide⟩ ⟨rfl, rfl⟩ ?_
  rintro _ _ _ ⟨rfl, rfl, rfl⟩
  first | refine r_if_neN (tgt := 13) dX8_search_7 (by decide) (by omega) (fun h7 => ?_) (fun h7 => ?_) | refine r_if_ne (tgt := 13) dX8_search_7 (by decide) (fun h7 => ?_) (fun h7 => ?_)
  · omega
  · refine r_bipush (v := (-2)) dX8_search_10 (by decide) ?_
    refine r_ret (r := (some (.int _))) dX8_search_12 (by decide) (by decide) ?_
    exact ⟨rfl, rfl, rfl⟩
set_option maxRecDepth 100000 in
set_option maxHeartbeats 4000000 in
theorem c_msearch_bad {g : ab_G} {N m : Nat} {fs : List Value} {w : ab_W} (h : w 74 = mdX fs) (hm : m < 2147483648) (hb : m < 1 ∨ 60 < m) : ab_Ct MX8_search g [.ref 74, .int (nI m)] N w (rp (some (.int (-2))) N w) := by
  refine ab_Ct.of (by decide +kernel) (Nat.le_of_ble_eq_true rfl) (by rintro _ _ _ ⟨rfl, rfl, rfl⟩; trivial) ?_
  show ab_St MX8_search g 0 0 0 [(0, .ref 74), (1, .int (nI m))] [] _ _ _
  refine r_iload_n dX8_search_0 rfl ?_
  refine r_iconst (v := nI 1) dX8_search_1 (by decide) ?_
  refine r_bipush (v := nI 60) dX8_search_2 (by decide) ?_
  refine r_invS dX8_search_4 kX8_257 (c_in (a := m) (lo := 1) (hi := 60) hm (by decide) (by decide)) rfl rfl ⟨by decide, by decide⟩ (Nat.le_of_ble_eq_true rfl) ⟨by decide, by decide⟩ ⟨rfl, rfl⟩ ?_
  rintro _ _ _ ⟨rfl, rfl, rfl⟩
  rw [if_neg (by omega)]
  first | refine r_if_neN (tgt := 13) dX8_search_7 (by decide) (by omega) (fun h7 => ?_) (fun h7 => ?_) | refine r_if_ne (tgt := 13) dX8_search_7 (by decide) (fun h7 => ?_) (fun h7 => ?_)
  · omega
  · refine r_bipush (v := (-2)) dX8_search_10 (by decide) ?_
    refine r_ret (r := (some (.int _))) dX8_search_12 (by decide) (by decide) ?_
    exact ⟨rfl, rfl, rfl⟩
set_option maxRecDepth 100000 in
set_option maxHeartbeats 4000000 in
theorem c_msearch_no {g : ab_G} {N half rounds c bg m : Nat} {ω d : Nat → Nat} {σ : hT} {len R sg vf : Nat} {w : ab_W} (h : MH w half rounds c ω bg σ d len R sg vf) (h1 : 1 ≤ m) (h2 : m ≤ 60) (hc : c = 0) : ab_Ct MX8_search g [.ref 74, .int (nI m)] N w (rp (some (.int (-3))) N w) := by
  obtain ⟨bu, v, a1, -⟩ := id h
  refine ab_Ct.of (by decide +kernel) (Nat.le_of_ble_eq_true rfl) (by rintro _ _ _ ⟨rfl, rfl, rfl⟩; trivial) ?_
  show ab_St MX8_search g 0 0 0 [(0, .ref 74), (1, .int (nI m))] [] _ _ _
  refine r_iload_n dX8_search_0 rfl ?_
  refine r_iconst (v := nI 1) dX8_search_1 (by decide) ?_
  refine r_bipush (v := nI 60) dX8_search_2 (by decide) ?_
  refine r_invS dX8_search_4 kX8_257 (c_in (a := m) (lo := 1) (hi := 60) (by omega) (by decide) (by decide)) rfl rfl ⟨by decide, by decide⟩ (Nat.le_of_ble_eq_true rfl) ⟨by decide, by decide⟩ ⟨rfl, rfl⟩ ?_
  rintro _ _ _ ⟨rfl, rfl, rfl⟩
  rw [if_pos ⟨h1, h2⟩]
  first | refine r_if_neN (tgt := 13) dX8_search_7 (by decide) (by omega) (fun h7 => ?_) (fun h7 => ?_) | refine r_if_ne (tgt := 13) dX8_search_7 (by decide) (fun h7 => ?_) (fun h7 => ?_)
  · refine r_aload_n dX8_search_13 rfl ?_
    refine r_getf dX8_search_14 fX8_173 (by repeat first | exact wu_eq | assumption | (apply wu_ne; first | omega | assumption | (apply Ne.symm; assumption))) (by rfl) ?_
    first | refine r_if_neN (tgt := 23) dX8_search_17 (by decide) (by omega) (fun h17 => ?_) (fun h17 => ?_) | refine r_if_ne (tgt := 23) dX8_search_17 (by decide) (fun h17 => ?_) (fun h17 => ?_)
    · omega
    · refine r_bipush (v := (-3)) dX8_search_20 (by decide) ?_
      refine r_ret (r := (some (.int _))) dX8_search_22 (by decide) (by decide) ?_
      exact ⟨rfl, rfl, rfl⟩
  · omega
