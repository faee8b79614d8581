/-! SignHouse$Hunt: the object at 13; the draw at 8, the modulus at 14, the rows at 22 .. 27 -/
theorem DRW.obj {w : ab_W} {D c : Nat} {ω : Nat → Nat} {P : Nat} (h : DRW w D c ω P) : ∃ b l, w D = drO D c b l := by
  obtain ⟨e, st, f, a0, -⟩ := h
  exact ⟨_, _, a0⟩
noncomputable def xif (P : Prop) {α : Type} (a b : α) : α := @ite α P (Classical.propDecidable P) a b
theorem xif_t {P : Prop} {α : Type} {a b : α} (h : P) : xif P a b = a := @if_pos P (Classical.propDecidable P) h α a b
theorem xif_f {P : Prop} {α : Type} {a b : α} (h : ¬ P) : xif P a b = b := @if_neg P (Classical.propDecidable P) h α a b
abbrev huO (half rounds bg pf ex un : Nat) : ab_C := aO 1 [.ref 8, .int (nI half), .int (nI rounds), .ref 14, .ref 22, .ref 23, .ref 24, .ref 25, .ref 26, .ref 27, .int (nI bg), .int (nI pf), .int (nI ex), .int (nI un)]
theorem nI_or (a b : Nat) : nI a ||| nI b = nI (a ||| b) := by
  apply Int32.toBitVec_inj.mp
  show BitVec.ofNat 32 a ||| BitVec.ofNat 32 b = BitVec.ofNat 32 (a ||| b)
  rw [BitVec.ofNat_or]
theorem or_lt {a b : Nat} (ha : a < 256) (hb : b < 256) : a ||| b < 256 := Nat.or_lt_two_pow (n := 8) ha hb
/-- a drawn byte at its place -/
def cbp (half pl b : Nat) : Nat := if pl = 0 then (if pl = half - 1 then b ||| 192 else b) ||| 1 else if pl = half - 1 then b ||| 192 else b
theorem cbp_lt {half pl b : Nat} (hb : b < 256) : cbp half pl b < 256 := by
  unfold cbp
  split
  · split
    · exact or_lt (or_lt hb (by decide)) (by decide)
    · exact or_lt hb (by decide)
  · split
    · exact or_lt hb (by decide)
    · exact hb
theorem dby_lt (ω : Nat → Nat) (c P : Nat) : dby ω c P < 256 := hby_lt _ _
/-- the candidate whose first byte is byte P of the draw -/
def cand (ω : Nat → Nat) (c half P : Nat) : Nat := sm 256 (fun pl => cbp half pl (dby ω c (P + (half - 1 - pl)))) half
theorem cand_lt (ω : Nat → Nat) (c half P : Nat) : cand ω c half P < 256 ^ half := sm_lt fun k _ => cbp_lt (dby_lt _ _ _)
theorem cand_dg (ω : Nat → Nat) (c half P : Nat) {pl : Nat} (h : pl < half) : dg 256 (cand ω c half P) pl = cbp half pl (dby ω c (P + (half - 1 - pl))) := sm_dg (by decide) (fun k _ => cbp_lt (dby_lt _ _ _)) pl h
theorem cand_odd (ω : Nat → Nat) (c half P : Nat) (h : 1 < half) : cand ω c half P % 2 = 1 := by
  have h1 := cand_dg ω c half P (pl := 0) (by omega)
  rw [dg_0] at h1
  unfold cbp at h1
  rw [if_pos rfl, if_neg (by omega)] at h1
  have h2 := Nat.or_mod_two_eq_one (a := dby ω c (P + (half - 1 - 0))) (b := 1)
  omega
theorem cand_big (ω : Nat → Nat) (c half P : Nat) (h : 1 < half) : 256 ^ (half - 1) ≤ cand ω c half P := by
  have h1 := cand_dg ω c half P (pl := half - 1) (by omega)
  unfold cbp at h1
  rw [if_neg (by omega), if_pos rfl] at h1
  have h2 : 192 ≤ dby ω c (P + (half - 1 - (half - 1))) ||| 192 := Nat.right_le_or
  rw [← h1] at h2
  unfold dg at h2
  refine Nat.le_of_not_lt fun h3 => ?_
  rw [Nat.div_eq_of_lt h3] at h2
  omega
theorem pow_WB {half W : Nat} (hW : W = (half + 3) / 4) : 256 ^ half ≤ 4294967296 ^ W := by
  rw [show (4294967296 : Nat) = 256 ^ 4 by decide, ← Nat.pow_mul]
  exact Nat.pow_le_pow_right (by decide) (by omega)
set_option maxRecDepth 100000 in
set_option maxHeartbeats 4000000 in
theorem c_drawCandidate {g : ab_G} {N half rounds bg pf ex un c P W ci : Nat} {ω : Nat → Nat} {w : ab_W} (h13 : w 13 = huO half rounds bg pf ex un) (hD : DRW w 8 c ω P) (h22 : w 22 = aN W ci) (hW : W = (half + 3) / 4) (hh : 31 ≤ half) (hh2 : half ≤ 40) (hci : ci < 256 ^ half) (hx0 : w 0 = xI 8 sH) (hx1 : w 1 = xI 64 sK) : ab_Ct MX1_drawCandidate g [.ref 13] N w (fun r N' w' => DRW w' 8 c ω (P + half) ∧ w' 22 = aN W (cand ω c half P) ∧ (∀ k, k ≠ 22 → (k < 8 ∨ 12 < k) → w' k = w k) ∧ r = none ∧ N = N') := by
  have K : ∀ k, k ≤ half → ∀ w1 X, DRW w1 8 c ω (P + (half - k)) → w1 22 = aN W X → X < 256 ^ half → (∀ pl, k ≤ pl → pl < half → dg 256 X pl = cbp half pl (dby ω c (P + (half - 1 - pl)))) → (∀ k, k ≠ 22 → (k < 8 ∨ 12 < k) → w1 k = w k) → ab_St MX1_drawCandidate g 0 0 7 [(1, .int (nI k - 1)), (0, .ref 13)] [] N w1 (fun r N' w' => DRW w' 8 c ω (P + half) ∧ w' 22 = aN W (cand ω c half P) ∧ (∀ k, k ≠ 22 → (k < 8 ∨ 12 < k) → w' k = w k) ∧ r = none ∧ N = N') := by
    intro k
    induction k with
    | zero =>
      intro _ w1 X d1 e22 hX hdg hfr
      refine r_iload_n dX1_drawCandidate_7 rfl ?_
      refine r_if_lt (tgt := 60) dX1_drawCandidate_8 (by decide) (fun _ => ?_) (fun h => absurd nI0lt h)
      refine r_ret (r := none) dX1_drawCandidate_60 (by decide) (by decide) ?_
      refine ⟨d1, ?_, hfr, rfl, rfl⟩
      rw [e22, dg_ext hX (cand_lt ω c half P) fun pl hpl => by rw [hdg pl (Nat.zero_le _) hpl, cand_dg ω c half P hpl]]
    | succ k ih =>
      intro hk w1 X d1 e22 hX hdg hfr
      rw [i32_pm]
      have e13 := (hfr 13 (by omega) (by omega)).trans h13
      have e0 := (hfr 0 (by omega) (by omega)).trans hx0
      have e1 := (hfr 1 (by omega) (by omega)).trans hx1
      have hby := dby_lt ω c (P + (half - (k + 1)))
      -- behind the byte's own ors, at the call
      have K51 : ∀ w2 b y, y = cbp half k (dby ω c (P + (half - 1 - k))) → DRW w2 8 c ω (P + (half - k)) → w2 22 = aN W X → (∀ k, k ≠ 22 → (k < 8 ∨ 12 < k) → w2 k = w k) → ab_St MX1_drawCandidate g 0 0 51 [(2, .int b), (1, .int (nI k)), (0, .ref 13)] [.int (nI y), .int (nI k), .ref 22] N w2 (fun r N' w' => DRW w' 8 c ω (P + half) ∧ w' 22 = aN W (cand ω c half P) ∧ (∀ k, k ≠ 22 → (k < 8 ∨ 12 < k) → w' k = w k) ∧ r = none ∧ N = N') := by
        intro w2 b y hy d2 f22 hf2
        have hyl : y < 256 := by rw [hy]; exact cbp_lt (dby_lt _ _ _)
        refine r_invS dX1_drawCandidate_51 kX1_89 (c_putByte (n := W) (u := X) (q := k) (b := y) f22 (by omega) (by omega) hyl) rfl rfl ⟨by decide, by decide⟩ (Nat.le_of_ble_eq_true rfl) ⟨by decide, by decide⟩ ⟨rfl, rfl⟩ ?_
        rintro _ _ _ ⟨rfl, rfl, rfl⟩
        refine r_iinc (L0 := [(2, _), (0, _)]) dX1_drawCandidate_54 rfl (by first | exact iincm1' _ | rfl) (by decide) rfl ?_
        refine r_goto (tgt := 7) dX1_drawCandidate_57 (by decide) ?_
        refine r_sub [0, 2] rfl ?_
        refine ih (by omega) _ (ud 256 X k y) (d2.keep fun j h1 h2 => wu_ne (by omega) rfl) wu_eq (ud_lt (by decide) hyl hX (by omega)) ?_ ?_
        · intro pl h1 h2
          rw [dg_ud (by decide) hyl]
          split
          · rename_i he
            rw [hy, he]
          · exact hdg pl (by omega) h2
        · intro j h1 h2
          exact (wu_ne h1 rfl).trans (hf2 j h1 h2)
      have K35 : ∀ w2 b, b = (if k = half - 1 then dby ω c (P + (half - 1 - k)) ||| 192 else dby ω c (P + (half - 1 - k))) → DRW w2 8 c ω (P + (half - k)) → w2 22 = aN W X → w2 13 = huO half rounds bg pf ex un → (∀ k, k ≠ 22 → (k < 8 ∨ 12 < k) → w2 k = w k) → ab_St MX1_drawCandidate g 0 0 35 [(2, .int (nI b)), (1, .int (nI k)), (0, .ref 13)] [] N w2 (fun r N' w' => DRW w' 8 c ω (P + half) ∧ w' 22 = aN W (cand ω c half P) ∧ (∀ k, k ≠ 22 → (k < 8 ∨ 12 < k) → w' k = w k) ∧ r = none ∧ N = N') := by
        intro w2 b hb d2 f22 f13 hf2
        refine r_aload_n dX1_drawCandidate_35 rfl ?_
        refine r_getf dX1_drawCandidate_36 fX1_35 (by repeat first | exact wu_eq | assumption | (apply wu_ne; first | omega | assumption | (apply Ne.symm; assumption))) (by rfl) ?_
        refine r_iload_n dX1_drawCandidate_39 rfl ?_
        refine r_iload_n dX1_drawCandidate_40 rfl ?_
        first | refine r_if_neN (tgt := 50) dX1_drawCandidate_41 (by decide) (by omega) (fun h41 => ?_) (fun h41 => ?_) | refine r_if_ne (tgt := 50) dX1_drawCandidate_41 (by decide) (fun h41 => ?_) (fun h41 => ?_)
        · refine r_iload_n dX1_drawCandidate_50 rfl ?_
          refine K51 w2 _ b ?_ d2 f22 hf2
          unfold cbp
          rw [if_neg h41, hb]
        · refine r_iload_n dX1_drawCandidate_44 rfl ?_
          refine r_iconst (v := nI 1) dX1_drawCandidate_45 (by decide) ?_
          refine r_ior dX1_drawCandidate_46 ?_
          rw [nI_or]
          refine r_goto (tgt := 51) dX1_drawCandidate_47 (by decide) ?_
          refine K51 w2 _ _ ?_ d2 f22 hf2
          unfold cbp
          rw [if_pos h41, hb]
      obtain ⟨_, _, e8⟩ := d1.obj
      refine r_iload_n dX1_drawCandidate_7 rfl ?_
      first | refine r_if_ltN (tgt := 60) dX1_drawCandidate_8 (by decide) (by omega) (fun h8 => ?_) | refine r_if_lt (tgt := 60) dX1_drawCandidate_8 (by decide) (fun h8 => ?_) (fun h8 => ?_)
      refine r_aload_n dX1_drawCandidate_11 rfl ?_
      refine r_getf dX1_drawCandidate_12 fX1_7 (by repeat first | exact wu_eq | assumption | (apply wu_ne; first | omega | assumption | (apply Ne.symm; assumption))) (by rfl) ?_
      refine r_invV dX1_drawCandidate_15 kX1_83 (c_nextByte d1 e0 e1) rfl rfl (by repeat first | exact wu_eq | assumption | (apply wu_ne; first | omega | assumption | (apply Ne.symm; assumption))) rfl rfl ⟨by decide, by decide⟩ (Nat.le_of_ble_eq_true rfl) ⟨by decide, by decide⟩ ⟨rfl, rfl⟩ ?_
      rintro _ _ w2 ⟨d2, hf2, rfl, rfl⟩
      have e13' := (hf2 13 (by omega)).trans e13
      rw [show P + (half - (k + 1)) + 1 = P + (half - k) by omega] at d2
      refine r_istore_n (i := 2) (L0 := [(1, _), (0, _)]) dX1_drawCandidate_18 rfl (by decide) rfl ?_
      refine r_iload_n dX1_drawCandidate_19 rfl ?_
      refine r_aload_n dX1_drawCandidate_20 rfl ?_
      refine r_getf dX1_drawCandidate_21 fX1_13 (by repeat first | exact wu_eq | assumption | (apply wu_ne; first | omega | assumption | (apply Ne.symm; assumption))) (by rfl) ?_
      refine r_iconst (v := nI 1) dX1_drawCandidate_24 (by decide) ?_
      first | refine r_isubN dX1_drawCandidate_25 (by omega) ?_ | refine r_isub dX1_drawCandidate_25 ?_
      first | refine r_icmp_neN (tgt := 35) dX1_drawCandidate_26 (by decide) (by omega) (by omega) (fun h26 => ?_) (fun h26 => ?_) | refine r_icmp_ne (tgt := 35) dX1_drawCandidate_26 (by decide) (fun h26 => ?_) (fun h26 => ?_)
      · refine K35 w2 _ ?_ d2 ((hf2 22 (by omega)).trans e22) e13' (fun j h1 h2 => (hf2 j (by omega)).trans (hfr j h1 h2))
        rw [if_neg h26, show half - (k + 1) = half - 1 - k by omega]
      · refine r_iload_n dX1_drawCandidate_29 rfl ?_
        refine r_sipush (v := nI 192) dX1_drawCandidate_30 (by decide) ?_
        refine r_ior dX1_drawCandidate_33 ?_
        rw [nI_or]
        refine r_istore_n (i := 2) (L0 := [(1, _), (0, _)]) dX1_drawCandidate_34 rfl (by decide) rfl ?_
        refine K35 w2 _ ?_ d2 ((hf2 22 (by omega)).trans e22) e13' (fun j h1 h2 => (hf2 j (by omega)).trans (hfr j h1 h2))
        rw [if_pos h26, show half - (k + 1) = half - 1 - k by omega]
  refine ab_Ct.of (by decide +kernel) (Nat.le_of_ble_eq_true rfl) (by rintro _ _ _ ⟨-, -, -, rfl, -⟩; trivial) ?_
  show ab_St MX1_drawCandidate g 0 0 0 [(0, .ref 13)] [] _ _ _
  refine r_aload_n dX1_drawCandidate_0 rfl ?_
  refine r_getf dX1_drawCandidate_1 fX1_13 (by repeat first | exact wu_eq | assumption | (apply wu_ne; first | omega | assumption | (apply Ne.symm; assumption))) (by rfl) ?_
  refine r_iconst (v := nI 1) dX1_drawCandidate_4 (by decide) ?_
  rw [show (nI 1 : Int32) = 1 by decide]
  refine r_isub dX1_drawCandidate_5 ?_
  refine r_istore_n (i := 1) (L0 := [(0, _)]) dX1_drawCandidate_6 rfl (by decide) rfl ?_
  exact K half (Nat.le_refl _) w ci (by rw [Nat.sub_self]; exact hD) h22 hci (fun pl h1 h2 => by omega) (fun _ _ _ => rfl)
