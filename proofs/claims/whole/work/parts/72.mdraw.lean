/-! SignHouseModel: its world; lay, draws -/
abbrev mdO (half rounds bu c bg ik hp ex un db da sg vf len : Nat) : ab_C := aO 7 [.ref 75, .int (nI half), .int (nI rounds), .ref 76, .int (nI bu), .ref 77, .ref 78, .ref 79, .ref 80, .ref 81, .int (nI c), .int (nI bg), .int (nI ik), .int (nI hp), .int (nI ex), .int (nI un), .int (nI db), .int (nI da), .int (nI sg), .int (nI vf), .ref 82, .int (nI len), .ref 83]
def sMk : Nat → Int32 := fun k => nI (if k = 0 then 0 else HNM (k - 1))
/-- the rows that the making of a hash uses -/
def MB (w : ab_W) : Prop := ∃ dbuf st f, w 76 = aI 300 (bI dbuf) ∧ (∀ i, dbuf i < 256) ∧ w 77 = aI 8 st ∧ (∀ k, 8 ≤ k → st k = 0) ∧ w 78 = aI 64 f
/-- the rows that stay, the seed and the message -/
def ME (w : ab_W) (c : Nat) (ω d : Nat → Nat) : Prop := (∃ so, w 81 = aI 16 (bI so) ∧ ∀ k, k < c → so k = ω k ∧ so k < 4294967296) ∧ w 79 = aI 8 sH ∧ w 80 = aI 64 sK ∧ w 82 = aI 300 (bI d) ∧ (∀ i, d i < 256) ∧ w 83 = aI 20 sMk ∧ c ≤ 16
theorem MB.keep {w w' : ab_W} (h : MB w) (hk : ∀ k, 76 ≤ k → k ≤ 78 → w' k = w k) : MB w' := by
  obtain ⟨d, st, f, h1, h2, h3, h4, h5⟩ := h
  exact ⟨d, st, f, (hk 76 (by decide) (by decide)).trans h1, h2, (hk 77 (by decide) (by decide)).trans h3, h4, (hk 78 (by decide) (by decide)).trans h5⟩
theorem ME.keep {w w' : ab_W} {c : Nat} {ω d : Nat → Nat} (h : ME w c ω d) (hk : ∀ k, 79 ≤ k → k ≤ 83 → w' k = w k) : ME w' c ω d := by
  obtain ⟨⟨so, h1, h1'⟩, h2, h3, h4, h5, h6, h7⟩ := h
  exact ⟨⟨so, (hk 81 (by decide) (by decide)).trans h1, h1'⟩, (hk 79 (by decide) (by decide)).trans h2, (hk 80 (by decide) (by decide)).trans h3, (hk 82 (by decide) (by decide)).trans h4, h5, (hk 83 (by decide) (by decide)).trans h6, h7⟩
def layd (d : Nat → Nat) (n u j : Nat) : Nat → Nat := fun i => if n ≤ i ∧ i < n + j then wb u (i - n) else d i
theorem layd_lt {d : Nat → Nat} (hd : ∀ i, d i < 256) (n u j i : Nat) : layd d n u j i < 256 := by
  unfold layd
  split
  · exact wb_lt _ _
  · exact hd i
theorem layd_0 (d : Nat → Nat) (n u : Nat) : layd d n u 0 = d := by
  funext i
  unfold layd
  rw [if_neg (by omega)]
theorem layd_up (d : Nat → Nat) (n u j : Nat) : va_up (bI (layd d n u j)) (n + j) (nI (wb u j)) = bI (layd d n u (j + 1)) := by
  funext i
  unfold va_up bI layd
  try dsimp only
  by_cases h : i = n + j
  · rw [if_pos h, if_pos (by omega), h, show n + j - n = j by omega]
  · rw [if_neg h]
    by_cases h2 : n ≤ i ∧ i < n + j
    · rw [if_pos h2, if_pos (by omega)]
    · rw [if_neg h2, if_neg (by omega)]
set_option maxRecDepth 100000 in
set_option maxHeartbeats 4000000 in
theorem c_lay {g : ab_G} {N n u : Nat} {d : Nat → Nat} {A B : Value} {rs : List Value} {w : ab_W} (h : w 74 = mdS A B n rs) (h76 : w 76 = aI 300 (bI d)) (hn : n + 4 ≤ 300) (hu : u < 4294967296) : ab_Ct MX8_lay g [.ref 74, .int (nI u)] N w (fun r N' w' => w' 74 = mdS A B (n + 4) rs ∧ w' 76 = aI 300 (bI (layd d n u 4)) ∧ (∀ k, k ≠ 74 → k ≠ 76 → w' k = w k) ∧ r = none ∧ N = N') := by
  have K : ∀ k j, j + k = 3 → ∀ w1, w1 74 = mdS A B (n + j) rs → w1 76 = aI 300 (bI (layd d n u j)) → (∀ k, k ≠ 74 → k ≠ 76 → w1 k = w k) → ab_St MX8_lay g 0 0 3 [(2, .int (nI (24 - 8 * j))), (0, .ref 74), (1, .int (nI u))] [] N w1 (fun r N' w' => w' 74 = mdS A B (n + 4) rs ∧ w' 76 = aI 300 (bI (layd d n u 4)) ∧ (∀ k, k ≠ 74 → k ≠ 76 → w' k = w k) ∧ r = none ∧ N = N') := by
    intro k
    induction k with
    | zero =>
      intro j hj w1 h1 h2 h3
      obtain rfl : j = 3 := by omega
      have hw : u / 2 ^ (24 - 8 * 3) < 4294967296 := Nat.lt_of_le_of_lt (Nat.div_le_self _ _) hu
      refine r_iload_n dX8_lay_3 rfl ?_
      first | refine r_if_ltN (tgt := 39) dX8_lay_4 (by decide) (by omega) (fun h4 => ?_) | refine r_if_lt (tgt := 39) dX8_lay_4 (by decide) (fun h4 => ?_) (fun h4 => ?_)
      refine r_aload_n dX8_lay_7 rfl ?_
      refine r_getf dX8_lay_8 fX8_13 (by repeat first | exact wu_eq | assumption | (apply wu_ne; first | omega | assumption | (apply Ne.symm; assumption))) (by rfl) ?_
      refine r_aload_n dX8_lay_11 rfl ?_
      refine r_getf dX8_lay_12 fX8_156 (by repeat first | exact wu_eq | assumption | (apply wu_ne; first | omega | assumption | (apply Ne.symm; assumption))) (by rfl) ?_
      refine r_iload_n dX8_lay_15 rfl ?_
      refine r_iload_n dX8_lay_16 rfl ?_
      refine r_iushrN _ (by omega) dX8_lay_17 hu ?_
      refine r_sipush (v := nI 255) dX8_lay_18 (by decide) ?_
      refine r_iandN 8 (by decide) dX8_lay_21 hw ?_
      refine r_iastore dX8_lay_22 (by repeat first | exact wu_eq | assumption | (apply wu_ne; first | omega | assumption | (apply Ne.symm; assumption))) _ rfl (by omega) (by omega) ?_
      refine r_aload_n dX8_lay_23 rfl ?_
      refine r_dup dX8_lay_24 rfl ?_
      refine r_getf dX8_lay_25 fX8_156 (by repeat first | exact wu_eq | assumption | (apply wu_ne; first | omega | assumption | (apply Ne.symm; assumption))) (by rfl) ?_
      refine r_iconst (v := nI 1) dX8_lay_28 (by decide) ?_
      first | refine r_iaddN dX8_lay_29 ?_ | refine r_iadd dX8_lay_29 ?_
      refine r_putf dX8_lay_30 fX8_156 (by repeat first | exact wu_eq | assumption | (apply wu_ne; first | omega | assumption | (apply Ne.symm; assumption))) rfl (by exact Nat.le_of_ble_eq_true rfl) (by rfl) (by rfl) ?_
      refine r_iinc (L0 := [(0, _), (1, _)]) (v := -8) dX8_lay_33 rfl (by decide) (by decide) rfl ?_
      refine r_goto (tgt := 3) dX8_lay_36 (by decide) ?_
      refine r_iload_n dX8_lay_3 rfl ?_
      refine r_if_lt (tgt := 39) dX8_lay_4 (by decide) (fun _ => ?_) (fun q => absurd (by decide : (-8 : Int32) < 0) q)
      refine r_ret (r := none) dX8_lay_39 (by decide) (by decide) ?_
      exact ⟨wu_eq, wu_ne (by decide) (wu_eq.trans (congrArg (aI 300) (layd_up d n u 3))), fun k a b => (wu_ne a (wu_ne b rfl)).trans (h3 k a b), rfl, rfl⟩
    | succ k ih =>
      intro j hj w1 h1 h2 h3
      have hw : u / 2 ^ (24 - 8 * j) < 4294967296 := Nat.lt_of_le_of_lt (Nat.div_le_self _ _) hu
      refine r_iload_n dX8_lay_3 rfl ?_
      first | refine r_if_ltN (tgt := 39) dX8_lay_4 (by decide) (by omega) (fun h4 => ?_) | refine r_if_lt (tgt := 39) dX8_lay_4 (by decide) (fun h4 => ?_) (fun h4 => ?_)
      refine r_aload_n dX8_lay_7 rfl ?_
      refine r_getf dX8_lay_8 fX8_13 (by repeat first | exact wu_eq | assumption | (apply wu_ne; first | omega | assumption | (apply Ne.symm; assumption))) (by rfl) ?_
      refine r_aload_n dX8_lay_11 rfl ?_
      refine r_getf dX8_lay_12 fX8_156 (by repeat first | exact wu_eq | assumption | (apply wu_ne; first | omega | assumption | (apply Ne.symm; assumption))) (by rfl) ?_
      refine r_iload_n dX8_lay_15 rfl ?_
      refine r_iload_n dX8_lay_16 rfl ?_
      refine r_iushrN _ (by omega) dX8_lay_17 hu ?_
      refine r_sipush (v := nI 255) dX8_lay_18 (by decide) ?_
      refine r_iandN 8 (by decide) dX8_lay_21 hw ?_
      refine r_iastore dX8_lay_22 (by repeat first | exact wu_eq | assumption | (apply wu_ne; first | omega | assumption | (apply Ne.symm; assumption))) _ rfl (by omega) (by omega) ?_
      refine r_aload_n dX8_lay_23 rfl ?_
      refine r_dup dX8_lay_24 rfl ?_
      refine r_getf dX8_lay_25 fX8_156 (by repeat first | exact wu_eq | assumption | (apply wu_ne; first | omega | assumption | (apply Ne.symm; assumption))) (by rfl) ?_
      refine r_iconst (v := nI 1) dX8_lay_28 (by decide) ?_
      first | refine r_iaddN dX8_lay_29 ?_ | refine r_iadd dX8_lay_29 ?_
      refine r_putf dX8_lay_30 fX8_156 (by repeat first | exact wu_eq | assumption | (apply wu_ne; first | omega | assumption | (apply Ne.symm; assumption))) rfl (by exact Nat.le_of_ble_eq_true rfl) (by rfl) (by rfl) ?_
      refine r_iinc (L0 := [(0, _), (1, _)]) dX8_lay_33 rfl (iincm 8 (by omega) (by decide)) (by decide) rfl ?_
      refine r_goto (tgt := 3) dX8_lay_36 (by decide) ?_
      rw [show 24 - 8 * j - 8 = 24 - 8 * (j + 1) by omega]
      exact ih (j + 1) (by omega) _ wu_eq (wu_ne (by decide) (wu_eq.trans (congrArg (aI 300) (layd_up d n u j)))) fun k a b => (wu_ne a (wu_ne b rfl)).trans (h3 k a b)
  refine ab_Ct.of (by decide +kernel) (Nat.le_of_ble_eq_true rfl) (by rintro _ _ _ ⟨-, -, -, rfl, -⟩; trivial) ?_
  show ab_St MX8_lay g 0 0 0 [(0, .ref 74), (1, .int (nI u))] [] _ _ _
  refine r_bipush (v := nI 24) dX8_lay_0 (by decide) ?_
  refine r_istore_n (i := 2) (L0 := [(0, _), (1, _)]) dX8_lay_2 rfl (by decide) rfl ?_
  exact K 3 0 (by decide) w h (by rw [layd_0]; exact h76) fun _ _ _ => rfl
/-- the buffer behind j words -/
def wdd (ω : Nat → Nat) (d : Nat → Nat) (j : Nat) : Nat → Nat := fun i => if i < 4 * j then wb (ω (i / 4)) (i % 4) else d i
theorem wdd_up (ω d : Nat → Nat) (j : Nat) : layd (wdd ω d j) (4 * j) (ω j) 4 = wdd ω d (j + 1) := by
  funext i
  unfold layd wdd
  by_cases h : 4 * j ≤ i ∧ i < 4 * j + 4
  · rw [if_pos h, if_pos (by omega), show i / 4 = j by omega, show i % 4 = i - 4 * j by omega]
  · rw [if_neg h]
    by_cases h2 : i < 4 * j
    · rw [if_pos h2, if_pos (by omega)]
    · rw [if_neg h2, if_neg (by omega)]
theorem wdd_lt {ω d : Nat → Nat} (hd : ∀ i, d i < 256) (j i : Nat) : wdd ω d j i < 256 := by
  unfold wdd
  split
  · exact wb_lt _ _
  · exact hd i
set_option maxRecDepth 100000 in
set_option maxHeartbeats 4000000 in
theorem c_draws {g : ab_G} {N half rounds bu c bg ik hp ex un P sg vf len : Nat} {ω d : Nat → Nat} {w : ab_W} (h : w 74 = mdO half rounds bu c bg ik hp ex un (P / 32) (P % 32) sg vf len) (hB : MB w) (hE : ME w c ω d) : ab_Ct MX8_draws g [.ref 74] N w (fun r N' w' => (∃ bu', w' 74 = mdO half rounds bu' c bg ik hp ex un ((P + 1) / 32) ((P + 1) % 32) sg vf len) ∧ MB w' ∧ (∀ k, k ≠ 74 → (k < 76 ∨ 78 < k) → w' k = w k) ∧ r = some (.int (nI (dby ω c P))) ∧ N = N') := by
  obtain ⟨dbuf, st, f, b1, b2, b3, b4, b5⟩ := hB
  obtain ⟨⟨so, e1, e2⟩, e3, e4, e5, e6, e7, e8⟩ := hE
  have K : ∀ k j, j + k = c → ∀ w1, w1 74 = mdO half rounds (4 * j) c bg ik hp ex un (P / 32) (P % 32) sg vf len → w1 76 = aI 300 (bI (wdd so dbuf j)) → (∀ k, k ≠ 74 → k ≠ 76 → w1 k = w k) → ab_St MX8_draws g 0 0 7 [(1, .int (nI j)), (0, .ref 74)] [] N w1 (fun r N' w' => (∃ bu', w' 74 = mdO half rounds bu' c bg ik hp ex un ((P + 1) / 32) ((P + 1) % 32) sg vf len) ∧ MB w' ∧ (∀ k, k ≠ 74 → (k < 76 ∨ 78 < k) → w' k = w k) ∧ r = some (.int (nI (dby ω c P))) ∧ N = N') := by
    intro k
    induction k with
    | zero =>
      intro j hj w1 h1 h2 h3
      obtain rfl : j = c := by omega
      have hu : P / 32 % 4294967296 < 4294967296 := Nat.mod_lt _ (by decide)
      have hd2 : ∀ i, layd (wdd so dbuf j) (4 * j) (P / 32 % 4294967296) 4 i < 256 := layd_lt (wdd_lt b2 j) _ _ _
      have hsha : sha (layd (wdd so dbuf j) (4 * j) (P / 32 % 4294967296) 4) (4 * j + 4) = blk ω j (P / 32) := by
        unfold blk
        refine sha_cong fun i hi => ?_
        unfold layd wdd dwd
        by_cases q : i < 4 * j
        · rw [if_neg (by omega), if_pos q, if_pos q, (e2 _ (by omega)).1]
        · rw [if_pos (by omega), if_neg q]
      refine r_iload_n dX8_draws_7 rfl ?_
      refine r_aload_n dX8_draws_8 rfl ?_
      refine r_getf dX8_draws_9 fX8_173 (by repeat first | exact wu_eq | assumption | (apply wu_ne; first | omega | assumption | (apply Ne.symm; assumption))) (by rfl) ?_
      first | refine r_icmp_geN (tgt := 31) dX8_draws_12 (by decide) (by omega) (by omega) (fun h12 => ?_) (fun h12 => ?_) | refine r_icmp_ge (tgt := 31) dX8_draws_12 (by decide) (fun h12 => ?_) (fun h12 => ?_)
      · refine r_aload_n dX8_draws_31 rfl ?_
        refine r_aload_n dX8_draws_32 rfl ?_
        refine r_getf dX8_draws_33 fX8_179 (by repeat first | exact wu_eq | assumption | (apply wu_ne; first | omega | assumption | (apply Ne.symm; assumption))) (by rfl) ?_
        refine r_toI (nI_mod _) ?_
        refine r_invV dX8_draws_36 kX8_176 (c_lay (n := 4 * j) (u := P / 32 % 4294967296) h1 h2 (by omega) hu) rfl rfl (by repeat first | exact wu_eq | assumption | (apply wu_ne; first | omega | assumption | (apply Ne.symm; assumption))) rfl rfl ⟨by decide, by decide⟩ (Nat.le_of_ble_eq_true rfl) ⟨by decide, by decide⟩ ⟨rfl, rfl⟩ ?_
        rintro _ _ w2 ⟨h4, h5, h6, rfl, rfl⟩
        have g77 := (h6 77 (by decide) (by decide)).trans ((h3 77 (by decide) (by decide)).trans b3)
        have g78 := (h6 78 (by decide) (by decide)).trans ((h3 78 (by decide) (by decide)).trans b5)
        have g79 := (h6 79 (by decide) (by decide)).trans ((h3 79 (by decide) (by decide)).trans e3)
        have g80 := (h6 80 (by decide) (by decide)).trans ((h3 80 (by decide) (by decide)).trans e4)
        refine r_aload_n dX8_draws_39 rfl ?_
        refine r_invV dX8_draws_40 kX8_182 (c_hashes (n := 4 * j + 4) h4 h5 g77 g78 g79 g80 b4 hd2 (by omega)) rfl rfl (by repeat first | exact wu_eq | assumption | (apply wu_ne; first | omega | assumption | (apply Ne.symm; assumption))) rfl rfl ⟨by decide, by decide⟩ (Nat.le_of_ble_eq_true rfl) ⟨by decide, by decide⟩ ⟨rfl, rfl⟩ ?_
        rintro _ _ _ ⟨f', rfl, rfl, rfl⟩
        rw [hsha]
        refine r_aload_n dX8_draws_43 rfl ?_
        refine r_aload_n dX8_draws_44 rfl ?_
        refine r_getf dX8_draws_45 fX8_185 (by repeat first | exact wu_eq | assumption | (apply wu_ne; first | omega | assumption | (apply Ne.symm; assumption))) (by rfl) ?_
        refine r_invV dX8_draws_48 kX8_188 (c_mhashByte (q := P % 32) (st := blk ω j (P / 32)) (n := 4 * j + 4) (by repeat first | exact wu_eq | assumption | (apply wu_ne; first | omega | assumption | (apply Ne.symm; assumption))) (by repeat first | exact wu_eq | assumption | (apply wu_ne; first | omega | assumption | (apply Ne.symm; assumption))) (by omega)) rfl rfl (by repeat first | exact wu_eq | assumption | (apply wu_ne; first | omega | assumption | (apply Ne.symm; assumption))) rfl rfl ⟨by decide, by decide⟩ (Nat.le_of_ble_eq_true rfl) ⟨by decide, by decide⟩ ⟨rfl, rfl⟩ ?_
        rintro _ _ _ ⟨rfl, rfl, rfl⟩
        have hres : hby (blk ω j (P / 32)) (P % 32) = dby ω j P := rfl
        rw [hres]
        have HB : ∀ X, MB (wu (wu (wu w2 78 (aI 64 f')) 77 (aI 8 (blk ω j (P / 32)))) 74 X) := fun X => ⟨_, _, _, wu_ne (by decide) (wu_ne (by decide) (wu_ne (by decide) h5)), hd2, wu_ne (by decide) wu_eq, sha_0 _ _, wu_ne (by decide) (wu_ne (by decide) wu_eq)⟩
        have HF : ∀ X, ∀ k, k ≠ 74 → (k < 76 ∨ 78 < k) → (wu (wu (wu w2 78 (aI 64 f')) 77 (aI 8 (blk ω j (P / 32)))) 74 X) k = w k := fun X k a b => (wu_ne a (wu_ne (by omega) (wu_ne (by omega) rfl))).trans ((h6 k a (by omega)).trans (h3 k a (by omega)))
        refine r_istore_n (i := 1) (L0 := [(0, _)]) dX8_draws_51 rfl (by decide) rfl ?_
        refine r_aload_n dX8_draws_52 rfl ?_
        refine r_dup dX8_draws_53 rfl ?_
        refine r_getf dX8_draws_54 fX8_185 (by repeat first | exact wu_eq | assumption | (apply wu_ne; first | omega | assumption | (apply Ne.symm; assumption))) (by rfl) ?_
        refine r_iconst (v := nI 1) dX8_draws_57 (by decide) ?_
        first | refine r_iaddN dX8_draws_58 ?_ | refine r_iadd dX8_draws_58 ?_
        refine r_putf dX8_draws_59 fX8_185 (by repeat first | exact wu_eq | assumption | (apply wu_ne; first | omega | assumption | (apply Ne.symm; assumption))) rfl (by exact Nat.le_of_ble_eq_true rfl) (by rfl) (by rfl) ?_
        refine r_aload_n dX8_draws_62 rfl ?_
        refine r_getf dX8_draws_63 fX8_185 (by repeat first | exact wu_eq | assumption | (apply wu_ne; first | omega | assumption | (apply Ne.symm; assumption))) (by rfl) ?_
        refine r_bipush (v := nI 32) dX8_draws_66 (by decide) ?_
        first | refine r_icmp_neN (tgt := 86) dX8_draws_68 (by decide) (by omega) (by omega) (fun h68 => ?_) (fun h68 => ?_) | refine r_icmp_ne (tgt := 86) dX8_draws_68 (by decide) (fun h68 => ?_) (fun h68 => ?_)
        · refine r_iload_n dX8_draws_86 rfl ?_
          refine r_ret (r := (some (.int _))) dX8_draws_87 (by decide) (by decide) ?_
          refine ⟨⟨4 * j + 4, ?_⟩, HB _, HF _, rfl, rfl⟩
          rw [show (P + 1) / 32 = P / 32 by omega, show (P + 1) % 32 = P % 32 + 1 by omega]
          exact wu_eq
        · refine r_aload_n dX8_draws_71 rfl ?_
          refine r_iconst (v := nI 0) dX8_draws_72 (by decide) ?_
          refine r_putf dX8_draws_73 fX8_185 (by repeat first | exact wu_eq | assumption | (apply wu_ne; first | omega | assumption | (apply Ne.symm; assumption))) rfl (by exact Nat.le_of_ble_eq_true rfl) (by rfl) (by rfl) ?_
          refine r_aload_n dX8_draws_76 rfl ?_
          refine r_dup dX8_draws_77 rfl ?_
          refine r_getf dX8_draws_78 fX8_179 (by repeat first | exact wu_eq | assumption | (apply wu_ne; first | omega | assumption | (apply Ne.symm; assumption))) (by rfl) ?_
          refine r_iconst (v := nI 1) dX8_draws_81 (by decide) ?_
          first | refine r_iaddN dX8_draws_82 ?_ | refine r_iadd dX8_draws_82 ?_
          refine r_putf dX8_draws_83 fX8_179 (by repeat first | exact wu_eq | assumption | (apply wu_ne; first | omega | assumption | (apply Ne.symm; assumption))) rfl (by exact Nat.le_of_ble_eq_true rfl) (by rfl) (by rfl) ?_
          refine r_iload_n dX8_draws_86 rfl ?_
          refine r_ret (r := (some (.int _))) dX8_draws_87 (by decide) (by decide) ?_
          rw [wu_wu, wu_wu]
          refine ⟨⟨4 * j + 4, ?_⟩, HB _, HF _, rfl, rfl⟩
          rw [show (P + 1) / 32 = P / 32 + 1 by omega, show (P + 1) % 32 = 0 by omega]
          exact wu_eq
      · omega
    | succ k ih =>
      intro j hj w1 h1 h2 h3
      have h81 := (h3 81 (by decide) (by decide)).trans e1
      refine r_iload_n dX8_draws_7 rfl ?_
      refine r_aload_n dX8_draws_8 rfl ?_
      refine r_getf dX8_draws_9 fX8_173 (by repeat first | exact wu_eq | assumption | (apply wu_ne; first | omega | assumption | (apply Ne.symm; assumption))) (by rfl) ?_
      first | refine r_icmp_geN (tgt := 31) dX8_draws_12 (by decide) (by omega) (by omega) (fun h12 => ?_) (fun h12 => ?_) | refine r_icmp_ge (tgt := 31) dX8_draws_12 (by decide) (fun h12 => ?_) (fun h12 => ?_)
      · omega
      · refine r_aload_n dX8_draws_15 rfl ?_
        refine r_aload_n dX8_draws_16 rfl ?_
        refine r_getf dX8_draws_17 fX8_100 (by repeat first | exact wu_eq | assumption | (apply wu_ne; first | omega | assumption | (apply Ne.symm; assumption))) (by rfl) ?_
        refine r_iload_n dX8_draws_20 rfl ?_
        refine r_iaload' dX8_draws_21 (by repeat first | exact wu_eq | assumption | (apply wu_ne; first | omega | assumption | (apply Ne.symm; assumption))) (by rfl) _ rfl (by omega) (by omega) ?_
        refine r_toI (y := nI (so j)) rfl ?_
        refine r_invV dX8_draws_22 kX8_176 (c_lay (n := 4 * j) (u := so j) h1 h2 (by omega) (e2 j (by omega)).2) rfl rfl (by repeat first | exact wu_eq | assumption | (apply wu_ne; first | omega | assumption | (apply Ne.symm; assumption))) rfl rfl ⟨by decide, by decide⟩ (Nat.le_of_ble_eq_true rfl) ⟨by decide, by decide⟩ ⟨rfl, rfl⟩ ?_
        rintro _ _ w2 ⟨h4, h5, h6, rfl, rfl⟩
        refine r_iinc (L0 := [(0, _)]) dX8_draws_25 rfl (by first | exact iinc1 _ | rfl) (by decide) rfl ?_
        refine r_goto (tgt := 7) dX8_draws_28 (by decide) ?_
        rw [wdd_up] at h5
        exact ih (j + 1) (by omega) w2 h4 h5 fun k a b => (h6 k a b).trans (h3 k a b)
  refine ab_Ct.of (by decide +kernel) (Nat.le_of_ble_eq_true rfl) (by rintro _ _ _ ⟨-, -, -, rfl, -⟩; trivial) ?_
  show ab_St MX8_draws g 0 0 0 [(0, .ref 74)] [] _ _ _
  refine r_aload_n dX8_draws_0 rfl ?_
  refine r_iconst (v := nI 0) dX8_draws_1 (by decide) ?_
  refine r_putf dX8_draws_2 fX8_156 (by repeat first | exact wu_eq | assumption | (apply wu_ne; first | omega | assumption | (apply Ne.symm; assumption))) rfl (by exact Nat.le_of_ble_eq_true rfl) (by rfl) (by rfl) ?_
  refine r_iconst (v := nI 0) dX8_draws_5 (by decide) ?_
  refine r_istore_n (i := 1) (L0 := [(0, _)]) dX8_draws_6 rfl (by decide) rfl ?_
  refine K c 0 (by omega) _ wu_eq ?_ fun k a _ => wu_ne a rfl
  rw [show wdd so dbuf 0 = dbuf from funext fun i => if_neg (by omega)]
  exact wu_ne (by decide) b1
