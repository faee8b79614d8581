/-! SignHouse$KeyRows: the maker, the small methods -/
/-- the key's numbers -/
def KN (w : ab_W) (W n d p q dP dQ qI : Nat) : Prop := w 53 = aN (2 * W) n ∧ w 54 = aN (2 * W) d ∧ w 55 = aN W p ∧ w 56 = aN W q ∧ w 57 = aN W dP ∧ w 58 = aN W dQ ∧ w 59 = aN W qI ∧ n < 4294967296 ^ (2 * W) ∧ d < 4294967296 ^ (2 * W) ∧ p < 4294967296 ^ W ∧ q < 4294967296 ^ W ∧ dP < 4294967296 ^ W ∧ dQ < 4294967296 ^ W ∧ qI < 4294967296 ^ W
/-- the rows for a while -/
def KT (w : ab_W) (W : Nat) : Prop := ∃ v0 v1 v2 f v4 v5, w 60 = aN W v0 ∧ w 61 = aN W v1 ∧ w 62 = aN (2 * W) v2 ∧ w 63 = aJ (2 * W + 1) f ∧ w 64 = aN W v4 ∧ w 65 = aN W v5 ∧ v0 < 4294967296 ^ W ∧ v1 < 4294967296 ^ W ∧ v2 < 4294967296 ^ (2 * W) ∧ v4 < 4294967296 ^ W ∧ v5 < 4294967296 ^ W
theorem KN.keep {w w' : ab_W} {W n d p q dP dQ qI : Nat} (h : KN w W n d p q dP dQ qI) (hk : ∀ k, 53 ≤ k → k ≤ 59 → w' k = w k) : KN w' W n d p q dP dQ qI := by
  obtain ⟨a0, a1, a2, a3, a4, a5, a6, hb⟩ := h
  exact ⟨(hk _ (by decide) (by decide)).trans a0, (hk _ (by decide) (by decide)).trans a1, (hk _ (by decide) (by decide)).trans a2, (hk _ (by decide) (by decide)).trans a3, (hk _ (by decide) (by decide)).trans a4, (hk _ (by decide) (by decide)).trans a5, (hk _ (by decide) (by decide)).trans a6, hb⟩
theorem KT.keep {w w' : ab_W} {W : Nat} (h : KT w W) (hk : ∀ k, 60 ≤ k → k ≤ 65 → w' k = w k) : KT w' W := by
  obtain ⟨v0, v1, v2, f, v4, v5, a0, a1, a2, a3, a4, a5, hb⟩ := h
  exact ⟨v0, v1, v2, f, v4, v5, (hk _ (by decide) (by decide)).trans a0, (hk _ (by decide) (by decide)).trans a1, (hk _ (by decide) (by decide)).trans a2, (hk _ (by decide) (by decide)).trans a3, (hk _ (by decide) (by decide)).trans a4, (hk _ (by decide) (by decide)).trans a5, hb⟩
set_option maxRecDepth 100000 in
set_option maxHeartbeats 4000000 in
theorem c_K_clear {g : ab_G} {N made : Nat} {w : ab_W} (h : w 28 = krO made) : ab_Ct MX2_clear g [.ref 28] N w (rt none N (wu w 28 (krO 0))) := by
  refine ab_Ct.of (by decide +kernel) (Nat.le_of_ble_eq_true rfl) (by rintro _ _ _ ⟨rfl, rfl, rfl⟩; trivial) ?_
  show ab_St MX2_clear g 0 0 0 [(0, .ref 28)] [] _ _ _
  refine r_aload_n dX2_clear_0 rfl ?_
  refine r_iconst (v := nI 0) dX2_clear_1 (by decide) ?_
  refine r_putf dX2_clear_2 fX2_70 (by repeat first | exact wu_eq | assumption | (apply wu_ne; first | omega | assumption | (apply Ne.symm; assumption))) rfl (by exact Nat.le_of_ble_eq_true rfl) (by rfl) (by rfl) ?_
  refine r_ret (r := none) dX2_clear_5 (by decide) (by decide) ?_
  exact ⟨rfl, rfl, rfl⟩
set_option maxRecDepth 100000 in
set_option maxHeartbeats 4000000 in
theorem c_stand {g : ab_G} {N made : Nat} {w : ab_W} (h : w 28 = krO made) (hm : made < 2) : ab_Ct MX2_stand g [.ref 28] N w (rp (some (.int (nI made))) N w) := by
  refine ab_Ct.of (by decide +kernel) (Nat.le_of_ble_eq_true rfl) (by rintro _ _ _ ⟨rfl, -, -⟩; exact nI_zk hm) ?_
  show ab_St MX2_stand g 0 0 0 [(0, .ref 28)] [] _ _ _
  refine r_aload_n dX2_stand_0 rfl ?_
  refine r_getf dX2_stand_1 fX2_70 (by repeat first | exact wu_eq | assumption | (apply wu_ne; first | omega | assumption | (apply Ne.symm; assumption))) (by rfl) ?_
  refine r_ret (r := (some (.int _))) dX2_stand_4 (by decide) (by decide) ?_
  exact ⟨rfl, rfl, rfl⟩
set_option maxRecDepth 100000 in
set_option maxHeartbeats 4000000 in
theorem c_isBelowN {g : ab_G} {N made W a u n : Nat} {w : ab_W} (h : w 28 = krO made) (ha : w a = aN (2 * W) u) (hn : w 53 = aN (2 * W) n) (hW : W ≤ 10) (hu : u < 4294967296 ^ (2 * W)) (hn2 : n < 4294967296 ^ (2 * W)) : ab_Ct MX2_isBelowN g [.ref 28, .ref a] N w (rp (some (.int (nI (if u < n then 1 else 0)))) N w) := by
  refine ab_Ct.of (by decide +kernel) (Nat.le_of_ble_eq_true rfl) (by rintro _ _ _ ⟨rfl, -, -⟩; exact nI_zk (by split <;> decide)) ?_
  show ab_St MX2_isBelowN g 0 0 0 [(0, .ref 28), (1, .ref a)] [] _ _ _
  refine r_aload_n dX2_isBelowN_0 rfl ?_
  refine r_aload_n dX2_isBelowN_1 rfl ?_
  refine r_getf dX2_isBelowN_2 fX2_30 (by repeat first | exact wu_eq | assumption | (apply wu_ne; first | omega | assumption | (apply Ne.symm; assumption))) (by rfl) ?_
  refine r_invS dX2_isBelowN_5 kX2_74 (c_order (n := 2 * W) (u := u) (v := n) ha hn (by omega) hu hn2) rfl rfl ⟨by decide, by decide⟩ (Nat.le_of_ble_eq_true rfl) ⟨by decide, by decide⟩ ⟨rfl, rfl⟩ ?_
  rintro _ _ _ ⟨rfl, rfl, rfl⟩
  refine r_if_ge (tgt := 15) dX2_isBelowN_8 (by decide) (fun h8 => ?_) (fun h8 => ?_)
  · refine r_iconst (v := nI 0) dX2_isBelowN_15 (by decide) ?_
    refine r_ret (r := (some (.int _))) dX2_isBelowN_16 (by decide) (by decide) ?_
    rw [if_neg fun h => by rw [if_pos h] at h8; exact absurd h8 (by decide)]
    exact ⟨rfl, rfl, rfl⟩
  · refine r_iconst (v := nI 1) dX2_isBelowN_11 (by decide) ?_
    refine r_goto (tgt := 16) dX2_isBelowN_12 (by decide) ?_
    refine r_ret (r := (some (.int _))) dX2_isBelowN_16 (by decide) (by decide) ?_
    by_cases h : u < n
    · rw [if_pos h]
      exact ⟨rfl, rfl, rfl⟩
    · rw [if_neg h] at h8
      split at h8 <;> exact absurd h8 (by decide)
set_option maxRecDepth 100000 in
set_option maxHeartbeats 4000000 in
theorem c_K_init {g : ab_G} {W : Nat} {w : ab_W} (h28 : w 28 = aO 2 [.null, .null, .null, .null, .null, .null, .null, .null, .null, .null, .null, .null, .null, .null, .null, .null, .int 0]) (h1 : 1 ≤ W) (h2 : W ≤ 10) : ab_Ct MX2_init g [.ref 28, .int (nI W)] 29 w (fun r N' w' => w' 28 = krO 0 ∧ MSH w' 29 (2 * W) ∧ MSH w' 37 W ∧ MSH w' 45 W ∧ KN w' W 0 0 0 0 0 0 0 ∧ KT w' W ∧ (∀ k, k < 28 → w' k = w k) ∧ r = none ∧ 66 = N') := by
  have hmax : (if nI 1 < nI W then nI W else nI 1) = nI W := by
    by_cases h : 1 < W
    · rw [if_pos ((nI_ltI (by decide) (by omega)).mpr h)]
    · rw [show W = 1 by omega]
      split <;> rfl
  have hz : (mZ MX4_init).slots ≤ 142 := by decide
  refine ab_Ct.of (by decide +kernel) (Nat.le_of_ble_eq_true rfl) (by rintro _ _ _ ⟨-, -, -, -, -, -, -, rfl, -⟩; trivial) ?_
  show ab_St MX2_init g 0 0 0 [(0, .ref 28), (1, .int (nI W))] [] _ _ _
  refine r_aload_n dX2_init_0 rfl ?_
  refine r_obj dX2_init_1 obX2 obI obC (by decide) (by decide) ?_
  refine r_iconst (v := nI 1) dX2_init_4 (by decide) ?_
  refine r_iload_n dX2_init_5 rfl ?_
  refine r_max dX2_init_6 kX2_7 (by decide) (Nat.le_of_ble_eq_true rfl) (by decide) (by decide) ?_
  rw [hmax]
  refine r_istore_n (i := 2) (L0 := [(0, _), (1, _)]) dX2_init_9 rfl (by decide) rfl ?_
  refine r_aload_n dX2_init_10 rfl ?_
  refine r_new (fs := [.int 0, .null, .null, .null, .null, .null, .null, .null, .long 0]) dX2_init_11 (ci := 4) rfl iwX4 tyX4_ok nX2_13 itX4 iiX4 (by decide) rfl (by decide) (by decide) ?_
  refine r_dup dX2_init_14 rfl ?_
  refine r_iconst (v := nI 2) dX2_init_15 (by decide) ?_
  refine r_iload_n dX2_init_16 rfl ?_
  first | refine r_imulN dX2_init_17 ?_ | refine r_imul dX2_init_17 ?_
  refine r_invI dX2_init_18 kX2_15 rfl (c_Modulus_init (M := 29) (W := 2 * W) (by repeat first | exact wu_eq | assumption | (apply wu_ne; first | omega | assumption | (apply Ne.symm; assumption))) (by omega) (by omega)) rfl rfl ⟨by decide, by decide⟩ (Nat.le_of_ble_eq_true rfl) ⟨by decide, by decide⟩ ⟨rfl, rfl⟩ ?_
  rintro _ _ w1 ⟨m1, f1, rfl, rfl⟩
  have e1 := (f1 28 (by decide)).trans (wu_ne (by decide) h28)
  refine r_putF dX2_init_21 fX2_18 (by repeat first | exact wu_eq | assumption | (apply wu_ne; first | omega | assumption | (apply Ne.symm; assumption))) rfl rfl rfl (by exact Nat.le_of_ble_eq_true rfl) (by rfl) (by rfl) ?_
  refine r_aload_n dX2_init_24 rfl ?_
  refine r_new (fs := [.int 0, .null, .null, .null, .null, .null, .null, .null, .long 0]) dX2_init_25 (ci := 4) rfl iwX4 tyX4_ok nX2_13 itX4 iiX4 (by decide) rfl (by decide) (by decide) ?_
  refine r_dup dX2_init_28 rfl ?_
  refine r_iload_n dX2_init_29 rfl ?_
  refine r_invI dX2_init_30 kX2_15 rfl (c_Modulus_init (M := 37) (W := W) (by repeat first | exact wu_eq | assumption | (apply wu_ne; first | omega | assumption | (apply Ne.symm; assumption))) (by omega) (by omega)) rfl rfl ⟨by decide, by decide⟩ (Nat.le_of_ble_eq_true rfl) ⟨by decide, by decide⟩ ⟨rfl, rfl⟩ ?_
  rintro _ _ w2 ⟨m2, f2, rfl, rfl⟩
  have e2 := (f2 28 (by decide)).trans (wu_ne (by decide) wu_eq)
  refine r_putF dX2_init_33 fX2_24 (by repeat first | exact wu_eq | assumption | (apply wu_ne; first | omega | assumption | (apply Ne.symm; assumption))) rfl rfl rfl (by exact Nat.le_of_ble_eq_true rfl) (by rfl) (by rfl) ?_
  refine r_aload_n dX2_init_36 rfl ?_
  refine r_new (fs := [.int 0, .null, .null, .null, .null, .null, .null, .null, .long 0]) dX2_init_37 (ci := 4) rfl iwX4 tyX4_ok nX2_13 itX4 iiX4 (by decide) rfl (by decide) (by decide) ?_
  refine r_dup dX2_init_40 rfl ?_
  refine r_iload_n dX2_init_41 rfl ?_
  refine r_invI dX2_init_42 kX2_15 rfl (c_Modulus_init (M := 45) (W := W) (by repeat first | exact wu_eq | assumption | (apply wu_ne; first | omega | assumption | (apply Ne.symm; assumption))) (by omega) (by omega)) rfl rfl ⟨by decide, by decide⟩ (Nat.le_of_ble_eq_true rfl) ⟨by decide, by decide⟩ ⟨rfl, rfl⟩ ?_
  rintro _ _ w3 ⟨m3, f3, rfl, rfl⟩
  have e3 := (f3 28 (by decide)).trans (wu_ne (by decide) wu_eq)
  refine r_putF dX2_init_45 fX2_27 (by repeat first | exact wu_eq | assumption | (apply wu_ne; first | omega | assumption | (apply Ne.symm; assumption))) rfl rfl rfl (by exact Nat.le_of_ble_eq_true rfl) (by rfl) (by rfl) ?_
  refine r_aload_n dX2_init_48 rfl ?_
  refine r_iconst (v := nI 2) dX2_init_49 (by decide) ?_
  refine r_iload_n dX2_init_50 rfl ?_
  first | refine r_imulN dX2_init_51 ?_ | refine r_imul dX2_init_51 ?_
  refine r_newaJ dX2_init_52 rfl (by omega) arJ (by decide) (by first | decide | (show _ ≤ 624; omega)) ?_
  refine r_putF dX2_init_54 fX2_30 (by repeat first | exact wu_eq | assumption | (apply wu_ne; first | omega | assumption | (apply Ne.symm; assumption))) rfl rfl rfl (by exact Nat.le_of_ble_eq_true rfl) (by rfl) (by rfl) ?_
  refine r_aload_n dX2_init_57 rfl ?_
  refine r_iconst (v := nI 2) dX2_init_58 (by decide) ?_
  refine r_iload_n dX2_init_59 rfl ?_
  first | refine r_imulN dX2_init_60 ?_ | refine r_imul dX2_init_60 ?_
  refine r_newaJ dX2_init_61 rfl (by omega) arJ (by decide) (by first | decide | (show _ ≤ 624; omega)) ?_
  refine r_putF dX2_init_63 fX2_34 (by repeat first | exact wu_eq | assumption | (apply wu_ne; first | omega | assumption | (apply Ne.symm; assumption))) rfl rfl rfl (by exact Nat.le_of_ble_eq_true rfl) (by rfl) (by rfl) ?_
  refine r_aload_n dX2_init_66 rfl ?_
  refine r_iload_n dX2_init_67 rfl ?_
  refine r_newaJ dX2_init_68 rfl (by omega) arJ (by decide) (by first | decide | (show _ ≤ 624; omega)) ?_
  refine r_putF dX2_init_70 fX2_37 (by repeat first | exact wu_eq | assumption | (apply wu_ne; first | omega | assumption | (apply Ne.symm; assumption))) rfl rfl rfl (by exact Nat.le_of_ble_eq_true rfl) (by rfl) (by rfl) ?_
  refine r_aload_n dX2_init_73 rfl ?_
  refine r_iload_n dX2_init_74 rfl ?_
  refine r_newaJ dX2_init_75 rfl (by omega) arJ (by decide) (by first | decide | (show _ ≤ 624; omega)) ?_
  refine r_putF dX2_init_77 fX2_40 (by repeat first | exact wu_eq | assumption | (apply wu_ne; first | omega | assumption | (apply Ne.symm; assumption))) rfl rfl rfl (by exact Nat.le_of_ble_eq_true rfl) (by rfl) (by rfl) ?_
  refine r_aload_n dX2_init_80 rfl ?_
  refine r_iload_n dX2_init_81 rfl ?_
  refine r_newaJ dX2_init_82 rfl (by omega) arJ (by decide) (by first | decide | (show _ ≤ 624; omega)) ?_
  refine r_putF dX2_init_84 fX2_43 (by repeat first | exact wu_eq | assumption | (apply wu_ne; first | omega | assumption | (apply Ne.symm; assumption))) rfl rfl rfl (by exact Nat.le_of_ble_eq_true rfl) (by rfl) (by rfl) ?_
  refine r_aload_n dX2_init_87 rfl ?_
  refine r_iload_n dX2_init_88 rfl ?_
  refine r_newaJ dX2_init_89 rfl (by omega) arJ (by decide) (by first | decide | (show _ ≤ 624; omega)) ?_
  refine r_putF dX2_init_91 fX2_46 (by repeat first | exact wu_eq | assumption | (apply wu_ne; first | omega | assumption | (apply Ne.symm; assumption))) rfl rfl rfl (by exact Nat.le_of_ble_eq_true rfl) (by rfl) (by rfl) ?_
  refine r_aload_n dX2_init_94 rfl ?_
  refine r_iload_n dX2_init_95 rfl ?_
  refine r_newaJ dX2_init_96 rfl (by omega) arJ (by decide) (by first | decide | (show _ ≤ 624; omega)) ?_
  refine r_putF dX2_init_98 fX2_49 (by repeat first | exact wu_eq | assumption | (apply wu_ne; first | omega | assumption | (apply Ne.symm; assumption))) rfl rfl rfl (by exact Nat.le_of_ble_eq_true rfl) (by rfl) (by rfl) ?_
  refine r_aload_n dX2_init_101 rfl ?_
  refine r_iload_n dX2_init_102 rfl ?_
  refine r_newaJ dX2_init_103 rfl (by omega) arJ (by decide) (by first | decide | (show _ ≤ 624; omega)) ?_
  refine r_putF dX2_init_105 fX2_52 (by repeat first | exact wu_eq | assumption | (apply wu_ne; first | omega | assumption | (apply Ne.symm; assumption))) rfl rfl rfl (by exact Nat.le_of_ble_eq_true rfl) (by rfl) (by rfl) ?_
  refine r_aload_n dX2_init_108 rfl ?_
  refine r_iload_n dX2_init_109 rfl ?_
  refine r_newaJ dX2_init_110 rfl (by omega) arJ (by decide) (by first | decide | (show _ ≤ 624; omega)) ?_
  refine r_putF dX2_init_112 fX2_55 (by repeat first | exact wu_eq | assumption | (apply wu_ne; first | omega | assumption | (apply Ne.symm; assumption))) rfl rfl rfl (by exact Nat.le_of_ble_eq_true rfl) (by rfl) (by rfl) ?_
  refine r_aload_n dX2_init_115 rfl ?_
  refine r_iconst (v := nI 2) dX2_init_116 (by decide) ?_
  refine r_iload_n dX2_init_117 rfl ?_
  first | refine r_imulN dX2_init_118 ?_ | refine r_imul dX2_init_118 ?_
  refine r_newaJ dX2_init_119 rfl (by omega) arJ (by decide) (by first | decide | (show _ ≤ 624; omega)) ?_
  refine r_putF dX2_init_121 fX2_58 (by repeat first | exact wu_eq | assumption | (apply wu_ne; first | omega | assumption | (apply Ne.symm; assumption))) rfl rfl rfl (by exact Nat.le_of_ble_eq_true rfl) (by rfl) (by rfl) ?_
  refine r_aload_n dX2_init_124 rfl ?_
  refine r_iconst (v := nI 2) dX2_init_125 (by decide) ?_
  refine r_iload_n dX2_init_126 rfl ?_
  first | refine r_imulN dX2_init_127 ?_ | refine r_imul dX2_init_127 ?_
  refine r_iconst (v := nI 1) dX2_init_128 (by decide) ?_
  first | refine r_iaddN dX2_init_129 ?_ | refine r_iadd dX2_init_129 ?_
  refine r_newaJ dX2_init_130 rfl (by omega) arJ (by decide) (by first | decide | (show _ ≤ 624; omega)) ?_
  refine r_putF dX2_init_132 fX2_61 (by repeat first | exact wu_eq | assumption | (apply wu_ne; first | omega | assumption | (apply Ne.symm; assumption))) rfl rfl rfl (by exact Nat.le_of_ble_eq_true rfl) (by rfl) (by rfl) ?_
  refine r_aload_n dX2_init_135 rfl ?_
  refine r_iload_n dX2_init_136 rfl ?_
  refine r_newaJ dX2_init_137 rfl (by omega) arJ (by decide) (by first | decide | (show _ ≤ 624; omega)) ?_
  refine r_putF dX2_init_139 fX2_64 (by repeat first | exact wu_eq | assumption | (apply wu_ne; first | omega | assumption | (apply Ne.symm; assumption))) rfl rfl rfl (by exact Nat.le_of_ble_eq_true rfl) (by rfl) (by rfl) ?_
  refine r_aload_n dX2_init_142 rfl ?_
  refine r_iload_n dX2_init_143 rfl ?_
  refine r_newaJ dX2_init_144 rfl (by omega) arJ (by decide) (by first | decide | (show _ ≤ 624; omega)) ?_
  refine r_putF dX2_init_146 fX2_67 (by repeat first | exact wu_eq | assumption | (apply wu_ne; first | omega | assumption | (apply Ne.symm; assumption))) rfl rfl rfl (by exact Nat.le_of_ble_eq_true rfl) (by rfl) (by rfl) ?_
  refine r_ret (r := none) dX2_init_149 (by decide) (by first | decide | (show _ ≤ 624; omega)) ?_
  have hp : 0 < 4294967296 ^ W := Nat.pow_pos (by decide)
  have hp2 : 0 < 4294967296 ^ (2 * W) := Nat.pow_pos (by decide)
  have m1' : MSH w3 29 (2 * W) := m1.keep fun k a b => (f3 k (by omega)).trans ((wu_ne (by omega) (wu_ne (by omega) rfl)).trans ((f2 k (by omega)).trans (wu_ne (by omega) (wu_ne (by omega) rfl))))
  have m2' : MSH w3 37 W := m2.keep fun k a b => (f3 k (by omega)).trans (wu_ne (by omega) (wu_ne (by omega) rfl))
  refine ⟨wu_eq, m1'.keep fun k a b => ?_, m2'.keep fun k a b => ?_, m3.keep fun k a b => ?_, ⟨?_, ?_, ?_, ?_, ?_, ?_, ?_, hp2, hp2, hp, hp, hp, hp, hp⟩, ⟨0, 0, 0, fun _ => 0, 0, 0, ?_, ?_, ?_, ?_, ?_, ?_, hp, hp, hp2, hp, hp⟩, ?_, rfl, rfl⟩
  · repeat (first | rfl | (apply wu_ne; omega))
  · repeat (first | rfl | (apply wu_ne; omega))
  · repeat (first | rfl | (apply wu_ne; omega))
  · rw [aN_0]; (repeat first | exact wu_eq | assumption | (apply wu_ne; first | omega | assumption | (apply Ne.symm; assumption)))
  · rw [aN_0]; (repeat first | exact wu_eq | assumption | (apply wu_ne; first | omega | assumption | (apply Ne.symm; assumption)))
  · rw [aN_0]; (repeat first | exact wu_eq | assumption | (apply wu_ne; first | omega | assumption | (apply Ne.symm; assumption)))
  · rw [aN_0]; (repeat first | exact wu_eq | assumption | (apply wu_ne; first | omega | assumption | (apply Ne.symm; assumption)))
  · rw [aN_0]; (repeat first | exact wu_eq | assumption | (apply wu_ne; first | omega | assumption | (apply Ne.symm; assumption)))
  · rw [aN_0]; (repeat first | exact wu_eq | assumption | (apply wu_ne; first | omega | assumption | (apply Ne.symm; assumption)))
  · rw [aN_0]; (repeat first | exact wu_eq | assumption | (apply wu_ne; first | omega | assumption | (apply Ne.symm; assumption)))
  · rw [aN_0]; (repeat first | exact wu_eq | assumption | (apply wu_ne; first | omega | assumption | (apply Ne.symm; assumption)))
  · rw [aN_0]; (repeat first | exact wu_eq | assumption | (apply wu_ne; first | omega | assumption | (apply Ne.symm; assumption)))
  · rw [aN_0]; (repeat first | exact wu_eq | assumption | (apply wu_ne; first | omega | assumption | (apply Ne.symm; assumption)))
  · (repeat first | exact wu_eq | assumption | (apply wu_ne; first | omega | assumption | (apply Ne.symm; assumption)))
  · rw [aN_0]; (repeat first | exact wu_eq | assumption | (apply wu_ne; first | omega | assumption | (apply Ne.symm; assumption)))
  · rw [aN_0]; (repeat first | exact wu_eq | assumption | (apply wu_ne; first | omega | assumption | (apply Ne.symm; assumption)))
  · intro k hk
    refine Eq.trans ?_ ((f3 k (by omega)).trans ((wu_ne (by omega) (wu_ne (by omega) rfl)).trans ((f2 k (by omega)).trans ((wu_ne (by omega) (wu_ne (by omega) rfl)).trans ((f1 k (by omega)).trans ?_)))))
    · repeat (first | rfl | (apply wu_ne; omega))
    · repeat (first | rfl | (apply wu_ne; omega))
