/-! SignHouseLaw: the two answer alike -/
set_option maxRecDepth 100000 in
set_option maxHeartbeats 4000000 in
theorem c_cell {g : ab_G} {N L k : Nat} {xs : Nat → Int32} {w : ab_W} (h : w 6 = xI L xs) (hL : L ≤ 2050) (hk : k < 2147483648) : ab_Ct ML_cell g [.ref 6, .int (nI k)] N w (rp (some (.int (if k < L then xs k else 0))) N w) := by
  refine ab_Ct.of (by decide +kernel) (Nat.le_of_ble_eq_true rfl) (by rintro _ _ _ ⟨rfl, rfl, rfl⟩; trivial) ?_
  show ab_St ML_cell g 0 0 0 [(0, .ref 6), (1, .int (nI k))] [] _ _ _
  refine r_iload_n dL_cell_0 rfl ?_
  refine r_aload_n dL_cell_1 rfl ?_
  refine r_alen' dL_cell_2 (by repeat first | exact wu_eq | assumption | (apply wu_ne; first | omega | assumption | (apply Ne.symm; assumption))) (by rfl) ?_
  first | refine r_icmp_geN (tgt := 12) dL_cell_3 (by decide) (by omega) (by omega) (fun h3 => ?_) (fun h3 => ?_) | refine r_icmp_ge (tgt := 12) dL_cell_3 (by decide) (fun h3 => ?_) (fun h3 => ?_)
  · refine r_iconst (v := nI 0) dL_cell_12 (by decide) ?_
    refine r_ret (r := (some (.int _))) dL_cell_13 (by decide) (by decide) ?_
    rw [if_neg (by omega)]
    exact ⟨rfl, rfl, rfl⟩
  · refine r_aload_n dL_cell_6 rfl ?_
    refine r_iload_n dL_cell_7 rfl ?_
    refine r_iaload' dL_cell_8 (by repeat first | exact wu_eq | assumption | (apply wu_ne; first | omega | assumption | (apply Ne.symm; assumption))) (by rfl) _ rfl (by omega) (by omega) ?_
    refine r_goto (tgt := 13) dL_cell_9 (by decide) ?_
    refine r_ret (r := (some (.int _))) dL_cell_13 (by decide) (by decide) ?_
    rw [if_pos (by omega)]
    exact ⟨rfl, rfl, rfl⟩
/-- the rows below 7 never change -/
theorem r_low {μ : ab_M} {g : ab_G} {uc us pc N : Nat} {L : List (Nat × Value)} {S : List Value} {w : ab_W} {Q : ab_Q} (k : (∀ k, k < 7 → w k = gX g k) → ab_St μ g uc us pc L S N w Q) : ab_St μ g uc us pc L S N w Q := fun p e s m args below meth c Z H locs ls E R hP hS hl => k hP.2.2.2.1 p e s m args below meth c Z H locs ls E R hP hS hl
def LI (w : ab_W) : Prop := ∃ half rounds c ω bg σ d len R sg vf, HW w half rounds c ω bg σ d len R sg vf ∧ MH w half rounds c ω bg σ d len R sg vf ∧ INV half σ ∧ (bg = 0 → hP σ = 0)
/-- both answer v, and the worlds stay as they should -/
def PR (M1 M2 : ab_M) (g : ab_G) (as : List Value) (w : ab_W) : Prop := ∃ (v : Int32) (Q0 : ab_Q), ab_Ct M1 g (.ref 7 :: as) 84 w Q0 ∧ ∀ r N w', Q0 r N w' → r = some (.int v) ∧ 84 = N ∧ (∃ fs, w' 74 = aO 7 fs) ∧ ∃ Q1 : ab_Q, ab_Ct M2 g (.ref 74 :: as) 84 w' Q1 ∧ ∀ r N w2, Q1 r N w2 → r = some (.int v) ∧ 84 = N ∧ LI w2
theorem MH.o {w : ab_W} {half rounds c : Nat} {ω : Nat → Nat} {bg : Nat} {σ : hT} {d : Nat → Nat} {len R sg vf : Nat} (h : MH w half rounds c ω bg σ d len R sg vf) : ∃ fs, w 74 = mdX fs := by
  obtain ⟨bu, v, h1, -⟩ := h
  exact ⟨_, h1⟩
theorem PR.same {M1 M2 : ab_M} {g : ab_G} {as : List Value} {w : ab_W} {v : Int32} (h1 : ab_Ct M1 g (.ref 7 :: as) 84 w (rp (some (.int v)) 84 w)) (h2 : ab_Ct M2 g (.ref 74 :: as) 84 w (rp (some (.int v)) 84 w)) (hL : LI w) : PR M1 M2 g as w := by
  obtain ⟨half, rounds, c, ω, bg, σ, d, len, R, sg, vf, H, M, I, hb⟩ := id hL
  refine ⟨v, _, h1, ?_⟩
  rintro r N w' ⟨rfl, rfl, rfl⟩
  obtain ⟨fs, e⟩ := M.o
  refine ⟨rfl, rfl, ⟨_, e⟩, _, h2, ?_⟩
  rintro r N w2 ⟨rfl, rfl, rfl⟩
  exact ⟨rfl, rfl, hL⟩
theorem PR.both {M1 M2 : ab_M} {g : ab_G} {as : List Value} {w : ab_W} {v : Int32} {half rounds c : Nat} {ω : Nat → Nat} {bg : Nat} {σ : hT} {d : Nat → Nat} {len R sg vf c' : Nat} {ω' : Nat → Nat} {bg' : Nat} {σ' : hT} {d' : Nat → Nat} {len' R' sg' vf' : Nat} (h1 : ab_Ct M1 g (.ref 7 :: as) 84 w (fun r N' w' => HW w' half rounds c' ω' bg' σ' d' len' R' sg' vf' ∧ (∀ k, 73 < k → w' k = w k) ∧ r = some (.int v) ∧ 84 = N')) (h2 : ∀ w1, MH w1 half rounds c ω bg σ d len R sg vf → ab_Ct M2 g (.ref 74 :: as) 84 w1 (fun r N' w' => MH w' half rounds c' ω' bg' σ' d' len' R' sg' vf' ∧ (∀ k, k < 74 → w' k = w1 k) ∧ r = some (.int v) ∧ 84 = N')) (M : MH w half rounds c ω bg σ d len R sg vf) (I : INV half σ') (hb : bg' = 0 → hP σ' = 0) : PR M1 M2 g as w := by
  refine ⟨v, _, h1, ?_⟩
  rintro r N w' ⟨H', F, rfl, rfl⟩
  have M' := M.keep F
  obtain ⟨fs, e⟩ := M'.o
  refine ⟨rfl, rfl, ⟨_, e⟩, _, h2 w' M', ?_⟩
  rintro r N w2 ⟨M2, F2, rfl, rfl⟩
  exact ⟨rfl, rfl, half, rounds, c', ω', bg', σ', d', len', R', sg', vf', H'.keep F2, M2, I, hb⟩
theorem PR.mix {M1 M2 : ab_M} {g : ab_G} {as : List Value} {w : ab_W} {v : Int32} {half rounds c : Nat} {ω : Nat → Nat} {bg : Nat} {σ : hT} {d : Nat → Nat} {len R sg vf : Nat} (h1 : ab_Ct M1 g (.ref 7 :: as) 84 w (rp (some (.int v)) 84 w)) (h2 : ab_Ct M2 g (.ref 74 :: as) 84 w (fun r N' w' => MH w' half rounds c ω bg σ d len R sg vf ∧ (∀ k, k < 74 → w' k = w k) ∧ r = some (.int v) ∧ 84 = N')) (H : HW w half rounds c ω bg σ d len R sg vf) (M : MH w half rounds c ω bg σ d len R sg vf) (I : INV half σ) (hb : bg = 0 → hP σ = 0) : PR M1 M2 g as w := by
  refine ⟨v, _, h1, ?_⟩
  rintro r N w' ⟨rfl, rfl, rfl⟩
  obtain ⟨fs, e⟩ := M.o
  refine ⟨rfl, rfl, ⟨_, e⟩, _, h2, ?_⟩
  rintro r N w2 ⟨M2, F2, rfl, rfl⟩
  exact ⟨rfl, rfl, half, rounds, c, ω, bg, σ, d, len, R, sg, vf, H.keep F2, M2, I, hb⟩
theorem HW.c16 {w : ab_W} {half rounds c : Nat} {ω : Nat → Nat} {bg : Nat} {σ : hT} {d : Nat → Nat} {len R sg vf : Nat} (h : HW w half rounds c ω bg σ d len R sg vf) : c ≤ 16 := h.2.1.c16
theorem HW.R {w : ab_W} {half rounds c : Nat} {ω : Nat → Nat} {bg : Nat} {σ : hT} {d : Nat → Nat} {len R sg vf : Nat} (h : HW w half rounds c ω bg σ d len R sg vf) : R < 256 ^ (2 * half) := by
  obtain ⟨o1, o2, o3, o4, ⟨n, dd, p, q, dP, dQ, qI, o5⟩, o6, ⟨o7, o8, o9⟩, o10, o11, ⟨o12, o13⟩, ⟨e, o14, o15⟩, ⟨e2, o16, o17⟩, o18⟩ := h
  exact o13
theorem HW.len {w : ab_W} {half rounds c : Nat} {ω : Nat → Nat} {bg : Nat} {σ : hT} {d : Nat → Nat} {len R sg vf : Nat} (h : HW w half rounds c ω bg σ d len R sg vf) : len ≤ 300 := by
  obtain ⟨o1, o2, o3, o4, ⟨n, dd, p, q, dP, dQ, qI, o5⟩, o6, ⟨o7, o8, o9⟩, o10, o11, ⟨o12, o13⟩, ⟨e, o14, o15⟩, ⟨e2, o16, o17⟩, o18⟩ := h
  obtain ⟨f66, k66, -, -, -, -, -, hl⟩ := o11
  exact hl
theorem p_seed {g : ab_G} {x : Int32} {w : ab_W} (h : LI w) : PR MX7_seed MX8_seed g [.int x] w := by
  obtain ⟨half, rounds, c, ω, bg, σ, d, len, R, sg, vf, H, M, I, hb⟩ := id h
  obtain ⟨fs, e74⟩ := M.o
  have hh := H.half
  rcases (by omega : bg = 1 ∨ bg = 0) with rfl | rfl
  · exact PR.same (c_seed_no H) (c_mseed_no M) h
  · have hc := H.c16
    by_cases h16 : c = 16
    · exact PR.same (c_seed_full H (by omega) (by omega)) (c_mseed_full M h16) h
    · obtain ⟨u, hu, rfl⟩ := wb_of32 x
      exact PR.both (c_seed H (by omega) (hb rfl) hu) (fun w1 M1 => c_mseed M1 (by omega) hu) M I fun _ => hb rfl
theorem p_search {g : ab_G} {x : Int32} {w : ab_W} (h : LI w) : PR MX7_search MX8_search g [.int x] w := by
  obtain ⟨half, rounds, c, ω, bg, σ, d, len, R, sg, vf, H, M, I, hb⟩ := id h
  obtain ⟨fs, e74⟩ := M.o
  have hh := H.half
  rcases i32_cases x with hx | ⟨m, hm, rfl⟩
  · exact PR.same (c_search_neg hx) (c_msearch_neg e74 hx) h
  · by_cases hr : 1 ≤ m ∧ m ≤ 60
    · by_cases hc : c = 0
      · exact PR.same (c_search_no H hr.1 hr.2 hc) (c_msearch_no M hr.1 hr.2 hc) h
      · exact PR.both (c_search H I hr.1 hr.2 (by omega)) (fun w1 M1 => c_msearch M1 I hr.1 hr.2 (by omega)) M (I.steps hh.1 m) fun q => absurd q (by decide)
    · exact PR.same (c_search_bad hm (by omega)) (c_msearch_bad e74 hm (by omega)) h
theorem p_forget {g : ab_G} {w : ab_W} (h : LI w) : PR MX7_forget MX8_forget g [] w := by
  obtain ⟨half, rounds, c, ω, bg, σ, d, len, R, sg, vf, H, M, I, hb⟩ := id h
  obtain ⟨fs, e74⟩ := M.o
  have hh := H.half
  have I0 : INV half (0, 0, 0, 0, hA σ, hB σ) := ⟨fun q => absurd (show 1 ≤ 0 from q) (by decide), fun q => absurd (show (0 : Nat) = 2 from q) (by decide), (by decide : 0 ≤ 2)⟩
  exact PR.both (c_forget H) (fun w1 M1 => c_mforget M1) M I0 fun _ => rfl
theorem p_key {g : ab_G} {x y : Int32} {w : ab_W} (h : LI w) : PR MX7_key MX8_key g [.int x, .int y] w := by
  obtain ⟨half, rounds, c, ω, bg, σ, d, len, R, sg, vf, H, M, I, hb⟩ := id h
  obtain ⟨fs, e74⟩ := M.o
  have hh := H.half
  rcases i32_cases x with hx | ⟨k, hk, rfl⟩
  · exact PR.same (c_key_neg hx) (c_mkey_neg e74 hx) h
  · by_cases h7 : k < 7
    · rcases i32_cases y with hy | ⟨i, hi, rfl⟩
      · exact PR.same (c_key_neg2 h7 hy) (c_mkey_neg2 M h7 hy) h
      · by_cases hw : i < kw half k
        · by_cases hp : hF σ = 2
          · exact PR.same (c_key H h7 hw hp) (c_mkey M h7 hw hp) h
          · exact PR.same (c_key_no H h7 hw hp) (c_mkey_no M h7 hw hp) h
        · exact PR.same (c_key_big2 H h7 hi (by omega)) (c_mkey_big2 M h7 hi (by omega)) h
    · exact PR.same (c_key_big hk (by omega)) (c_mkey_big e74 hk (by omega)) h
theorem p_count {g : ab_G} {x : Int32} {w : ab_W} (h : LI w) : PR MX7_count MX8_count g [.int x] w := by
  obtain ⟨half, rounds, c, ω, bg, σ, d, len, R, sg, vf, H, M, I, hb⟩ := id h
  obtain ⟨fs, e74⟩ := M.o
  have hh := H.half
  rcases i32_cases x with hx | ⟨k, hk, rfl⟩
  · exact PR.same (c_count_bad (Or.inl hx)) (c_mcount_bad (Or.inl hx)) h
  · by_cases h8 : k < 8
    · exact PR.same (c_count H h8) (c_mcount M h8) h
    · exact PR.same (c_count_bad (Or.inr ⟨k, hk, rfl, by omega⟩)) (c_mcount_bad (Or.inr ⟨k, hk, rfl, by omega⟩)) h
theorem p_feed {g : ab_G} {y : Int64} {x : Int32} {w : ab_W} (h : LI w) : PR MX7_feed MX8_feed g [.long y, .int x] w := by
  obtain ⟨half, rounds, c, ω, bg, σ, d, len, R, sg, vf, H, M, I, hb⟩ := id h
  obtain ⟨fs, e74⟩ := M.o
  have hh := H.half
  have hl := H.len
  rcases i32_cases x with hx | ⟨m, hm, rfl⟩
  · exact PR.same (c_feed_neg hx) (c_mfeed_neg e74 hx) h
  · by_cases hr : 1 ≤ m ∧ m ≤ 8
    · by_cases hf : len + m ≤ 300
      · obtain ⟨u, hu, rfl⟩ := wb_of y
        exact PR.both (c_feed H hr.1 hr.2 hf hu) (fun w1 M1 => c_mfeed M1 hr.1 hr.2 hf) M I hb
      · exact PR.same (c_feed_full H hr.1 hr.2 (by omega)) (c_mfeed_full M hr.1 hr.2 (by omega)) h
    · exact PR.same (c_feed_bad hm (by omega)) (c_mfeed_bad e74 hm (by omega)) h
theorem p_cut {g : ab_G} {x : Int32} {w : ab_W} (h : LI w) : PR MX7_cut MX8_cut g [.int x] w := by
  obtain ⟨half, rounds, c, ω, bg, σ, d, len, R, sg, vf, H, M, I, hb⟩ := id h
  obtain ⟨fs, e74⟩ := M.o
  have hh := H.half
  rcases i32_cases x with hx | ⟨m, hm, rfl⟩
  · exact PR.same (c_cut_neg H hx) (c_mcut_neg M hx) h
  · by_cases hr : m ≤ len
    · exact PR.both (c_cut H hr) (fun w1 M1 => c_mcut M1 hr) M I hb
    · exact PR.same (c_cut_bad H hm (by omega)) (c_mcut_bad M hm (by omega)) h
theorem p_hash {g : ab_G} {x : Int32} {w : ab_W} (h : LI w) : PR MX7_hash MX8_hash g [.int x] w := by
  obtain ⟨half, rounds, c, ω, bg, σ, d, len, R, sg, vf, H, M, I, hb⟩ := id h
  obtain ⟨fs, e74⟩ := M.o
  have hh := H.half
  rcases i32_cases x with hx | ⟨m, hm, rfl⟩
  · exact PR.same (c_hash_neg hx) (c_mhash_neg e74 hx) h
  · by_cases hr : m < 32
    · exact PR.mix (c_hash H hr) (c_mhash M hr) H M I hb
    · exact PR.same (c_hash_bad hm (by omega)) (c_mhash_bad e74 hm (by omega)) h
theorem p_encoded {g : ab_G} {x : Int32} {w : ab_W} (h : LI w) : PR MX7_encoded MX8_encoded g [.int x] w := by
  obtain ⟨half, rounds, c, ω, bg, σ, d, len, R, sg, vf, H, M, I, hb⟩ := id h
  obtain ⟨fs, e74⟩ := M.o
  have hh := H.half
  rcases i32_cases x with hx | ⟨m, hm, rfl⟩
  · exact PR.same (c_encoded_neg hx) (c_mencoded_neg M hx) h
  · by_cases hr : m < 2 * half
    · exact PR.mix (c_encoded H hr) (c_mencoded M hr) H M I hb
    · exact PR.same (c_encoded_bad H hm (by omega)) (c_mencoded_bad M hm (by omega)) h
theorem p_sign {g : ab_G} {w : ab_W} (h : LI w) : PR MX7_sign MX8_sign g [] w := by
  obtain ⟨half, rounds, c, ω, bg, σ, d, len, R, sg, vf, H, M, I, hb⟩ := id h
  obtain ⟨fs, e74⟩ := M.o
  have hh := H.half
  by_cases hp : hF σ = 2
  · exact PR.both (c_sign H I hp) (fun w1 M1 => c_msign M1 I hp) M I hb
  · exact PR.same (c_sign_no H hp) (c_msign_no M hp) h
theorem p_verify {g : ab_G} {w : ab_W} (h : LI w) : PR MX7_verify MX8_verify g [] w := by
  obtain ⟨half, rounds, c, ω, bg, σ, d, len, R, sg, vf, H, M, I, hb⟩ := id h
  obtain ⟨fs, e74⟩ := M.o
  have hh := H.half
  have hR := H.R
  by_cases hp : hF σ = 2
  · exact PR.both (c_verify H I hp) (fun w1 M1 => c_mverify M1 I hp hR) M I hb
  · exact PR.same (c_verify_no H hp) (c_mverify_no M hp) h
theorem p_power {g : ab_G} {b : Nat} (hb2 : b < 2) {w : ab_W} (h : LI w) : PR MX7_power MX8_power g [.int (nI b)] w := by
  obtain ⟨half, rounds, c, ω, bg, σ, d, len, R, sg, vf, H, M, I, hb⟩ := id h
  obtain ⟨fs, e74⟩ := M.o
  have hh := H.half
  have hR := H.R
  by_cases hp : hF σ = 2
  · by_cases hr : R < kP σ * kQ σ
    · exact PR.both (c_power H I hp hr hb2) (fun w1 M1 => c_mpower M1 I hp hr hb2) M I hb
    · exact PR.same (c_power_no2 H hp (Nat.le_of_not_lt hr)) (c_mpower_no2 M I hp hR (Nat.le_of_not_lt hr)) h
  · exact PR.same (c_power_no H hp) (c_mpower_no M hp) h
theorem p_encode {g : ab_G} {w : ab_W} (h : LI w) : PR MX7_encode MX8_encode g [] w := by
  obtain ⟨half, rounds, c, ω, bg, σ, d, len, R, sg, vf, H, M, I, hb⟩ := id h
  obtain ⟨fs, e74⟩ := M.o
  have hh := H.half
  exact PR.both (c_encode H) (fun w1 M1 => c_mencode M1) M I hb
theorem p_set {g : ab_G} {x y : Int32} {w : ab_W} (h : LI w) : PR MX7_set MX8_set g [.int x, .int y] w := by
  obtain ⟨half, rounds, c, ω, bg, σ, d, len, R, sg, vf, H, M, I, hb⟩ := id h
  obtain ⟨fs, e74⟩ := M.o
  have hh := H.half
  rcases i32_cases x with hx | ⟨m, hm, rfl⟩
  · exact PR.same (c_set_neg hx) (c_mset_neg M hx) h
  · by_cases hr : m < 2 * half
    · rcases i32_cases y with hy | ⟨b, hb2, rfl⟩
      · exact PR.same (c_set_neg2 H hr hy) (c_mset_neg2 M hr hy) h
      · by_cases hr2 : b < 256
        · exact PR.both (c_set H hr hr2) (fun w1 M1 => c_mset M1 hr hr2) M I hb
        · exact PR.same (c_set_bad2 H hr hb2 (by omega)) (c_mset_bad2 M hr hb2 (by omega)) h
    · exact PR.same (c_set_bad H hm (by omega)) (c_mset_bad M hm (by omega)) h
theorem p_get {g : ab_G} {x : Int32} {w : ab_W} (h : LI w) : PR MX7_get MX8_get g [.int x] w := by
  obtain ⟨half, rounds, c, ω, bg, σ, d, len, R, sg, vf, H, M, I, hb⟩ := id h
  obtain ⟨fs, e74⟩ := M.o
  have hh := H.half
  rcases i32_cases x with hx | ⟨m, hm, rfl⟩
  · exact PR.same (c_get_neg hx) (c_mget_neg M hx) h
  · by_cases hr : m < 2 * half
    · exact PR.same (c_get H hr) (c_mget M hr) h
    · exact PR.same (c_get_bad H hm (by omega)) (c_mget_bad M hm (by omega)) h
/-- both answer the long v -/
def PRJ (M1 M2 : ab_M) (g : ab_G) (as : List Value) (w : ab_W) : Prop := ∃ (v : Int64) (Q0 : ab_Q), ab_Ct M1 g (.ref 7 :: as) 84 w Q0 ∧ ∀ r N w', Q0 r N w' → r = some (.long v) ∧ 84 = N ∧ (∃ fs, w' 74 = aO 7 fs) ∧ ∃ Q1 : ab_Q, ab_Ct M2 g (.ref 74 :: as) 84 w' Q1 ∧ ∀ r N w2, Q1 r N w2 → r = some (.long v) ∧ 84 = N ∧ LI w2
theorem p_digest {g : ab_G} {w : ab_W} (h : LI w) : PRJ MX7_digest MX8_digest g [] w := by
  obtain ⟨half, rounds, c, ω, bg, σ, d, len, R, sg, vf, H, M, I, hb⟩ := id h
  refine ⟨dgs half rounds c σ len R sg vf, _, c_digest H, ?_⟩
  rintro r N w' ⟨rfl, rfl, rfl⟩
  obtain ⟨fs, e⟩ := M.o
  refine ⟨rfl, rfl, ⟨_, e⟩, _, c_mdigest M, ?_⟩
  rintro r N w2 ⟨rfl, rfl, rfl⟩
  exact ⟨rfl, rfl, h⟩
