/-! SignHouse$Sha256: the object at s, its rows behind it -/
abbrev shO (s : Nat) : ab_C := aO 5 [.ref (s + 1), .ref (s + 2)]
set_option maxRecDepth 100000 in
set_option maxHeartbeats 4000000 in
theorem c_extendSchedule {g : ab_G} {N s : Nat} {f : Nat → Int32} {w : ab_W} (hs : w s = shO s) (hf : w (s + 2) = aI 64 f) : ab_Ct MX6_extendSchedule g [.ref s] N w (rt none N (wu w (s + 2) (aI 64 (sWt f 48)))) := by
  have K : ∀ k i, i + k = 48 → ab_St MX6_extendSchedule g 0 0 3 [(1, .int (nI (i + 16))), (0, .ref s)] [] N (wu w (s + 2) (aI 64 (sWt f i))) (rt none N (wu w (s + 2) (aI 64 (sWt f 48)))) := by
    intro k
    induction k with
    | zero =>
      intro i hi
      obtain rfl : i = 48 := by omega
      refine r_iload_n dX6_extendSchedule_3 rfl ?_
      refine r_aload_n dX6_extendSchedule_4 rfl ?_
      refine r_getf dX6_extendSchedule_5 fX6_13 (by repeat first | exact wu_eq | assumption | (apply wu_ne; first | omega | assumption | (apply Ne.symm; assumption))) (by rfl) ?_
      refine r_alen' dX6_extendSchedule_8 (by repeat first | exact wu_eq | assumption | (apply wu_ne; first | omega | assumption | (apply Ne.symm; assumption))) (by rfl) ?_
      first | refine r_icmp_geN (tgt := 107) dX6_extendSchedule_9 (by decide) (by omega) (by omega) (fun h9 => ?_) (fun h9 => ?_) | refine r_icmp_ge (tgt := 107) dX6_extendSchedule_9 (by decide) (fun h9 => ?_) (fun h9 => ?_)
      · refine r_ret (r := none) dX6_extendSchedule_107 (by decide) (by decide) ?_
        exact ⟨rfl, rfl, rfl⟩
      · omega
    | succ k ih =>
      intro i hi
      refine r_iload_n dX6_extendSchedule_3 rfl ?_
      refine r_aload_n dX6_extendSchedule_4 rfl ?_
      refine r_getf dX6_extendSchedule_5 fX6_13 (by repeat first | exact wu_eq | assumption | (apply wu_ne; first | omega | assumption | (apply Ne.symm; assumption))) (by rfl) ?_
      refine r_alen' dX6_extendSchedule_8 (by repeat first | exact wu_eq | assumption | (apply wu_ne; first | omega | assumption | (apply Ne.symm; assumption))) (by rfl) ?_
      first | refine r_icmp_geN (tgt := 107) dX6_extendSchedule_9 (by decide) (by omega) (by omega) (fun h9 => ?_) (fun h9 => ?_) | refine r_icmp_ge (tgt := 107) dX6_extendSchedule_9 (by decide) (fun h9 => ?_) (fun h9 => ?_)
      · omega
      · refine r_aload_n dX6_extendSchedule_12 rfl ?_
        refine r_getf dX6_extendSchedule_13 fX6_13 (by repeat first | exact wu_eq | assumption | (apply wu_ne; first | omega | assumption | (apply Ne.symm; assumption))) (by rfl) ?_
        refine r_iload_n dX6_extendSchedule_16 rfl ?_
        refine r_bipush (v := nI 15) dX6_extendSchedule_17 (by decide) ?_
        first | refine r_isubN dX6_extendSchedule_19 (by omega) ?_ | refine r_isub dX6_extendSchedule_19 ?_
        refine r_iaload' dX6_extendSchedule_20 (by repeat first | exact wu_eq | assumption | (apply wu_ne; first | omega | assumption | (apply Ne.symm; assumption))) (by rfl) _ rfl (by omega) (by omega) ?_
        refine r_istore_n (i := 2) (L0 := [(1, _), (0, _)]) dX6_extendSchedule_21 rfl (by decide) rfl ?_
        refine r_aload_n dX6_extendSchedule_22 rfl ?_
        refine r_getf dX6_extendSchedule_23 fX6_13 (by repeat first | exact wu_eq | assumption | (apply wu_ne; first | omega | assumption | (apply Ne.symm; assumption))) (by rfl) ?_
        refine r_iload_n dX6_extendSchedule_26 rfl ?_
        refine r_iconst (v := nI 2) dX6_extendSchedule_27 (by decide) ?_
        first | refine r_isubN dX6_extendSchedule_28 (by omega) ?_ | refine r_isub dX6_extendSchedule_28 ?_
        refine r_iaload' dX6_extendSchedule_29 (by repeat first | exact wu_eq | assumption | (apply wu_ne; first | omega | assumption | (apply Ne.symm; assumption))) (by rfl) _ rfl (by omega) (by omega) ?_
        refine r_istore_n (i := 3) (L0 := [(2, _), (1, _), (0, _)]) dX6_extendSchedule_30 rfl (by decide) rfl ?_
        refine r_iload_n dX6_extendSchedule_31 rfl ?_
        refine r_bipush (v := nI 7) dX6_extendSchedule_32 (by decide) ?_
        refine r_invS dX6_extendSchedule_34 kX6_29 (c_rotr _ _) rfl rfl ⟨by decide, by decide⟩ (Nat.le_of_ble_eq_true rfl) ⟨by decide, by decide⟩ ⟨rfl, rfl⟩ ?_
        rintro _ _ _ ⟨rfl, rfl, rfl⟩
        refine r_iload_n dX6_extendSchedule_37 rfl ?_
        refine r_bipush (v := nI 18) dX6_extendSchedule_38 (by decide) ?_
        refine r_invS dX6_extendSchedule_40 kX6_29 (c_rotr _ _) rfl rfl ⟨by decide, by decide⟩ (Nat.le_of_ble_eq_true rfl) ⟨by decide, by decide⟩ ⟨rfl, rfl⟩ ?_
        rintro _ _ _ ⟨rfl, rfl, rfl⟩
        refine r_ixor dX6_extendSchedule_43 ?_
        refine r_iload_n dX6_extendSchedule_44 rfl ?_
        refine r_iconst (v := nI 3) dX6_extendSchedule_45 (by decide) ?_
        refine r_iushr dX6_extendSchedule_46 ?_
        refine r_ixor dX6_extendSchedule_47 ?_
        refine r_istore (i := 4) (L0 := [(3, _), (2, _), (1, _), (0, _)]) dX6_extendSchedule_48 (by decide) rfl ?_
        refine r_iload_n dX6_extendSchedule_50 rfl ?_
        refine r_bipush (v := nI 17) dX6_extendSchedule_51 (by decide) ?_
        refine r_invS dX6_extendSchedule_53 kX6_29 (c_rotr _ _) rfl rfl ⟨by decide, by decide⟩ (Nat.le_of_ble_eq_true rfl) ⟨by decide, by decide⟩ ⟨rfl, rfl⟩ ?_
        rintro _ _ _ ⟨rfl, rfl, rfl⟩
        refine r_iload_n dX6_extendSchedule_56 rfl ?_
        refine r_bipush (v := nI 19) dX6_extendSchedule_57 (by decide) ?_
        refine r_invS dX6_extendSchedule_59 kX6_29 (c_rotr _ _) rfl rfl ⟨by decide, by decide⟩ (Nat.le_of_ble_eq_true rfl) ⟨by decide, by decide⟩ ⟨rfl, rfl⟩ ?_
        rintro _ _ _ ⟨rfl, rfl, rfl⟩
        refine r_ixor dX6_extendSchedule_62 ?_
        refine r_iload_n dX6_extendSchedule_63 rfl ?_
        refine r_bipush (v := nI 10) dX6_extendSchedule_64 (by decide) ?_
        refine r_iushr dX6_extendSchedule_66 ?_
        refine r_ixor dX6_extendSchedule_67 ?_
        refine r_istore (i := 5) (L0 := [(4, _), (3, _), (2, _), (1, _), (0, _)]) dX6_extendSchedule_68 (by decide) rfl ?_
        refine r_aload_n dX6_extendSchedule_70 rfl ?_
        refine r_getf dX6_extendSchedule_71 fX6_13 (by repeat first | exact wu_eq | assumption | (apply wu_ne; first | omega | assumption | (apply Ne.symm; assumption))) (by rfl) ?_
        refine r_iload_n dX6_extendSchedule_74 rfl ?_
        refine r_aload_n dX6_extendSchedule_75 rfl ?_
        refine r_getf dX6_extendSchedule_76 fX6_13 (by repeat first | exact wu_eq | assumption | (apply wu_ne; first | omega | assumption | (apply Ne.symm; assumption))) (by rfl) ?_
        refine r_iload_n dX6_extendSchedule_79 rfl ?_
        refine r_bipush (v := nI 16) dX6_extendSchedule_80 (by decide) ?_
        first | refine r_isubN dX6_extendSchedule_82 (by omega) ?_ | refine r_isub dX6_extendSchedule_82 ?_
        refine r_iaload' dX6_extendSchedule_83 (by repeat first | exact wu_eq | assumption | (apply wu_ne; first | omega | assumption | (apply Ne.symm; assumption))) (by rfl) _ rfl (by omega) (by omega) ?_
        refine r_iload dX6_extendSchedule_84 rfl ?_
        refine r_iadd dX6_extendSchedule_86 ?_
        refine r_aload_n dX6_extendSchedule_87 rfl ?_
        refine r_getf dX6_extendSchedule_88 fX6_13 (by repeat first | exact wu_eq | assumption | (apply wu_ne; first | omega | assumption | (apply Ne.symm; assumption))) (by rfl) ?_
        refine r_iload_n dX6_extendSchedule_91 rfl ?_
        refine r_bipush (v := nI 7) dX6_extendSchedule_92 (by decide) ?_
        first | refine r_isubN dX6_extendSchedule_94 (by omega) ?_ | refine r_isub dX6_extendSchedule_94 ?_
        refine r_iaload' dX6_extendSchedule_95 (by repeat first | exact wu_eq | assumption | (apply wu_ne; first | omega | assumption | (apply Ne.symm; assumption))) (by rfl) _ rfl (by omega) (by omega) ?_
        refine r_iadd dX6_extendSchedule_96 ?_
        refine r_iload dX6_extendSchedule_97 rfl ?_
        refine r_iadd dX6_extendSchedule_99 ?_
        refine r_iastore dX6_extendSchedule_100 (by repeat first | exact wu_eq | assumption | (apply wu_ne; first | omega | assumption | (apply Ne.symm; assumption))) _ rfl (by omega) (by omega) ?_
        refine r_iinc (L0 := [(5, _), (4, _), (3, _), (2, _), (0, _)]) dX6_extendSchedule_101 rfl (by first | exact iinc1 _ | rfl) (by decide) rfl ?_
        refine r_goto (tgt := 3) dX6_extendSchedule_104 (by decide) ?_
        refine r_sub [0, 5] rfl ?_
        rw [wu_wu, show i + 16 - 15 = i + 1 by omega, show i + 16 - 2 = i + 14 by omega, show i + 16 - 16 = i by omega, show i + 16 - 7 = i + 9 by omega]
        exact ih (i + 1) (by omega)
  refine ab_Ct.of (by decide +kernel) (Nat.le_of_ble_eq_true rfl) (by rintro _ _ _ ⟨rfl, rfl, rfl⟩; trivial) ?_
  show ab_St MX6_extendSchedule g 0 0 0 [(0, .ref s)] [] _ _ _
  refine r_bipush (v := nI 16) dX6_extendSchedule_0 (by decide) ?_
  refine r_istore_n (i := 1) (L0 := [(0, _)]) dX6_extendSchedule_2 rfl (by decide) rfl ?_
  have h := K 48 0 (by omega)
  rw [show sWt f 0 = f from rfl, wu_self hf] at h
  exact h
set_option maxRecDepth 100000 in
set_option maxHeartbeats 4000000 in
theorem c_mixBlock {g : ab_G} {N s : Nat} {f st : Nat → Int32} {w : ab_W} (hs : w s = shO s) (hst : w (s + 1) = aI 8 st) (hf : w (s + 2) = aI 64 f) (hx : w 1 = xI 64 sK) : ab_Ct MX6_mixBlock g [.ref s] N w (rt none N (wu w (s + 1) (aI 8 (sC f st)))) := by
  have K : ∀ k t, t + k = 64 → ab_St MX6_mixBlock g 0 0 66 [(9, .int (nI t)), (8, .int (sR f st t 7)), (7, .int (sR f st t 6)), (6, .int (sR f st t 5)), (5, .int (sR f st t 4)), (4, .int (sR f st t 3)), (3, .int (sR f st t 2)), (2, .int (sR f st t 1)), (1, .int (sR f st t 0)), (0, .ref s)] [] N w (rt none N (wu w (s + 1) (aI 8 (sC f st)))) := by
    intro k
    induction k with
    | zero =>
      intro t ht
      obtain rfl : t = 64 := by omega
      refine r_iload dX6_mixBlock_66 rfl ?_
      refine r_aload_n dX6_mixBlock_68 rfl ?_
      refine r_getf dX6_mixBlock_69 fX6_13 (by repeat first | exact wu_eq | assumption | (apply wu_ne; first | omega | assumption | (apply Ne.symm; assumption))) (by rfl) ?_
      refine r_alen' dX6_mixBlock_72 (by repeat first | exact wu_eq | assumption | (apply wu_ne; first | omega | assumption | (apply Ne.symm; assumption))) (by rfl) ?_
      first | refine r_icmp_geN (tgt := 225) dX6_mixBlock_73 (by decide) (by omega) (by omega) (fun h73 => ?_) (fun h73 => ?_) | refine r_icmp_ge (tgt := 225) dX6_mixBlock_73 (by decide) (fun h73 => ?_) (fun h73 => ?_)
      · refine r_aload_n dX6_mixBlock_225 rfl ?_
        refine r_getf dX6_mixBlock_226 fX6_7 (by repeat first | exact wu_eq | assumption | (apply wu_ne; first | omega | assumption | (apply Ne.symm; assumption))) (by rfl) ?_
        refine r_iconst (v := nI 0) dX6_mixBlock_229 (by decide) ?_
        first | refine r_dup2 dX6_mixBlock_230 rfl rfl ?_ | refine r_dup2w dX6_mixBlock_230 rfl ?_
        refine r_iaload' dX6_mixBlock_231 (by repeat first | exact wu_eq | assumption | (apply wu_ne; first | omega | assumption | (apply Ne.symm; assumption))) (by rfl) _ rfl (by omega) (by omega) ?_
        refine r_iload_n dX6_mixBlock_232 rfl ?_
        refine r_iadd dX6_mixBlock_233 ?_
        refine r_iastore dX6_mixBlock_234 (by repeat first | exact wu_eq | assumption | (apply wu_ne; first | omega | assumption | (apply Ne.symm; assumption))) _ rfl (by omega) (by omega) ?_
        refine r_aload_n dX6_mixBlock_235 rfl ?_
        refine r_getf dX6_mixBlock_236 fX6_7 (by repeat first | exact wu_eq | assumption | (apply wu_ne; first | omega | assumption | (apply Ne.symm; assumption))) (by rfl) ?_
        refine r_iconst (v := nI 1) dX6_mixBlock_239 (by decide) ?_
        first | refine r_dup2 dX6_mixBlock_240 rfl rfl ?_ | refine r_dup2w dX6_mixBlock_240 rfl ?_
        refine r_iaload' dX6_mixBlock_241 (by repeat first | exact wu_eq | assumption | (apply wu_ne; first | omega | assumption | (apply Ne.symm; assumption))) (by rfl) _ rfl (by omega) (by omega) ?_
        refine r_iload_n dX6_mixBlock_242 rfl ?_
        refine r_iadd dX6_mixBlock_243 ?_
        refine r_iastore dX6_mixBlock_244 (by repeat first | exact wu_eq | assumption | (apply wu_ne; first | omega | assumption | (apply Ne.symm; assumption))) _ rfl (by omega) (by omega) ?_
        refine r_aload_n dX6_mixBlock_245 rfl ?_
        refine r_getf dX6_mixBlock_246 fX6_7 (by repeat first | exact wu_eq | assumption | (apply wu_ne; first | omega | assumption | (apply Ne.symm; assumption))) (by rfl) ?_
        refine r_iconst (v := nI 2) dX6_mixBlock_249 (by decide) ?_
        first | refine r_dup2 dX6_mixBlock_250 rfl rfl ?_ | refine r_dup2w dX6_mixBlock_250 rfl ?_
        refine r_iaload' dX6_mixBlock_251 (by repeat first | exact wu_eq | assumption | (apply wu_ne; first | omega | assumption | (apply Ne.symm; assumption))) (by rfl) _ rfl (by omega) (by omega) ?_
        refine r_iload_n dX6_mixBlock_252 rfl ?_
        refine r_iadd dX6_mixBlock_253 ?_
        refine r_iastore dX6_mixBlock_254 (by repeat first | exact wu_eq | assumption | (apply wu_ne; first | omega | assumption | (apply Ne.symm; assumption))) _ rfl (by omega) (by omega) ?_
        refine r_aload_n dX6_mixBlock_255 rfl ?_
        refine r_getf dX6_mixBlock_256 fX6_7 (by repeat first | exact wu_eq | assumption | (apply wu_ne; first | omega | assumption | (apply Ne.symm; assumption))) (by rfl) ?_
        refine r_iconst (v := nI 3) dX6_mixBlock_259 (by decide) ?_
        first | refine r_dup2 dX6_mixBlock_260 rfl rfl ?_ | refine r_dup2w dX6_mixBlock_260 rfl ?_
        refine r_iaload' dX6_mixBlock_261 (by repeat first | exact wu_eq | assumption | (apply wu_ne; first | omega | assumption | (apply Ne.symm; assumption))) (by rfl) _ rfl (by omega) (by omega) ?_
        refine r_iload dX6_mixBlock_262 rfl ?_
        refine r_iadd dX6_mixBlock_264 ?_
        refine r_iastore dX6_mixBlock_265 (by repeat first | exact wu_eq | assumption | (apply wu_ne; first | omega | assumption | (apply Ne.symm; assumption))) _ rfl (by omega) (by omega) ?_
        refine r_aload_n dX6_mixBlock_266 rfl ?_
        refine r_getf dX6_mixBlock_267 fX6_7 (by repeat first | exact wu_eq | assumption | (apply wu_ne; first | omega | assumption | (apply Ne.symm; assumption))) (by rfl) ?_
        refine r_iconst (v := nI 4) dX6_mixBlock_270 (by decide) ?_
        first | refine r_dup2 dX6_mixBlock_271 rfl rfl ?_ | refine r_dup2w dX6_mixBlock_271 rfl ?_
        refine r_iaload' dX6_mixBlock_272 (by repeat first | exact wu_eq | assumption | (apply wu_ne; first | omega | assumption | (apply Ne.symm; assumption))) (by rfl) _ rfl (by omega) (by omega) ?_
        refine r_iload dX6_mixBlock_273 rfl ?_
        refine r_iadd dX6_mixBlock_275 ?_
        refine r_iastore dX6_mixBlock_276 (by repeat first | exact wu_eq | assumption | (apply wu_ne; first | omega | assumption | (apply Ne.symm; assumption))) _ rfl (by omega) (by omega) ?_
        refine r_aload_n dX6_mixBlock_277 rfl ?_
        refine r_getf dX6_mixBlock_278 fX6_7 (by repeat first | exact wu_eq | assumption | (apply wu_ne; first | omega | assumption | (apply Ne.symm; assumption))) (by rfl) ?_
        refine r_iconst (v := nI 5) dX6_mixBlock_281 (by decide) ?_
        first | refine r_dup2 dX6_mixBlock_282 rfl rfl ?_ | refine r_dup2w dX6_mixBlock_282 rfl ?_
        refine r_iaload' dX6_mixBlock_283 (by repeat first | exact wu_eq | assumption | (apply wu_ne; first | omega | assumption | (apply Ne.symm; assumption))) (by rfl) _ rfl (by omega) (by omega) ?_
        refine r_iload dX6_mixBlock_284 rfl ?_
        refine r_iadd dX6_mixBlock_286 ?_
        refine r_iastore dX6_mixBlock_287 (by repeat first | exact wu_eq | assumption | (apply wu_ne; first | omega | assumption | (apply Ne.symm; assumption))) _ rfl (by omega) (by omega) ?_
        refine r_aload_n dX6_mixBlock_288 rfl ?_
        refine r_getf dX6_mixBlock_289 fX6_7 (by repeat first | exact wu_eq | assumption | (apply wu_ne; first | omega | assumption | (apply Ne.symm; assumption))) (by rfl) ?_
        refine r_bipush (v := nI 6) dX6_mixBlock_292 (by decide) ?_
        first | refine r_dup2 dX6_mixBlock_294 rfl rfl ?_ | refine r_dup2w dX6_mixBlock_294 rfl ?_
        refine r_iaload' dX6_mixBlock_295 (by repeat first | exact wu_eq | assumption | (apply wu_ne; first | omega | assumption | (apply Ne.symm; assumption))) (by rfl) _ rfl (by omega) (by omega) ?_
        refine r_iload dX6_mixBlock_296 rfl ?_
        refine r_iadd dX6_mixBlock_298 ?_
        refine r_iastore dX6_mixBlock_299 (by repeat first | exact wu_eq | assumption | (apply wu_ne; first | omega | assumption | (apply Ne.symm; assumption))) _ rfl (by omega) (by omega) ?_
        refine r_aload_n dX6_mixBlock_300 rfl ?_
        refine r_getf dX6_mixBlock_301 fX6_7 (by repeat first | exact wu_eq | assumption | (apply wu_ne; first | omega | assumption | (apply Ne.symm; assumption))) (by rfl) ?_
        refine r_bipush (v := nI 7) dX6_mixBlock_304 (by decide) ?_
        first | refine r_dup2 dX6_mixBlock_306 rfl rfl ?_ | refine r_dup2w dX6_mixBlock_306 rfl ?_
        refine r_iaload' dX6_mixBlock_307 (by repeat first | exact wu_eq | assumption | (apply wu_ne; first | omega | assumption | (apply Ne.symm; assumption))) (by rfl) _ rfl (by omega) (by omega) ?_
        refine r_iload dX6_mixBlock_308 rfl ?_
        refine r_iadd dX6_mixBlock_310 ?_
        refine r_iastore dX6_mixBlock_311 (by repeat first | exact wu_eq | assumption | (apply wu_ne; first | omega | assumption | (apply Ne.symm; assumption))) _ rfl (by omega) (by omega) ?_
        refine r_ret (r := none) dX6_mixBlock_312 (by decide) (by decide) ?_
        refine ⟨rfl, rfl, ?_⟩
        simp only [wu_wu]
        congr 2
        funext j
        unfold sC va_up
        by_cases h8 : j < 8
        · rw [if_pos h8]
          rcases (show j = 0 ∨ j = 1 ∨ j = 2 ∨ j = 3 ∨ j = 4 ∨ j = 5 ∨ j = 6 ∨ j = 7 by omega) with rfl | rfl | rfl | rfl | rfl | rfl | rfl | rfl <;> rfl
        · rw [if_neg h8, if_neg (by omega), if_neg (by omega), if_neg (by omega), if_neg (by omega), if_neg (by omega), if_neg (by omega), if_neg (by omega), if_neg (by omega)]
      · omega
    | succ k ih =>
      intro t ht
      refine r_iload dX6_mixBlock_66 rfl ?_
      refine r_aload_n dX6_mixBlock_68 rfl ?_
      refine r_getf dX6_mixBlock_69 fX6_13 (by repeat first | exact wu_eq | assumption | (apply wu_ne; first | omega | assumption | (apply Ne.symm; assumption))) (by rfl) ?_
      refine r_alen' dX6_mixBlock_72 (by repeat first | exact wu_eq | assumption | (apply wu_ne; first | omega | assumption | (apply Ne.symm; assumption))) (by rfl) ?_
      first | refine r_icmp_geN (tgt := 225) dX6_mixBlock_73 (by decide) (by omega) (by omega) (fun h73 => ?_) (fun h73 => ?_) | refine r_icmp_ge (tgt := 225) dX6_mixBlock_73 (by decide) (fun h73 => ?_) (fun h73 => ?_)
      · omega
      · refine r_iload dX6_mixBlock_76 rfl ?_
        refine r_gets dX6_mixBlock_78 (by decide) sX6_35 ?_
        refine r_alen' dX6_mixBlock_81 (by repeat first | exact wu_eq | assumption | (apply wu_ne; first | omega | assumption | (apply Ne.symm; assumption))) (by rfl) ?_
        first | refine r_icmp_geN (tgt := 225) dX6_mixBlock_82 (by decide) (by omega) (by omega) (fun h82 => ?_) (fun h82 => ?_) | refine r_icmp_ge (tgt := 225) dX6_mixBlock_82 (by decide) (fun h82 => ?_) (fun h82 => ?_)
        · omega
        · refine r_iload dX6_mixBlock_85 rfl ?_
          refine r_bipush (v := nI 6) dX6_mixBlock_87 (by decide) ?_
          refine r_invS dX6_mixBlock_89 kX6_29 (c_rotr _ _) rfl rfl ⟨by decide, by decide⟩ (Nat.le_of_ble_eq_true rfl) ⟨by decide, by decide⟩ ⟨rfl, rfl⟩ ?_
          rintro _ _ _ ⟨rfl, rfl, rfl⟩
          refine r_iload dX6_mixBlock_92 rfl ?_
          refine r_bipush (v := nI 11) dX6_mixBlock_94 (by decide) ?_
          refine r_invS dX6_mixBlock_96 kX6_29 (c_rotr _ _) rfl rfl ⟨by decide, by decide⟩ (Nat.le_of_ble_eq_true rfl) ⟨by decide, by decide⟩ ⟨rfl, rfl⟩ ?_
          rintro _ _ _ ⟨rfl, rfl, rfl⟩
          refine r_ixor dX6_mixBlock_99 ?_
          refine r_iload dX6_mixBlock_100 rfl ?_
          refine r_bipush (v := nI 25) dX6_mixBlock_102 (by decide) ?_
          refine r_invS dX6_mixBlock_104 kX6_29 (c_rotr _ _) rfl rfl ⟨by decide, by decide⟩ (Nat.le_of_ble_eq_true rfl) ⟨by decide, by decide⟩ ⟨rfl, rfl⟩ ?_
          rintro _ _ _ ⟨rfl, rfl, rfl⟩
          refine r_ixor dX6_mixBlock_107 ?_
          refine r_istore (i := 10) (L0 := [(9, _), (8, _), (7, _), (6, _), (5, _), (4, _), (3, _), (2, _), (1, _), (0, _)]) dX6_mixBlock_108 (by decide) rfl ?_
          refine r_iload_n dX6_mixBlock_110 rfl ?_
          refine r_iconst (v := nI 2) dX6_mixBlock_111 (by decide) ?_
          refine r_invS dX6_mixBlock_112 kX6_29 (c_rotr _ _) rfl rfl ⟨by decide, by decide⟩ (Nat.le_of_ble_eq_true rfl) ⟨by decide, by decide⟩ ⟨rfl, rfl⟩ ?_
          rintro _ _ _ ⟨rfl, rfl, rfl⟩
          refine r_iload_n dX6_mixBlock_115 rfl ?_
          refine r_bipush (v := nI 13) dX6_mixBlock_116 (by decide) ?_
          refine r_invS dX6_mixBlock_118 kX6_29 (c_rotr _ _) rfl rfl ⟨by decide, by decide⟩ (Nat.le_of_ble_eq_true rfl) ⟨by decide, by decide⟩ ⟨rfl, rfl⟩ ?_
          rintro _ _ _ ⟨rfl, rfl, rfl⟩
          refine r_ixor dX6_mixBlock_121 ?_
          refine r_iload_n dX6_mixBlock_122 rfl ?_
          refine r_bipush (v := nI 22) dX6_mixBlock_123 (by decide) ?_
          refine r_invS dX6_mixBlock_125 kX6_29 (c_rotr _ _) rfl rfl ⟨by decide, by decide⟩ (Nat.le_of_ble_eq_true rfl) ⟨by decide, by decide⟩ ⟨rfl, rfl⟩ ?_
          rintro _ _ _ ⟨rfl, rfl, rfl⟩
          refine r_ixor dX6_mixBlock_128 ?_
          refine r_istore (i := 11) (L0 := [(10, _), (9, _), (8, _), (7, _), (6, _), (5, _), (4, _), (3, _), (2, _), (1, _), (0, _)]) dX6_mixBlock_129 (by decide) rfl ?_
          refine r_iload dX6_mixBlock_131 rfl ?_
          refine r_iload dX6_mixBlock_133 rfl ?_
          refine r_iand dX6_mixBlock_135 ?_
          refine r_iload dX6_mixBlock_136 rfl ?_
          refine r_iconst (v := (-1)) dX6_mixBlock_138 (by decide) ?_
          refine r_ixor dX6_mixBlock_139 ?_
          refine r_iload dX6_mixBlock_140 rfl ?_
          refine r_iand dX6_mixBlock_142 ?_
          refine r_ixor dX6_mixBlock_143 ?_
          refine r_istore (i := 12) (L0 := [(11, _), (10, _), (9, _), (8, _), (7, _), (6, _), (5, _), (4, _), (3, _), (2, _), (1, _), (0, _)]) dX6_mixBlock_144 (by decide) rfl ?_
          refine r_iload_n dX6_mixBlock_146 rfl ?_
          refine r_iload_n dX6_mixBlock_147 rfl ?_
          refine r_iand dX6_mixBlock_148 ?_
          refine r_iload_n dX6_mixBlock_149 rfl ?_
          refine r_iload_n dX6_mixBlock_150 rfl ?_
          refine r_iand dX6_mixBlock_151 ?_
          refine r_ixor dX6_mixBlock_152 ?_
          refine r_iload_n dX6_mixBlock_153 rfl ?_
          refine r_iload_n dX6_mixBlock_154 rfl ?_
          refine r_iand dX6_mixBlock_155 ?_
          refine r_ixor dX6_mixBlock_156 ?_
          refine r_istore (i := 13) (L0 := [(12, _), (11, _), (10, _), (9, _), (8, _), (7, _), (6, _), (5, _), (4, _), (3, _), (2, _), (1, _), (0, _)]) dX6_mixBlock_157 (by decide) rfl ?_
          refine r_iload dX6_mixBlock_159 rfl ?_
          refine r_iload dX6_mixBlock_161 rfl ?_
          refine r_iadd dX6_mixBlock_163 ?_
          refine r_iload dX6_mixBlock_164 rfl ?_
          refine r_iadd dX6_mixBlock_166 ?_
          refine r_gets dX6_mixBlock_167 (by decide) sX6_35 ?_
          refine r_iload dX6_mixBlock_170 rfl ?_
          refine r_iaload' dX6_mixBlock_172 (by repeat first | exact wu_eq | assumption | (apply wu_ne; first | omega | assumption | (apply Ne.symm; assumption))) (by rfl) _ rfl (by omega) (by omega) ?_
          refine r_iadd dX6_mixBlock_173 ?_
          refine r_aload_n dX6_mixBlock_174 rfl ?_
          refine r_getf dX6_mixBlock_175 fX6_13 (by repeat first | exact wu_eq | assumption | (apply wu_ne; first | omega | assumption | (apply Ne.symm; assumption))) (by rfl) ?_
          refine r_iload dX6_mixBlock_178 rfl ?_
          refine r_iaload' dX6_mixBlock_180 (by repeat first | exact wu_eq | assumption | (apply wu_ne; first | omega | assumption | (apply Ne.symm; assumption))) (by rfl) _ rfl (by omega) (by omega) ?_
          refine r_iadd dX6_mixBlock_181 ?_
          refine r_istore (i := 14) (L0 := [(13, _), (12, _), (11, _), (10, _), (9, _), (8, _), (7, _), (6, _), (5, _), (4, _), (3, _), (2, _), (1, _), (0, _)]) dX6_mixBlock_182 (by decide) rfl ?_
          refine r_iload dX6_mixBlock_184 rfl ?_
          refine r_istore (i := 8) (L0 := [(14, _), (13, _), (12, _), (11, _), (10, _), (9, _), (7, _), (6, _), (5, _), (4, _), (3, _), (2, _), (1, _), (0, _)]) dX6_mixBlock_186 (by decide) rfl ?_
          refine r_iload dX6_mixBlock_188 rfl ?_
          refine r_istore (i := 7) (L0 := [(8, _), (14, _), (13, _), (12, _), (11, _), (10, _), (9, _), (6, _), (5, _), (4, _), (3, _), (2, _), (1, _), (0, _)]) dX6_mixBlock_190 (by decide) rfl ?_
          refine r_iload dX6_mixBlock_192 rfl ?_
          refine r_istore (i := 6) (L0 := [(7, _), (8, _), (14, _), (13, _), (12, _), (11, _), (10, _), (9, _), (5, _), (4, _), (3, _), (2, _), (1, _), (0, _)]) dX6_mixBlock_194 (by decide) rfl ?_
          refine r_iload dX6_mixBlock_196 rfl ?_
          refine r_iload dX6_mixBlock_198 rfl ?_
          refine r_iadd dX6_mixBlock_200 ?_
          refine r_istore (i := 5) (L0 := [(6, _), (7, _), (8, _), (14, _), (13, _), (12, _), (11, _), (10, _), (9, _), (4, _), (3, _), (2, _), (1, _), (0, _)]) dX6_mixBlock_201 (by decide) rfl ?_
          refine r_iload_n dX6_mixBlock_203 rfl ?_
          refine r_istore (i := 4) (L0 := [(5, _), (6, _), (7, _), (8, _), (14, _), (13, _), (12, _), (11, _), (10, _), (9, _), (3, _), (2, _), (1, _), (0, _)]) dX6_mixBlock_204 (by decide) rfl ?_
          refine r_iload_n dX6_mixBlock_206 rfl ?_
          refine r_istore_n (i := 3) (L0 := [(4, _), (5, _), (6, _), (7, _), (8, _), (14, _), (13, _), (12, _), (11, _), (10, _), (9, _), (2, _), (1, _), (0, _)]) dX6_mixBlock_207 rfl (by decide) rfl ?_
          refine r_iload_n dX6_mixBlock_208 rfl ?_
          refine r_istore_n (i := 2) (L0 := [(3, _), (4, _), (5, _), (6, _), (7, _), (8, _), (14, _), (13, _), (12, _), (11, _), (10, _), (9, _), (1, _), (0, _)]) dX6_mixBlock_209 rfl (by decide) rfl ?_
          refine r_iload dX6_mixBlock_210 rfl ?_
          refine r_iload dX6_mixBlock_212 rfl ?_
          refine r_iadd dX6_mixBlock_214 ?_
          refine r_iload dX6_mixBlock_215 rfl ?_
          refine r_iadd dX6_mixBlock_217 ?_
          refine r_istore_n (i := 1) (L0 := [(2, _), (3, _), (4, _), (5, _), (6, _), (7, _), (8, _), (14, _), (13, _), (12, _), (11, _), (10, _), (9, _), (0, _)]) dX6_mixBlock_218 rfl (by decide) rfl ?_
          refine r_iinc (L0 := [(1, _), (2, _), (3, _), (4, _), (5, _), (6, _), (7, _), (8, _), (14, _), (13, _), (12, _), (11, _), (10, _), (0, _)]) dX6_mixBlock_219 rfl (by first | exact iinc1 _ | rfl) (by decide) rfl ?_
          refine r_goto (tgt := 66) dX6_mixBlock_222 (by decide) ?_
          refine r_sub [0, 8, 7, 6, 5, 4, 3, 2, 1, 14] rfl ?_
          exact ih (t + 1) (by omega)
  refine ab_Ct.of (by decide +kernel) (Nat.le_of_ble_eq_true rfl) (by rintro _ _ _ ⟨rfl, rfl, rfl⟩; trivial) ?_
  show ab_St MX6_mixBlock g 0 0 0 [(0, .ref s)] [] _ _ _
  refine r_aload_n dX6_mixBlock_0 rfl ?_
  refine r_getf dX6_mixBlock_1 fX6_7 (by repeat first | exact wu_eq | assumption | (apply wu_ne; first | omega | assumption | (apply Ne.symm; assumption))) (by rfl) ?_
  refine r_iconst (v := nI 0) dX6_mixBlock_4 (by decide) ?_
  refine r_iaload' dX6_mixBlock_5 (by repeat first | exact wu_eq | assumption | (apply wu_ne; first | omega | assumption | (apply Ne.symm; assumption))) (by rfl) _ rfl (by omega) (by omega) ?_
  refine r_istore_n (i := 1) (L0 := [(0, _)]) dX6_mixBlock_6 rfl (by decide) rfl ?_
  refine r_aload_n dX6_mixBlock_7 rfl ?_
  refine r_getf dX6_mixBlock_8 fX6_7 (by repeat first | exact wu_eq | assumption | (apply wu_ne; first | omega | assumption | (apply Ne.symm; assumption))) (by rfl) ?_
  refine r_iconst (v := nI 1) dX6_mixBlock_11 (by decide) ?_
  refine r_iaload' dX6_mixBlock_12 (by repeat first | exact wu_eq | assumption | (apply wu_ne; first | omega | assumption | (apply Ne.symm; assumption))) (by rfl) _ rfl (by omega) (by omega) ?_
  refine r_istore_n (i := 2) (L0 := [(1, _), (0, _)]) dX6_mixBlock_13 rfl (by decide) rfl ?_
  refine r_aload_n dX6_mixBlock_14 rfl ?_
  refine r_getf dX6_mixBlock_15 fX6_7 (by repeat first | exact wu_eq | assumption | (apply wu_ne; first | omega | assumption | (apply Ne.symm; assumption))) (by rfl) ?_
  refine r_iconst (v := nI 2) dX6_mixBlock_18 (by decide) ?_
  refine r_iaload' dX6_mixBlock_19 (by repeat first | exact wu_eq | assumption | (apply wu_ne; first | omega | assumption | (apply Ne.symm; assumption))) (by rfl) _ rfl (by omega) (by omega) ?_
  refine r_istore_n (i := 3) (L0 := [(2, _), (1, _), (0, _)]) dX6_mixBlock_20 rfl (by decide) rfl ?_
  refine r_aload_n dX6_mixBlock_21 rfl ?_
  refine r_getf dX6_mixBlock_22 fX6_7 (by repeat first | exact wu_eq | assumption | (apply wu_ne; first | omega | assumption | (apply Ne.symm; assumption))) (by rfl) ?_
  refine r_iconst (v := nI 3) dX6_mixBlock_25 (by decide) ?_
  refine r_iaload' dX6_mixBlock_26 (by repeat first | exact wu_eq | assumption | (apply wu_ne; first | omega | assumption | (apply Ne.symm; assumption))) (by rfl) _ rfl (by omega) (by omega) ?_
  refine r_istore (i := 4) (L0 := [(3, _), (2, _), (1, _), (0, _)]) dX6_mixBlock_27 (by decide) rfl ?_
  refine r_aload_n dX6_mixBlock_29 rfl ?_
  refine r_getf dX6_mixBlock_30 fX6_7 (by repeat first | exact wu_eq | assumption | (apply wu_ne; first | omega | assumption | (apply Ne.symm; assumption))) (by rfl) ?_
  refine r_iconst (v := nI 4) dX6_mixBlock_33 (by decide) ?_
  refine r_iaload' dX6_mixBlock_34 (by repeat first | exact wu_eq | assumption | (apply wu_ne; first | omega | assumption | (apply Ne.symm; assumption))) (by rfl) _ rfl (by omega) (by omega) ?_
  refine r_istore (i := 5) (L0 := [(4, _), (3, _), (2, _), (1, _), (0, _)]) dX6_mixBlock_35 (by decide) rfl ?_
  refine r_aload_n dX6_mixBlock_37 rfl ?_
  refine r_getf dX6_mixBlock_38 fX6_7 (by repeat first | exact wu_eq | assumption | (apply wu_ne; first | omega | assumption | (apply Ne.symm; assumption))) (by rfl) ?_
  refine r_iconst (v := nI 5) dX6_mixBlock_41 (by decide) ?_
  refine r_iaload' dX6_mixBlock_42 (by repeat first | exact wu_eq | assumption | (apply wu_ne; first | omega | assumption | (apply Ne.symm; assumption))) (by rfl) _ rfl (by omega) (by omega) ?_
  refine r_istore (i := 6) (L0 := [(5, _), (4, _), (3, _), (2, _), (1, _), (0, _)]) dX6_mixBlock_43 (by decide) rfl ?_
  refine r_aload_n dX6_mixBlock_45 rfl ?_
  refine r_getf dX6_mixBlock_46 fX6_7 (by repeat first | exact wu_eq | assumption | (apply wu_ne; first | omega | assumption | (apply Ne.symm; assumption))) (by rfl) ?_
  refine r_bipush (v := nI 6) dX6_mixBlock_49 (by decide) ?_
  refine r_iaload' dX6_mixBlock_51 (by repeat first | exact wu_eq | assumption | (apply wu_ne; first | omega | assumption | (apply Ne.symm; assumption))) (by rfl) _ rfl (by omega) (by omega) ?_
  refine r_istore (i := 7) (L0 := [(6, _), (5, _), (4, _), (3, _), (2, _), (1, _), (0, _)]) dX6_mixBlock_52 (by decide) rfl ?_
  refine r_aload_n dX6_mixBlock_54 rfl ?_
  refine r_getf dX6_mixBlock_55 fX6_7 (by repeat first | exact wu_eq | assumption | (apply wu_ne; first | omega | assumption | (apply Ne.symm; assumption))) (by rfl) ?_
  refine r_bipush (v := nI 7) dX6_mixBlock_58 (by decide) ?_
  refine r_iaload' dX6_mixBlock_60 (by repeat first | exact wu_eq | assumption | (apply wu_ne; first | omega | assumption | (apply Ne.symm; assumption))) (by rfl) _ rfl (by omega) (by omega) ?_
  refine r_istore (i := 8) (L0 := [(7, _), (6, _), (5, _), (4, _), (3, _), (2, _), (1, _), (0, _)]) dX6_mixBlock_61 (by decide) rfl ?_
  refine r_iconst (v := nI 0) dX6_mixBlock_63 (by decide) ?_
  refine r_istore (i := 9) (L0 := [(8, _), (7, _), (6, _), (5, _), (4, _), (3, _), (2, _), (1, _), (0, _)]) dX6_mixBlock_64 (by decide) rfl ?_
  exact K 64 0 (by omega)
set_option maxRecDepth 100000 in
set_option maxHeartbeats 4000000 in
theorem c_paddedWord {g : ab_G} {N b m n T p : Nat} {d : Nat → Nat} {w : ab_W} (hb : w b = aB m (byt d)) (hd : ∀ i, d i < 256) (hm : m ≤ 1000) (hnm : n ≤ m) (hnT : n + 9 ≤ T) (hT : T ≤ 2000) (hp : p + 4 ≤ T) (hp4 : p + 4 = T ∨ p + 8 ≤ T) : ab_Ct MX6_paddedWord g [.ref b, .int (nI n), .int (nI p), .int (nI T)] N w (rp (some (.int (nI (pw d n T p 4)))) N w) := by
  have K : ∀ k j, j + k = 4 → p + 8 ≤ T → ab_St MX6_paddedWord g 0 0 18 [(5, .int (nI (p + j))), (4, .int (nI (pw d n T p j))), (0, .ref b), (1, .int (nI n)), (2, .int (nI p)), (3, .int (nI T))] [] N w (rp (some (.int (nI (pw d n T p 4)))) N w) := by
    intro k
    induction k with
    | zero =>
      intro j hj h8
      obtain rfl : j = 4 := by omega
      refine r_iload dX6_paddedWord_18 rfl ?_
      refine r_iload_n dX6_paddedWord_20 rfl ?_
      refine r_iconst (v := nI 4) dX6_paddedWord_21 (by decide) ?_
      first | refine r_iaddN dX6_paddedWord_22 ?_ | refine r_iadd dX6_paddedWord_22 ?_
      first | refine r_icmp_geN (tgt := 85) dX6_paddedWord_23 (by decide) (by omega) (by omega) (fun h23 => ?_) (fun h23 => ?_) | refine r_icmp_ge (tgt := 85) dX6_paddedWord_23 (by decide) (fun h23 => ?_) (fun h23 => ?_)
      · refine r_iload dX6_paddedWord_85 rfl ?_
        refine r_ret (r := (some (.int _))) dX6_paddedWord_87 (by decide) (by decide) ?_
        exact ⟨rfl, rfl, rfl⟩
      · omega
    | succ k ih =>
      intro j hj h8
      have hl := pw_lt hd n T p j
      have hl3 : pw d n T p j < 256 ^ 3 := Nat.lt_of_lt_of_le hl (Nat.pow_le_pow_right (by decide) (by omega))
      have e3 : (256 : Nat) ^ 3 = 16777216 := by decide
      rw [e3] at hl3
      have hc := pbt_lt hd n T (p + j)
      have K69 : ∀ x, x = pbt d n T (p + j) → ab_St MX6_paddedWord g 0 0 69 [(6, .int (nI x)), (5, .int (nI (p + j))), (4, .int (nI (pw d n T p j))), (0, .ref b), (1, .int (nI n)), (2, .int (nI p)), (3, .int (nI T))] [] N w (rp (some (.int (nI (pw d n T p 4)))) N w) := by
        intro x hx
        rw [← hx] at hc
        refine r_iload dX6_paddedWord_69 rfl ?_
        refine r_bipush (v := nI 8) dX6_paddedWord_71 (by decide) ?_
        first | refine r_ishlN 8 (by decide) dX6_paddedWord_73 (by omega) ?_ | refine r_ishl dX6_paddedWord_73 ?_
        refine r_iload dX6_paddedWord_74 rfl ?_
        refine r_ior dX6_paddedWord_76 ?_
        rw [nI_or_sum (q := 8) (by omega)]
        refine r_istore (i := 4) (L0 := [(6, _), (5, _), (0, _), (1, _), (2, _), (3, _)]) dX6_paddedWord_77 (by decide) rfl ?_
        refine r_iinc (L0 := [(4, _), (6, _), (0, _), (1, _), (2, _), (3, _)]) dX6_paddedWord_79 rfl (by first | exact iinc1 _ | rfl) (by decide) rfl ?_
        refine r_goto (tgt := 18) dX6_paddedWord_82 (by decide) ?_
        refine r_sub [0, 1, 3, 4, 5, 6] rfl ?_
        have h := ih (j + 1) (by omega) h8
        rw [show pw d n T p (j + 1) = pw d n T p j * 2 ^ 8 + x by rw [hx]; rfl] at h
        exact h
      refine r_iload dX6_paddedWord_18 rfl ?_
      refine r_iload_n dX6_paddedWord_20 rfl ?_
      refine r_iconst (v := nI 4) dX6_paddedWord_21 (by decide) ?_
      first | refine r_iaddN dX6_paddedWord_22 ?_ | refine r_iadd dX6_paddedWord_22 ?_
      first | refine r_icmp_geN (tgt := 85) dX6_paddedWord_23 (by decide) (by omega) (by omega) (fun h23 => ?_) (fun h23 => ?_) | refine r_icmp_ge (tgt := 85) dX6_paddedWord_23 (by decide) (fun h23 => ?_) (fun h23 => ?_)
      · omega
      · refine r_iload dX6_paddedWord_26 rfl ?_
        refine r_iload_n dX6_paddedWord_28 rfl ?_
        first | refine r_icmp_neN (tgt := 38) dX6_paddedWord_29 (by decide) (by omega) (by omega) (fun h29 => ?_) (fun h29 => ?_) | refine r_icmp_ne (tgt := 38) dX6_paddedWord_29 (by decide) (fun h29 => ?_) (fun h29 => ?_)
        · refine r_iconst (v := nI 0) dX6_paddedWord_38 (by decide) ?_
          refine r_istore (i := 6) (L0 := [(5, _), (4, _), (0, _), (1, _), (2, _), (3, _)]) dX6_paddedWord_39 (by decide) rfl ?_
          refine r_iload dX6_paddedWord_41 rfl ?_
          first | refine r_if_ltN (tgt := 69) dX6_paddedWord_43 (by decide) (by omega) (fun h43 => ?_) | refine r_if_lt (tgt := 69) dX6_paddedWord_43 (by decide) (fun h43 => ?_) (fun h43 => ?_)
          · refine r_iload dX6_paddedWord_46 rfl ?_
            refine r_iload_n dX6_paddedWord_48 rfl ?_
            first | refine r_icmp_geN (tgt := 69) dX6_paddedWord_49 (by decide) (by omega) (by omega) (fun h49 => ?_) (fun h49 => ?_) | refine r_icmp_ge (tgt := 69) dX6_paddedWord_49 (by decide) (fun h49 => ?_) (fun h49 => ?_)
            · exact K69 _ (by unfold pbt; rw [if_neg (by omega), if_neg h29, if_pos (by omega)])
            · refine r_iload dX6_paddedWord_52 rfl ?_
              refine r_aload_n dX6_paddedWord_54 rfl ?_
              refine r_alen' dX6_paddedWord_55 (by repeat first | exact wu_eq | assumption | (apply wu_ne; first | omega | assumption | (apply Ne.symm; assumption))) (by rfl) ?_
              first | refine r_icmp_geN (tgt := 69) dX6_paddedWord_56 (by decide) (by omega) (by omega) (fun h56 => ?_) (fun h56 => ?_) | refine r_icmp_ge (tgt := 69) dX6_paddedWord_56 (by decide) (fun h56 => ?_) (fun h56 => ?_)
              · omega
              · refine r_aload_n dX6_paddedWord_59 rfl ?_
                refine r_iload dX6_paddedWord_60 rfl ?_
                refine r_baload dX6_paddedWord_62 (by repeat first | exact wu_eq | assumption | (apply wu_ne; first | omega | assumption | (apply Ne.symm; assumption))) _ rfl (by omega) (by omega) ?_
                refine r_sipush (v := nI 255) dX6_paddedWord_63 (by decide) ?_
                rw [show byt d (p + j) = (nI (d (p + j))).toInt8.toInt32 from rfl]
                refine r_iand dX6_paddedWord_66 ?_
                rw [show (nI 255 : Int32) = 255 by decide, sc_k8 _ (hd _)]
                refine r_istore (i := 6) (L0 := [(5, _), (4, _), (0, _), (1, _), (2, _), (3, _)]) dX6_paddedWord_67 (by decide) rfl ?_
                exact K69 _ (by unfold pbt; rw [if_pos (by omega)])
        · refine r_sipush (v := nI 128) dX6_paddedWord_32 (by decide) ?_
          refine r_goto (tgt := 39) dX6_paddedWord_35 (by decide) ?_
          refine r_istore (i := 6) (L0 := [(5, _), (4, _), (0, _), (1, _), (2, _), (3, _)]) dX6_paddedWord_39 (by decide) rfl ?_
          refine r_iload dX6_paddedWord_41 rfl ?_
          first | refine r_if_ltN (tgt := 69) dX6_paddedWord_43 (by decide) (by omega) (fun h43 => ?_) | refine r_if_lt (tgt := 69) dX6_paddedWord_43 (by decide) (fun h43 => ?_) (fun h43 => ?_)
          · refine r_iload dX6_paddedWord_46 rfl ?_
            refine r_iload_n dX6_paddedWord_48 rfl ?_
            first | refine r_icmp_geN (tgt := 69) dX6_paddedWord_49 (by decide) (by omega) (by omega) (fun h49 => ?_) (fun h49 => ?_) | refine r_icmp_ge (tgt := 69) dX6_paddedWord_49 (by decide) (fun h49 => ?_) (fun h49 => ?_)
            · exact K69 _ (by unfold pbt; rw [if_neg (by omega), if_pos h29])
            · omega
  refine ab_Ct.of (by decide +kernel) (Nat.le_of_ble_eq_true rfl) (by rintro _ _ _ ⟨rfl, rfl, rfl⟩; trivial) ?_
  show ab_St MX6_paddedWord g 0 0 0 [(0, .ref b), (1, .int (nI n)), (2, .int (nI p)), (3, .int (nI T))] [] _ _ _
  refine r_iload_n dX6_paddedWord_0 rfl ?_
  refine r_iload_n dX6_paddedWord_1 rfl ?_
  refine r_iconst (v := nI 4) dX6_paddedWord_2 (by decide) ?_
  first | refine r_isubN dX6_paddedWord_3 (by omega) ?_ | refine r_isub dX6_paddedWord_3 ?_
  first | refine r_icmp_neN (tgt := 12) dX6_paddedWord_4 (by decide) (by omega) (by omega) (fun h4 => ?_) (fun h4 => ?_) | refine r_icmp_ne (tgt := 12) dX6_paddedWord_4 (by decide) (fun h4 => ?_) (fun h4 => ?_)
  · refine r_iconst (v := nI 0) dX6_paddedWord_12 (by decide) ?_
    refine r_istore (i := 4) (L0 := [(0, _), (1, _), (2, _), (3, _)]) dX6_paddedWord_13 (by decide) rfl ?_
    refine r_iload_n dX6_paddedWord_15 rfl ?_
    refine r_istore (i := 5) (L0 := [(4, _), (0, _), (1, _), (2, _), (3, _)]) dX6_paddedWord_16 (by decide) rfl ?_
    have h := K 4 0 (by omega) (by omega)
    exact h
  · refine r_bipush (v := nI 8) dX6_paddedWord_7 (by decide) ?_
    refine r_iload_n dX6_paddedWord_9 rfl ?_
    first | refine r_imulN dX6_paddedWord_10 ?_ | refine r_imul dX6_paddedWord_10 ?_
    refine r_ret (r := (some (.int _))) dX6_paddedWord_11 (by decide) (by decide) ?_
    refine ⟨?_, rfl, rfl⟩
    rw [show p = T - 4 by omega, pw_len hnT (by omega)]
