/-! SignHouseLaw: the law -/
theorem LI.e7 {w : ab_W} (h : LI w) : ∃ fs, w 7 = aO 6 fs := by
  obtain ⟨half, rounds, c, ω, bg, σ, d, len, R, sg, vf, H, M, I, hb⟩ := h
  exact ⟨_, H.1⟩
set_option maxRecDepth 100000 in
set_option maxHeartbeats 4000000 in
theorem l_seed {g : ab_G} {L i : Nat} {xs : Nat → Int32} {w : ab_W} (h6 : gX g 6 = xI L xs) (hL : L ≤ 2050) (hi : i + 4 ≤ L) (h : LI w) (K : ∀ w2, LI w2 → ab_St ML_law g 77 3861 527 [(3, .int (nI i)), (2, .ref 74), (1, .ref 7), (0, .ref 6)] [] 84 w2 (fun r _ _ => r = some (.int (nI 1)))) : ab_St ML_law g 77 3861 132 [(3, .int (nI i)), (2, .ref 74), (1, .ref 7), (0, .ref 6)] [] 84 w (fun r _ _ => r = some (.int (nI 1))) := by
  refine r_low fun low => ?_
  have e6 := (low 6 (by decide)).trans h6
  obtain ⟨fs7, e7⟩ := h.e7
  refine r_aload_n dL_law_132 rfl ?_
  refine r_aload_n dL_law_133 rfl ?_
  refine r_iload_n dL_law_134 rfl ?_
  refine r_iconst (v := nI 1) dL_law_135 (by decide) ?_
  first | refine r_iaddN dL_law_136 ?_ | refine r_iadd dL_law_136 ?_
  refine r_iaload' dL_law_137 (by repeat first | exact wu_eq | assumption | (apply wu_ne; first | omega | assumption | (apply Ne.symm; assumption))) (by rfl) _ rfl (by omega) (by omega) ?_
  obtain ⟨v, Q0, c1, k1⟩ := p_seed (g := g) (x := xs (i + 1)) h
  refine r_invV dL_law_138 kL_21 (c1) rfl rfl (by repeat first | exact wu_eq | assumption | (apply wu_ne; first | omega | assumption | (apply Ne.symm; assumption))) rfl rfl ⟨by decide, by decide⟩ (Nat.le_of_ble_eq_true rfl) ⟨by decide, by decide⟩ ⟨rfl, rfl⟩ ?_
  rintro _ _ w1 q1
  obtain ⟨rfl, rfl, ⟨fs74, e74⟩, Q1, c2, k2⟩ := k1 _ _ _ q1
  refine r_low fun low1 => ?_
  have f6 := (low1 6 (by decide)).trans h6
  refine r_aload_n dL_law_141 rfl ?_
  refine r_aload_n dL_law_142 rfl ?_
  refine r_iload_n dL_law_143 rfl ?_
  refine r_iconst (v := nI 1) dL_law_144 (by decide) ?_
  first | refine r_iaddN dL_law_145 ?_ | refine r_iadd dL_law_145 ?_
  refine r_iaload' dL_law_146 (by repeat first | exact wu_eq | assumption | (apply wu_ne; first | omega | assumption | (apply Ne.symm; assumption))) (by rfl) _ rfl (by omega) (by omega) ?_
  refine r_invV dL_law_147 kL_25 (c2) rfl rfl (by repeat first | exact wu_eq | assumption | (apply wu_ne; first | omega | assumption | (apply Ne.symm; assumption))) rfl rfl ⟨by decide, by decide⟩ (Nat.le_of_ble_eq_true rfl) ⟨by decide, by decide⟩ ⟨rfl, rfl⟩ ?_
  rintro _ _ w2 q2
  obtain ⟨rfl, rfl, hL2⟩ := k2 _ _ _ q2
  refine r_icmp_eq (tgt := 527) dL_law_150 (by decide) (fun _ => ?_) (fun q => absurd rfl q)
  exact K w2 hL2
set_option maxRecDepth 100000 in
set_option maxHeartbeats 4000000 in
theorem l_search {g : ab_G} {L i : Nat} {xs : Nat → Int32} {w : ab_W} (h6 : gX g 6 = xI L xs) (hL : L ≤ 2050) (hi : i + 4 ≤ L) (h : LI w) (K : ∀ w2, LI w2 → ab_St ML_law g 77 3861 527 [(3, .int (nI i)), (2, .ref 74), (1, .ref 7), (0, .ref 6)] [] 84 w2 (fun r _ _ => r = some (.int (nI 1)))) : ab_St ML_law g 77 3861 155 [(3, .int (nI i)), (2, .ref 74), (1, .ref 7), (0, .ref 6)] [] 84 w (fun r _ _ => r = some (.int (nI 1))) := by
  refine r_low fun low => ?_
  have e6 := (low 6 (by decide)).trans h6
  obtain ⟨fs7, e7⟩ := h.e7
  refine r_aload_n dL_law_155 rfl ?_
  refine r_aload_n dL_law_156 rfl ?_
  refine r_iload_n dL_law_157 rfl ?_
  refine r_iconst (v := nI 1) dL_law_158 (by decide) ?_
  first | refine r_iaddN dL_law_159 ?_ | refine r_iadd dL_law_159 ?_
  refine r_iaload' dL_law_160 (by repeat first | exact wu_eq | assumption | (apply wu_ne; first | omega | assumption | (apply Ne.symm; assumption))) (by rfl) _ rfl (by omega) (by omega) ?_
  obtain ⟨v, Q0, c1, k1⟩ := p_search (g := g) (x := xs (i + 1)) h
  refine r_invV dL_law_161 kL_26 (c1) rfl rfl (by repeat first | exact wu_eq | assumption | (apply wu_ne; first | omega | assumption | (apply Ne.symm; assumption))) rfl rfl ⟨by decide, by decide⟩ (Nat.le_of_ble_eq_true rfl) ⟨by decide, by decide⟩ ⟨rfl, rfl⟩ ?_
  rintro _ _ w1 q1
  obtain ⟨rfl, rfl, ⟨fs74, e74⟩, Q1, c2, k2⟩ := k1 _ _ _ q1
  refine r_low fun low1 => ?_
  have f6 := (low1 6 (by decide)).trans h6
  refine r_aload_n dL_law_164 rfl ?_
  refine r_aload_n dL_law_165 rfl ?_
  refine r_iload_n dL_law_166 rfl ?_
  refine r_iconst (v := nI 1) dL_law_167 (by decide) ?_
  first | refine r_iaddN dL_law_168 ?_ | refine r_iadd dL_law_168 ?_
  refine r_iaload' dL_law_169 (by repeat first | exact wu_eq | assumption | (apply wu_ne; first | omega | assumption | (apply Ne.symm; assumption))) (by rfl) _ rfl (by omega) (by omega) ?_
  refine r_invV dL_law_170 kL_29 (c2) rfl rfl (by repeat first | exact wu_eq | assumption | (apply wu_ne; first | omega | assumption | (apply Ne.symm; assumption))) rfl rfl ⟨by decide, by decide⟩ (Nat.le_of_ble_eq_true rfl) ⟨by decide, by decide⟩ ⟨rfl, rfl⟩ ?_
  rintro _ _ w2 q2
  obtain ⟨rfl, rfl, hL2⟩ := k2 _ _ _ q2
  refine r_icmp_eq (tgt := 527) dL_law_173 (by decide) (fun _ => ?_) (fun q => absurd rfl q)
  exact K w2 hL2
set_option maxRecDepth 100000 in
set_option maxHeartbeats 4000000 in
theorem l_forget {g : ab_G} {L i : Nat} {xs : Nat → Int32} {w : ab_W} (h6 : gX g 6 = xI L xs) (hL : L ≤ 2050) (hi : i + 4 ≤ L) (h : LI w) (K : ∀ w2, LI w2 → ab_St ML_law g 77 3861 527 [(3, .int (nI i)), (2, .ref 74), (1, .ref 7), (0, .ref 6)] [] 84 w2 (fun r _ _ => r = some (.int (nI 1)))) : ab_St ML_law g 77 3861 178 [(3, .int (nI i)), (2, .ref 74), (1, .ref 7), (0, .ref 6)] [] 84 w (fun r _ _ => r = some (.int (nI 1))) := by
  refine r_low fun low => ?_
  have e6 := (low 6 (by decide)).trans h6
  obtain ⟨fs7, e7⟩ := h.e7
  refine r_aload_n dL_law_178 rfl ?_
  obtain ⟨v, Q0, c1, k1⟩ := p_forget (g := g)  h
  refine r_invV dL_law_179 kL_30 (c1) rfl rfl (by repeat first | exact wu_eq | assumption | (apply wu_ne; first | omega | assumption | (apply Ne.symm; assumption))) rfl rfl ⟨by decide, by decide⟩ (Nat.le_of_ble_eq_true rfl) ⟨by decide, by decide⟩ ⟨rfl, rfl⟩ ?_
  rintro _ _ w1 q1
  obtain ⟨rfl, rfl, ⟨fs74, e74⟩, Q1, c2, k2⟩ := k1 _ _ _ q1
  refine r_low fun low1 => ?_
  have f6 := (low1 6 (by decide)).trans h6
  refine r_aload_n dL_law_182 rfl ?_
  refine r_invV dL_law_183 kL_34 (c2) rfl rfl (by repeat first | exact wu_eq | assumption | (apply wu_ne; first | omega | assumption | (apply Ne.symm; assumption))) rfl rfl ⟨by decide, by decide⟩ (Nat.le_of_ble_eq_true rfl) ⟨by decide, by decide⟩ ⟨rfl, rfl⟩ ?_
  rintro _ _ w2 q2
  obtain ⟨rfl, rfl, hL2⟩ := k2 _ _ _ q2
  refine r_icmp_eq (tgt := 527) dL_law_186 (by decide) (fun _ => ?_) (fun q => absurd rfl q)
  exact K w2 hL2
set_option maxRecDepth 100000 in
set_option maxHeartbeats 4000000 in
theorem l_key {g : ab_G} {L i : Nat} {xs : Nat → Int32} {w : ab_W} (h6 : gX g 6 = xI L xs) (hL : L ≤ 2050) (hi : i + 4 ≤ L) (h : LI w) (K : ∀ w2, LI w2 → ab_St ML_law g 77 3861 527 [(3, .int (nI i)), (2, .ref 74), (1, .ref 7), (0, .ref 6)] [] 84 w2 (fun r _ _ => r = some (.int (nI 1)))) : ab_St ML_law g 77 3861 191 [(3, .int (nI i)), (2, .ref 74), (1, .ref 7), (0, .ref 6)] [] 84 w (fun r _ _ => r = some (.int (nI 1))) := by
  refine r_low fun low => ?_
  have e6 := (low 6 (by decide)).trans h6
  obtain ⟨fs7, e7⟩ := h.e7
  refine r_aload_n dL_law_191 rfl ?_
  refine r_aload_n dL_law_192 rfl ?_
  refine r_iload_n dL_law_193 rfl ?_
  refine r_iconst (v := nI 1) dL_law_194 (by decide) ?_
  first | refine r_iaddN dL_law_195 ?_ | refine r_iadd dL_law_195 ?_
  refine r_iaload' dL_law_196 (by repeat first | exact wu_eq | assumption | (apply wu_ne; first | omega | assumption | (apply Ne.symm; assumption))) (by rfl) _ rfl (by omega) (by omega) ?_
  refine r_aload_n dL_law_197 rfl ?_
  refine r_iload_n dL_law_198 rfl ?_
  refine r_iconst (v := nI 2) dL_law_199 (by decide) ?_
  first | refine r_iaddN dL_law_200 ?_ | refine r_iadd dL_law_200 ?_
  refine r_iaload' dL_law_201 (by repeat first | exact wu_eq | assumption | (apply wu_ne; first | omega | assumption | (apply Ne.symm; assumption))) (by rfl) _ rfl (by omega) (by omega) ?_
  obtain ⟨v, Q0, c1, k1⟩ := p_key (g := g) (x := xs (i + 1)) (y := xs (i + 2)) h
  refine r_invV dL_law_202 kL_35 (c1) rfl rfl (by repeat first | exact wu_eq | assumption | (apply wu_ne; first | omega | assumption | (apply Ne.symm; assumption))) rfl rfl ⟨by decide, by decide⟩ (Nat.le_of_ble_eq_true rfl) ⟨by decide, by decide⟩ ⟨rfl, rfl⟩ ?_
  rintro _ _ w1 q1
  obtain ⟨rfl, rfl, ⟨fs74, e74⟩, Q1, c2, k2⟩ := k1 _ _ _ q1
  refine r_low fun low1 => ?_
  have f6 := (low1 6 (by decide)).trans h6
  refine r_aload_n dL_law_205 rfl ?_
  refine r_aload_n dL_law_206 rfl ?_
  refine r_iload_n dL_law_207 rfl ?_
  refine r_iconst (v := nI 1) dL_law_208 (by decide) ?_
  first | refine r_iaddN dL_law_209 ?_ | refine r_iadd dL_law_209 ?_
  refine r_iaload' dL_law_210 (by repeat first | exact wu_eq | assumption | (apply wu_ne; first | omega | assumption | (apply Ne.symm; assumption))) (by rfl) _ rfl (by omega) (by omega) ?_
  refine r_aload_n dL_law_211 rfl ?_
  refine r_iload_n dL_law_212 rfl ?_
  refine r_iconst (v := nI 2) dL_law_213 (by decide) ?_
  first | refine r_iaddN dL_law_214 ?_ | refine r_iadd dL_law_214 ?_
  refine r_iaload' dL_law_215 (by repeat first | exact wu_eq | assumption | (apply wu_ne; first | omega | assumption | (apply Ne.symm; assumption))) (by rfl) _ rfl (by omega) (by omega) ?_
  refine r_invV dL_law_216 kL_39 (c2) rfl rfl (by repeat first | exact wu_eq | assumption | (apply wu_ne; first | omega | assumption | (apply Ne.symm; assumption))) rfl rfl ⟨by decide, by decide⟩ (Nat.le_of_ble_eq_true rfl) ⟨by decide, by decide⟩ ⟨rfl, rfl⟩ ?_
  rintro _ _ w2 q2
  obtain ⟨rfl, rfl, hL2⟩ := k2 _ _ _ q2
  refine r_icmp_eq (tgt := 527) dL_law_219 (by decide) (fun _ => ?_) (fun q => absurd rfl q)
  exact K w2 hL2
set_option maxRecDepth 100000 in
set_option maxHeartbeats 4000000 in
theorem l_count {g : ab_G} {L i : Nat} {xs : Nat → Int32} {w : ab_W} (h6 : gX g 6 = xI L xs) (hL : L ≤ 2050) (hi : i + 4 ≤ L) (h : LI w) (K : ∀ w2, LI w2 → ab_St ML_law g 77 3861 527 [(3, .int (nI i)), (2, .ref 74), (1, .ref 7), (0, .ref 6)] [] 84 w2 (fun r _ _ => r = some (.int (nI 1)))) : ab_St ML_law g 77 3861 224 [(3, .int (nI i)), (2, .ref 74), (1, .ref 7), (0, .ref 6)] [] 84 w (fun r _ _ => r = some (.int (nI 1))) := by
  refine r_low fun low => ?_
  have e6 := (low 6 (by decide)).trans h6
  obtain ⟨fs7, e7⟩ := h.e7
  refine r_aload_n dL_law_224 rfl ?_
  refine r_aload_n dL_law_225 rfl ?_
  refine r_iload_n dL_law_226 rfl ?_
  refine r_iconst (v := nI 1) dL_law_227 (by decide) ?_
  first | refine r_iaddN dL_law_228 ?_ | refine r_iadd dL_law_228 ?_
  refine r_iaload' dL_law_229 (by repeat first | exact wu_eq | assumption | (apply wu_ne; first | omega | assumption | (apply Ne.symm; assumption))) (by rfl) _ rfl (by omega) (by omega) ?_
  obtain ⟨v, Q0, c1, k1⟩ := p_count (g := g) (x := xs (i + 1)) h
  refine r_invV dL_law_230 kL_40 (c1) rfl rfl (by repeat first | exact wu_eq | assumption | (apply wu_ne; first | omega | assumption | (apply Ne.symm; assumption))) rfl rfl ⟨by decide, by decide⟩ (Nat.le_of_ble_eq_true rfl) ⟨by decide, by decide⟩ ⟨rfl, rfl⟩ ?_
  rintro _ _ w1 q1
  obtain ⟨rfl, rfl, ⟨fs74, e74⟩, Q1, c2, k2⟩ := k1 _ _ _ q1
  refine r_low fun low1 => ?_
  have f6 := (low1 6 (by decide)).trans h6
  refine r_aload_n dL_law_233 rfl ?_
  refine r_aload_n dL_law_234 rfl ?_
  refine r_iload_n dL_law_235 rfl ?_
  refine r_iconst (v := nI 1) dL_law_236 (by decide) ?_
  first | refine r_iaddN dL_law_237 ?_ | refine r_iadd dL_law_237 ?_
  refine r_iaload' dL_law_238 (by repeat first | exact wu_eq | assumption | (apply wu_ne; first | omega | assumption | (apply Ne.symm; assumption))) (by rfl) _ rfl (by omega) (by omega) ?_
  refine r_invV dL_law_239 kL_43 (c2) rfl rfl (by repeat first | exact wu_eq | assumption | (apply wu_ne; first | omega | assumption | (apply Ne.symm; assumption))) rfl rfl ⟨by decide, by decide⟩ (Nat.le_of_ble_eq_true rfl) ⟨by decide, by decide⟩ ⟨rfl, rfl⟩ ?_
  rintro _ _ w2 q2
  obtain ⟨rfl, rfl, hL2⟩ := k2 _ _ _ q2
  refine r_icmp_eq (tgt := 527) dL_law_242 (by decide) (fun _ => ?_) (fun q => absurd rfl q)
  exact K w2 hL2
set_option maxRecDepth 100000 in
set_option maxHeartbeats 4000000 in
theorem l_feed {g : ab_G} {L i : Nat} {xs : Nat → Int32} {w : ab_W} (h6 : gX g 6 = xI L xs) (hL : L ≤ 2050) (hi : i + 4 ≤ L) (h : LI w) (K : ∀ w2, LI w2 → ab_St ML_law g 77 3861 527 [(3, .int (nI i)), (2, .ref 74), (1, .ref 7), (0, .ref 6)] [] 84 w2 (fun r _ _ => r = some (.int (nI 1)))) : ab_St ML_law g 77 3861 247 [(3, .int (nI i)), (2, .ref 74), (1, .ref 7), (0, .ref 6)] [] 84 w (fun r _ _ => r = some (.int (nI 1))) := by
  refine r_low fun low => ?_
  have e6 := (low 6 (by decide)).trans h6
  obtain ⟨fs7, e7⟩ := h.e7
  refine r_aload_n dL_law_247 rfl ?_
  refine r_aload_n dL_law_248 rfl ?_
  refine r_iload_n dL_law_249 rfl ?_
  refine r_iconst (v := nI 1) dL_law_250 (by decide) ?_
  first | refine r_iaddN dL_law_251 ?_ | refine r_iadd dL_law_251 ?_
  refine r_iaload' dL_law_252 (by repeat first | exact wu_eq | assumption | (apply wu_ne; first | omega | assumption | (apply Ne.symm; assumption))) (by rfl) _ rfl (by omega) (by omega) ?_
  refine r_i2l dL_law_253 ?_
  refine r_bipush (v := nI 32) dL_law_254 (by decide) ?_
  refine r_lshl dL_law_256 ?_
  refine r_aload_n dL_law_257 rfl ?_
  refine r_iload_n dL_law_258 rfl ?_
  refine r_iconst (v := nI 2) dL_law_259 (by decide) ?_
  first | refine r_iaddN dL_law_260 ?_ | refine r_iadd dL_law_260 ?_
  refine r_iaload' dL_law_261 (by repeat first | exact wu_eq | assumption | (apply wu_ne; first | omega | assumption | (apply Ne.symm; assumption))) (by rfl) _ rfl (by omega) (by omega) ?_
  refine r_i2l dL_law_262 ?_
  refine r_ldc2 dL_law_263 qL_44 ?_
  refine r_land dL_law_266 ?_
  refine r_lor dL_law_267 ?_
  refine r_aload_n dL_law_268 rfl ?_
  refine r_iload_n dL_law_269 rfl ?_
  refine r_iconst (v := nI 3) dL_law_270 (by decide) ?_
  first | refine r_iaddN dL_law_271 ?_ | refine r_iadd dL_law_271 ?_
  refine r_iaload' dL_law_272 (by repeat first | exact wu_eq | assumption | (apply wu_ne; first | omega | assumption | (apply Ne.symm; assumption))) (by rfl) _ rfl (by omega) (by omega) ?_
  obtain ⟨v, Q0, c1, k1⟩ := p_feed (g := g) (y := ((xs (i + 1)).toInt64 <<< ((nI 32).toInt64 &&& 63)) ||| ((xs (i + 2)).toInt64 &&& 4294967295)) (x := xs (i + 3)) h
  refine r_invV dL_law_273 kL_46 (c1) rfl rfl (by repeat first | exact wu_eq | assumption | (apply wu_ne; first | omega | assumption | (apply Ne.symm; assumption))) rfl rfl ⟨by decide, by decide⟩ (Nat.le_of_ble_eq_true rfl) ⟨by decide, by decide⟩ ⟨rfl, rfl⟩ ?_
  rintro _ _ w1 q1
  obtain ⟨rfl, rfl, ⟨fs74, e74⟩, Q1, c2, k2⟩ := k1 _ _ _ q1
  refine r_low fun low1 => ?_
  have f6 := (low1 6 (by decide)).trans h6
  refine r_aload_n dL_law_276 rfl ?_
  refine r_aload_n dL_law_277 rfl ?_
  refine r_iload_n dL_law_278 rfl ?_
  refine r_iconst (v := nI 1) dL_law_279 (by decide) ?_
  first | refine r_iaddN dL_law_280 ?_ | refine r_iadd dL_law_280 ?_
  refine r_iaload' dL_law_281 (by repeat first | exact wu_eq | assumption | (apply wu_ne; first | omega | assumption | (apply Ne.symm; assumption))) (by rfl) _ rfl (by omega) (by omega) ?_
  refine r_i2l dL_law_282 ?_
  refine r_bipush (v := nI 32) dL_law_283 (by decide) ?_
  refine r_lshl dL_law_285 ?_
  refine r_aload_n dL_law_286 rfl ?_
  refine r_iload_n dL_law_287 rfl ?_
  refine r_iconst (v := nI 2) dL_law_288 (by decide) ?_
  first | refine r_iaddN dL_law_289 ?_ | refine r_iadd dL_law_289 ?_
  refine r_iaload' dL_law_290 (by repeat first | exact wu_eq | assumption | (apply wu_ne; first | omega | assumption | (apply Ne.symm; assumption))) (by rfl) _ rfl (by omega) (by omega) ?_
  refine r_i2l dL_law_291 ?_
  refine r_ldc2 dL_law_292 qL_44 ?_
  refine r_land dL_law_295 ?_
  refine r_lor dL_law_296 ?_
  refine r_aload_n dL_law_297 rfl ?_
  refine r_iload_n dL_law_298 rfl ?_
  refine r_iconst (v := nI 3) dL_law_299 (by decide) ?_
  first | refine r_iaddN dL_law_300 ?_ | refine r_iadd dL_law_300 ?_
  refine r_iaload' dL_law_301 (by repeat first | exact wu_eq | assumption | (apply wu_ne; first | omega | assumption | (apply Ne.symm; assumption))) (by rfl) _ rfl (by omega) (by omega) ?_
  refine r_invV dL_law_302 kL_50 (c2) rfl rfl (by repeat first | exact wu_eq | assumption | (apply wu_ne; first | omega | assumption | (apply Ne.symm; assumption))) rfl rfl ⟨by decide, by decide⟩ (Nat.le_of_ble_eq_true rfl) ⟨by decide, by decide⟩ ⟨rfl, rfl⟩ ?_
  rintro _ _ w2 q2
  obtain ⟨rfl, rfl, hL2⟩ := k2 _ _ _ q2
  refine r_icmp_eq (tgt := 527) dL_law_305 (by decide) (fun _ => ?_) (fun q => absurd rfl q)
  exact K w2 hL2
set_option maxRecDepth 100000 in
set_option maxHeartbeats 4000000 in
theorem l_cut {g : ab_G} {L i : Nat} {xs : Nat → Int32} {w : ab_W} (h6 : gX g 6 = xI L xs) (hL : L ≤ 2050) (hi : i + 4 ≤ L) (h : LI w) (K : ∀ w2, LI w2 → ab_St ML_law g 77 3861 527 [(3, .int (nI i)), (2, .ref 74), (1, .ref 7), (0, .ref 6)] [] 84 w2 (fun r _ _ => r = some (.int (nI 1)))) : ab_St ML_law g 77 3861 310 [(3, .int (nI i)), (2, .ref 74), (1, .ref 7), (0, .ref 6)] [] 84 w (fun r _ _ => r = some (.int (nI 1))) := by
  refine r_low fun low => ?_
  have e6 := (low 6 (by decide)).trans h6
  obtain ⟨fs7, e7⟩ := h.e7
  refine r_aload_n dL_law_310 rfl ?_
  refine r_aload_n dL_law_311 rfl ?_
  refine r_iload_n dL_law_312 rfl ?_
  refine r_iconst (v := nI 1) dL_law_313 (by decide) ?_
  first | refine r_iaddN dL_law_314 ?_ | refine r_iadd dL_law_314 ?_
  refine r_iaload' dL_law_315 (by repeat first | exact wu_eq | assumption | (apply wu_ne; first | omega | assumption | (apply Ne.symm; assumption))) (by rfl) _ rfl (by omega) (by omega) ?_
  obtain ⟨v, Q0, c1, k1⟩ := p_cut (g := g) (x := xs (i + 1)) h
  refine r_invV dL_law_316 kL_51 (c1) rfl rfl (by repeat first | exact wu_eq | assumption | (apply wu_ne; first | omega | assumption | (apply Ne.symm; assumption))) rfl rfl ⟨by decide, by decide⟩ (Nat.le_of_ble_eq_true rfl) ⟨by decide, by decide⟩ ⟨rfl, rfl⟩ ?_
  rintro _ _ w1 q1
  obtain ⟨rfl, rfl, ⟨fs74, e74⟩, Q1, c2, k2⟩ := k1 _ _ _ q1
  refine r_low fun low1 => ?_
  have f6 := (low1 6 (by decide)).trans h6
  refine r_aload_n dL_law_319 rfl ?_
  refine r_aload_n dL_law_320 rfl ?_
  refine r_iload_n dL_law_321 rfl ?_
  refine r_iconst (v := nI 1) dL_law_322 (by decide) ?_
  first | refine r_iaddN dL_law_323 ?_ | refine r_iadd dL_law_323 ?_
  refine r_iaload' dL_law_324 (by repeat first | exact wu_eq | assumption | (apply wu_ne; first | omega | assumption | (apply Ne.symm; assumption))) (by rfl) _ rfl (by omega) (by omega) ?_
  refine r_invV dL_law_325 kL_54 (c2) rfl rfl (by repeat first | exact wu_eq | assumption | (apply wu_ne; first | omega | assumption | (apply Ne.symm; assumption))) rfl rfl ⟨by decide, by decide⟩ (Nat.le_of_ble_eq_true rfl) ⟨by decide, by decide⟩ ⟨rfl, rfl⟩ ?_
  rintro _ _ w2 q2
  obtain ⟨rfl, rfl, hL2⟩ := k2 _ _ _ q2
  refine r_icmp_eq (tgt := 527) dL_law_328 (by decide) (fun _ => ?_) (fun q => absurd rfl q)
  exact K w2 hL2
set_option maxRecDepth 100000 in
set_option maxHeartbeats 4000000 in
theorem l_hash {g : ab_G} {L i : Nat} {xs : Nat → Int32} {w : ab_W} (h6 : gX g 6 = xI L xs) (hL : L ≤ 2050) (hi : i + 4 ≤ L) (h : LI w) (K : ∀ w2, LI w2 → ab_St ML_law g 77 3861 527 [(3, .int (nI i)), (2, .ref 74), (1, .ref 7), (0, .ref 6)] [] 84 w2 (fun r _ _ => r = some (.int (nI 1)))) : ab_St ML_law g 77 3861 333 [(3, .int (nI i)), (2, .ref 74), (1, .ref 7), (0, .ref 6)] [] 84 w (fun r _ _ => r = some (.int (nI 1))) := by
  refine r_low fun low => ?_
  have e6 := (low 6 (by decide)).trans h6
  obtain ⟨fs7, e7⟩ := h.e7
  refine r_aload_n dL_law_333 rfl ?_
  refine r_aload_n dL_law_334 rfl ?_
  refine r_iload_n dL_law_335 rfl ?_
  refine r_iconst (v := nI 1) dL_law_336 (by decide) ?_
  first | refine r_iaddN dL_law_337 ?_ | refine r_iadd dL_law_337 ?_
  refine r_iaload' dL_law_338 (by repeat first | exact wu_eq | assumption | (apply wu_ne; first | omega | assumption | (apply Ne.symm; assumption))) (by rfl) _ rfl (by omega) (by omega) ?_
  obtain ⟨v, Q0, c1, k1⟩ := p_hash (g := g) (x := xs (i + 1)) h
  refine r_invV dL_law_339 kL_55 (c1) rfl rfl (by repeat first | exact wu_eq | assumption | (apply wu_ne; first | omega | assumption | (apply Ne.symm; assumption))) rfl rfl ⟨by decide, by decide⟩ (Nat.le_of_ble_eq_true rfl) ⟨by decide, by decide⟩ ⟨rfl, rfl⟩ ?_
  rintro _ _ w1 q1
  obtain ⟨rfl, rfl, ⟨fs74, e74⟩, Q1, c2, k2⟩ := k1 _ _ _ q1
  refine r_low fun low1 => ?_
  have f6 := (low1 6 (by decide)).trans h6
  refine r_aload_n dL_law_342 rfl ?_
  refine r_aload_n dL_law_343 rfl ?_
  refine r_iload_n dL_law_344 rfl ?_
  refine r_iconst (v := nI 1) dL_law_345 (by decide) ?_
  first | refine r_iaddN dL_law_346 ?_ | refine r_iadd dL_law_346 ?_
  refine r_iaload' dL_law_347 (by repeat first | exact wu_eq | assumption | (apply wu_ne; first | omega | assumption | (apply Ne.symm; assumption))) (by rfl) _ rfl (by omega) (by omega) ?_
  refine r_invV dL_law_348 kL_58 (c2) rfl rfl (by repeat first | exact wu_eq | assumption | (apply wu_ne; first | omega | assumption | (apply Ne.symm; assumption))) rfl rfl ⟨by decide, by decide⟩ (Nat.le_of_ble_eq_true rfl) ⟨by decide, by decide⟩ ⟨rfl, rfl⟩ ?_
  rintro _ _ w2 q2
  obtain ⟨rfl, rfl, hL2⟩ := k2 _ _ _ q2
  refine r_icmp_eq (tgt := 527) dL_law_351 (by decide) (fun _ => ?_) (fun q => absurd rfl q)
  exact K w2 hL2
set_option maxRecDepth 100000 in
set_option maxHeartbeats 4000000 in
theorem l_encoded {g : ab_G} {L i : Nat} {xs : Nat → Int32} {w : ab_W} (h6 : gX g 6 = xI L xs) (hL : L ≤ 2050) (hi : i + 4 ≤ L) (h : LI w) (K : ∀ w2, LI w2 → ab_St ML_law g 77 3861 527 [(3, .int (nI i)), (2, .ref 74), (1, .ref 7), (0, .ref 6)] [] 84 w2 (fun r _ _ => r = some (.int (nI 1)))) : ab_St ML_law g 77 3861 356 [(3, .int (nI i)), (2, .ref 74), (1, .ref 7), (0, .ref 6)] [] 84 w (fun r _ _ => r = some (.int (nI 1))) := by
  refine r_low fun low => ?_
  have e6 := (low 6 (by decide)).trans h6
  obtain ⟨fs7, e7⟩ := h.e7
  refine r_aload_n dL_law_356 rfl ?_
  refine r_aload_n dL_law_357 rfl ?_
  refine r_iload_n dL_law_358 rfl ?_
  refine r_iconst (v := nI 1) dL_law_359 (by decide) ?_
  first | refine r_iaddN dL_law_360 ?_ | refine r_iadd dL_law_360 ?_
  refine r_iaload' dL_law_361 (by repeat first | exact wu_eq | assumption | (apply wu_ne; first | omega | assumption | (apply Ne.symm; assumption))) (by rfl) _ rfl (by omega) (by omega) ?_
  obtain ⟨v, Q0, c1, k1⟩ := p_encoded (g := g) (x := xs (i + 1)) h
  refine r_invV dL_law_362 kL_59 (c1) rfl rfl (by repeat first | exact wu_eq | assumption | (apply wu_ne; first | omega | assumption | (apply Ne.symm; assumption))) rfl rfl ⟨by decide, by decide⟩ (Nat.le_of_ble_eq_true rfl) ⟨by decide, by decide⟩ ⟨rfl, rfl⟩ ?_
  rintro _ _ w1 q1
  obtain ⟨rfl, rfl, ⟨fs74, e74⟩, Q1, c2, k2⟩ := k1 _ _ _ q1
  refine r_low fun low1 => ?_
  have f6 := (low1 6 (by decide)).trans h6
  refine r_aload_n dL_law_365 rfl ?_
  refine r_aload_n dL_law_366 rfl ?_
  refine r_iload_n dL_law_367 rfl ?_
  refine r_iconst (v := nI 1) dL_law_368 (by decide) ?_
  first | refine r_iaddN dL_law_369 ?_ | refine r_iadd dL_law_369 ?_
  refine r_iaload' dL_law_370 (by repeat first | exact wu_eq | assumption | (apply wu_ne; first | omega | assumption | (apply Ne.symm; assumption))) (by rfl) _ rfl (by omega) (by omega) ?_
  refine r_invV dL_law_371 kL_62 (c2) rfl rfl (by repeat first | exact wu_eq | assumption | (apply wu_ne; first | omega | assumption | (apply Ne.symm; assumption))) rfl rfl ⟨by decide, by decide⟩ (Nat.le_of_ble_eq_true rfl) ⟨by decide, by decide⟩ ⟨rfl, rfl⟩ ?_
  rintro _ _ w2 q2
  obtain ⟨rfl, rfl, hL2⟩ := k2 _ _ _ q2
  refine r_icmp_eq (tgt := 527) dL_law_374 (by decide) (fun _ => ?_) (fun q => absurd rfl q)
  exact K w2 hL2
set_option maxRecDepth 100000 in
set_option maxHeartbeats 4000000 in
theorem l_sign {g : ab_G} {L i : Nat} {xs : Nat → Int32} {w : ab_W} (h6 : gX g 6 = xI L xs) (hL : L ≤ 2050) (hi : i + 4 ≤ L) (h : LI w) (K : ∀ w2, LI w2 → ab_St ML_law g 77 3861 527 [(3, .int (nI i)), (2, .ref 74), (1, .ref 7), (0, .ref 6)] [] 84 w2 (fun r _ _ => r = some (.int (nI 1)))) : ab_St ML_law g 77 3861 379 [(3, .int (nI i)), (2, .ref 74), (1, .ref 7), (0, .ref 6)] [] 84 w (fun r _ _ => r = some (.int (nI 1))) := by
  refine r_low fun low => ?_
  have e6 := (low 6 (by decide)).trans h6
  obtain ⟨fs7, e7⟩ := h.e7
  refine r_aload_n dL_law_379 rfl ?_
  obtain ⟨v, Q0, c1, k1⟩ := p_sign (g := g)  h
  refine r_invV dL_law_380 kL_63 (c1) rfl rfl (by repeat first | exact wu_eq | assumption | (apply wu_ne; first | omega | assumption | (apply Ne.symm; assumption))) rfl rfl ⟨by decide, by decide⟩ (Nat.le_of_ble_eq_true rfl) ⟨by decide, by decide⟩ ⟨rfl, rfl⟩ ?_
  rintro _ _ w1 q1
  obtain ⟨rfl, rfl, ⟨fs74, e74⟩, Q1, c2, k2⟩ := k1 _ _ _ q1
  refine r_low fun low1 => ?_
  have f6 := (low1 6 (by decide)).trans h6
  refine r_aload_n dL_law_383 rfl ?_
  refine r_invV dL_law_384 kL_66 (c2) rfl rfl (by repeat first | exact wu_eq | assumption | (apply wu_ne; first | omega | assumption | (apply Ne.symm; assumption))) rfl rfl ⟨by decide, by decide⟩ (Nat.le_of_ble_eq_true rfl) ⟨by decide, by decide⟩ ⟨rfl, rfl⟩ ?_
  rintro _ _ w2 q2
  obtain ⟨rfl, rfl, hL2⟩ := k2 _ _ _ q2
  refine r_icmp_eq (tgt := 527) dL_law_387 (by decide) (fun _ => ?_) (fun q => absurd rfl q)
  exact K w2 hL2
set_option maxRecDepth 100000 in
set_option maxHeartbeats 4000000 in
theorem l_verify {g : ab_G} {L i : Nat} {xs : Nat → Int32} {w : ab_W} (h6 : gX g 6 = xI L xs) (hL : L ≤ 2050) (hi : i + 4 ≤ L) (h : LI w) (K : ∀ w2, LI w2 → ab_St ML_law g 77 3861 527 [(3, .int (nI i)), (2, .ref 74), (1, .ref 7), (0, .ref 6)] [] 84 w2 (fun r _ _ => r = some (.int (nI 1)))) : ab_St ML_law g 77 3861 392 [(3, .int (nI i)), (2, .ref 74), (1, .ref 7), (0, .ref 6)] [] 84 w (fun r _ _ => r = some (.int (nI 1))) := by
  refine r_low fun low => ?_
  have e6 := (low 6 (by decide)).trans h6
  obtain ⟨fs7, e7⟩ := h.e7
  refine r_aload_n dL_law_392 rfl ?_
  obtain ⟨v, Q0, c1, k1⟩ := p_verify (g := g)  h
  refine r_invV dL_law_393 kL_67 (c1) rfl rfl (by repeat first | exact wu_eq | assumption | (apply wu_ne; first | omega | assumption | (apply Ne.symm; assumption))) rfl rfl ⟨by decide, by decide⟩ (Nat.le_of_ble_eq_true rfl) ⟨by decide, by decide⟩ ⟨rfl, rfl⟩ ?_
  rintro _ _ w1 q1
  obtain ⟨rfl, rfl, ⟨fs74, e74⟩, Q1, c2, k2⟩ := k1 _ _ _ q1
  refine r_low fun low1 => ?_
  have f6 := (low1 6 (by decide)).trans h6
  refine r_aload_n dL_law_396 rfl ?_
  refine r_invV dL_law_397 kL_70 (c2) rfl rfl (by repeat first | exact wu_eq | assumption | (apply wu_ne; first | omega | assumption | (apply Ne.symm; assumption))) rfl rfl ⟨by decide, by decide⟩ (Nat.le_of_ble_eq_true rfl) ⟨by decide, by decide⟩ ⟨rfl, rfl⟩ ?_
  rintro _ _ w2 q2
  obtain ⟨rfl, rfl, hL2⟩ := k2 _ _ _ q2
  refine r_icmp_eq (tgt := 527) dL_law_400 (by decide) (fun _ => ?_) (fun q => absurd rfl q)
  exact K w2 hL2
set_option maxRecDepth 100000 in
set_option maxHeartbeats 4000000 in
theorem l_power {g : ab_G} {L i : Nat} {xs : Nat → Int32} {w : ab_W} (h6 : gX g 6 = xI L xs) (hL : L ≤ 2050) (hi : i + 4 ≤ L) (h : LI w) (K : ∀ w2, LI w2 → ab_St ML_law g 77 3861 527 [(3, .int (nI i)), (2, .ref 74), (1, .ref 7), (0, .ref 6)] [] 84 w2 (fun r _ _ => r = some (.int (nI 1)))) : ab_St ML_law g 77 3861 405 [(3, .int (nI i)), (2, .ref 74), (1, .ref 7), (0, .ref 6)] [] 84 w (fun r _ _ => r = some (.int (nI 1))) := by
  refine r_low fun low => ?_
  have e6 := (low 6 (by decide)).trans h6
  obtain ⟨fs7, e7⟩ := h.e7
  refine r_aload_n dL_law_405 rfl ?_
  refine r_aload_n dL_law_406 rfl ?_
  refine r_iload_n dL_law_407 rfl ?_
  refine r_iconst (v := nI 1) dL_law_408 (by decide) ?_
  first | refine r_iaddN dL_law_409 ?_ | refine r_iadd dL_law_409 ?_
  refine r_iaload' dL_law_410 (by repeat first | exact wu_eq | assumption | (apply wu_ne; first | omega | assumption | (apply Ne.symm; assumption))) (by rfl) _ rfl (by omega) (by omega) ?_
  refine r_if_eq (tgt := 418) dL_law_411 (by decide) (fun h411 => ?_) (fun h411 => ?_)
  · refine r_iconst (v := nI 0) dL_law_418 (by decide) ?_
    obtain ⟨v, Q0, c1, k1⟩ := p_power (g := g) (b := 0) (by decide) h
    refine r_invV dL_law_419 kL_71 (c1) rfl rfl (by repeat first | exact wu_eq | assumption | (apply wu_ne; first | omega | assumption | (apply Ne.symm; assumption))) rfl rfl ⟨by decide, by decide⟩ (Nat.le_of_ble_eq_true rfl) ⟨by decide, by decide⟩ ⟨rfl, rfl⟩ ?_
    rintro _ _ w1 q1
    obtain ⟨rfl, rfl, ⟨fs74, e74⟩, Q1, c2, k2⟩ := k1 _ _ _ q1
    refine r_low fun low1 => ?_
    have f6 := (low1 6 (by decide)).trans h6
    refine r_aload_n dL_law_422 rfl ?_
    refine r_aload_n dL_law_423 rfl ?_
    refine r_iload_n dL_law_424 rfl ?_
    refine r_iconst (v := nI 1) dL_law_425 (by decide) ?_
    first | refine r_iaddN dL_law_426 ?_ | refine r_iadd dL_law_426 ?_
    refine r_iaload' dL_law_427 (by repeat first | exact wu_eq | assumption | (apply wu_ne; first | omega | assumption | (apply Ne.symm; assumption))) (by rfl) _ rfl (by omega) (by omega) ?_
    refine r_if_eq (tgt := 435) dL_law_428 (by decide) (fun h428 => ?_) (fun h428 => ?_)
    · refine r_iconst (v := nI 0) dL_law_435 (by decide) ?_
      refine r_invV dL_law_436 kL_75 (c2) rfl rfl (by repeat first | exact wu_eq | assumption | (apply wu_ne; first | omega | assumption | (apply Ne.symm; assumption))) rfl rfl ⟨by decide, by decide⟩ (Nat.le_of_ble_eq_true rfl) ⟨by decide, by decide⟩ ⟨rfl, rfl⟩ ?_
      rintro _ _ w2 q2
      obtain ⟨rfl, rfl, hL2⟩ := k2 _ _ _ q2
      refine r_icmp_eq (tgt := 527) dL_law_439 (by decide) (fun _ => ?_) (fun q => absurd rfl q)
      exact K w2 hL2
    · exact absurd h411 h428
  · refine r_iconst (v := nI 1) dL_law_414 (by decide) ?_
    refine r_goto (tgt := 419) dL_law_415 (by decide) ?_
    obtain ⟨v, Q0, c1, k1⟩ := p_power (g := g) (b := 1) (by decide) h
    refine r_invV dL_law_419 kL_71 (c1) rfl rfl (by repeat first | exact wu_eq | assumption | (apply wu_ne; first | omega | assumption | (apply Ne.symm; assumption))) rfl rfl ⟨by decide, by decide⟩ (Nat.le_of_ble_eq_true rfl) ⟨by decide, by decide⟩ ⟨rfl, rfl⟩ ?_
    rintro _ _ w1 q1
    obtain ⟨rfl, rfl, ⟨fs74, e74⟩, Q1, c2, k2⟩ := k1 _ _ _ q1
    refine r_low fun low1 => ?_
    have f6 := (low1 6 (by decide)).trans h6
    refine r_aload_n dL_law_422 rfl ?_
    refine r_aload_n dL_law_423 rfl ?_
    refine r_iload_n dL_law_424 rfl ?_
    refine r_iconst (v := nI 1) dL_law_425 (by decide) ?_
    first | refine r_iaddN dL_law_426 ?_ | refine r_iadd dL_law_426 ?_
    refine r_iaload' dL_law_427 (by repeat first | exact wu_eq | assumption | (apply wu_ne; first | omega | assumption | (apply Ne.symm; assumption))) (by rfl) _ rfl (by omega) (by omega) ?_
    refine r_if_eq (tgt := 435) dL_law_428 (by decide) (fun h428 => ?_) (fun h428 => ?_)
    · exact absurd h428 h411
    · refine r_iconst (v := nI 1) dL_law_431 (by decide) ?_
      refine r_goto (tgt := 436) dL_law_432 (by decide) ?_
      refine r_invV dL_law_436 kL_75 (c2) rfl rfl (by repeat first | exact wu_eq | assumption | (apply wu_ne; first | omega | assumption | (apply Ne.symm; assumption))) rfl rfl ⟨by decide, by decide⟩ (Nat.le_of_ble_eq_true rfl) ⟨by decide, by decide⟩ ⟨rfl, rfl⟩ ?_
      rintro _ _ w2 q2
      obtain ⟨rfl, rfl, hL2⟩ := k2 _ _ _ q2
      refine r_icmp_eq (tgt := 527) dL_law_439 (by decide) (fun _ => ?_) (fun q => absurd rfl q)
      exact K w2 hL2
set_option maxRecDepth 100000 in
set_option maxHeartbeats 4000000 in
theorem l_encode {g : ab_G} {L i : Nat} {xs : Nat → Int32} {w : ab_W} (h6 : gX g 6 = xI L xs) (hL : L ≤ 2050) (hi : i + 4 ≤ L) (h : LI w) (K : ∀ w2, LI w2 → ab_St ML_law g 77 3861 527 [(3, .int (nI i)), (2, .ref 74), (1, .ref 7), (0, .ref 6)] [] 84 w2 (fun r _ _ => r = some (.int (nI 1)))) : ab_St ML_law g 77 3861 444 [(3, .int (nI i)), (2, .ref 74), (1, .ref 7), (0, .ref 6)] [] 84 w (fun r _ _ => r = some (.int (nI 1))) := by
  refine r_low fun low => ?_
  have e6 := (low 6 (by decide)).trans h6
  obtain ⟨fs7, e7⟩ := h.e7
  refine r_aload_n dL_law_444 rfl ?_
  obtain ⟨v, Q0, c1, k1⟩ := p_encode (g := g)  h
  refine r_invV dL_law_445 kL_76 (c1) rfl rfl (by repeat first | exact wu_eq | assumption | (apply wu_ne; first | omega | assumption | (apply Ne.symm; assumption))) rfl rfl ⟨by decide, by decide⟩ (Nat.le_of_ble_eq_true rfl) ⟨by decide, by decide⟩ ⟨rfl, rfl⟩ ?_
  rintro _ _ w1 q1
  obtain ⟨rfl, rfl, ⟨fs74, e74⟩, Q1, c2, k2⟩ := k1 _ _ _ q1
  refine r_low fun low1 => ?_
  have f6 := (low1 6 (by decide)).trans h6
  refine r_aload_n dL_law_448 rfl ?_
  refine r_invV dL_law_449 kL_79 (c2) rfl rfl (by repeat first | exact wu_eq | assumption | (apply wu_ne; first | omega | assumption | (apply Ne.symm; assumption))) rfl rfl ⟨by decide, by decide⟩ (Nat.le_of_ble_eq_true rfl) ⟨by decide, by decide⟩ ⟨rfl, rfl⟩ ?_
  rintro _ _ w2 q2
  obtain ⟨rfl, rfl, hL2⟩ := k2 _ _ _ q2
  refine r_icmp_eq (tgt := 527) dL_law_452 (by decide) (fun _ => ?_) (fun q => absurd rfl q)
  exact K w2 hL2
set_option maxRecDepth 100000 in
set_option maxHeartbeats 4000000 in
theorem l_set {g : ab_G} {L i : Nat} {xs : Nat → Int32} {w : ab_W} (h6 : gX g 6 = xI L xs) (hL : L ≤ 2050) (hi : i + 4 ≤ L) (h : LI w) (K : ∀ w2, LI w2 → ab_St ML_law g 77 3861 527 [(3, .int (nI i)), (2, .ref 74), (1, .ref 7), (0, .ref 6)] [] 84 w2 (fun r _ _ => r = some (.int (nI 1)))) : ab_St ML_law g 77 3861 457 [(3, .int (nI i)), (2, .ref 74), (1, .ref 7), (0, .ref 6)] [] 84 w (fun r _ _ => r = some (.int (nI 1))) := by
  refine r_low fun low => ?_
  have e6 := (low 6 (by decide)).trans h6
  obtain ⟨fs7, e7⟩ := h.e7
  refine r_aload_n dL_law_457 rfl ?_
  refine r_aload_n dL_law_458 rfl ?_
  refine r_iload_n dL_law_459 rfl ?_
  refine r_iconst (v := nI 1) dL_law_460 (by decide) ?_
  first | refine r_iaddN dL_law_461 ?_ | refine r_iadd dL_law_461 ?_
  refine r_iaload' dL_law_462 (by repeat first | exact wu_eq | assumption | (apply wu_ne; first | omega | assumption | (apply Ne.symm; assumption))) (by rfl) _ rfl (by omega) (by omega) ?_
  refine r_aload_n dL_law_463 rfl ?_
  refine r_iload_n dL_law_464 rfl ?_
  refine r_iconst (v := nI 2) dL_law_465 (by decide) ?_
  first | refine r_iaddN dL_law_466 ?_ | refine r_iadd dL_law_466 ?_
  refine r_iaload' dL_law_467 (by repeat first | exact wu_eq | assumption | (apply wu_ne; first | omega | assumption | (apply Ne.symm; assumption))) (by rfl) _ rfl (by omega) (by omega) ?_
  obtain ⟨v, Q0, c1, k1⟩ := p_set (g := g) (x := xs (i + 1)) (y := xs (i + 2)) h
  refine r_invV dL_law_468 kL_80 (c1) rfl rfl (by repeat first | exact wu_eq | assumption | (apply wu_ne; first | omega | assumption | (apply Ne.symm; assumption))) rfl rfl ⟨by decide, by decide⟩ (Nat.le_of_ble_eq_true rfl) ⟨by decide, by decide⟩ ⟨rfl, rfl⟩ ?_
  rintro _ _ w1 q1
  obtain ⟨rfl, rfl, ⟨fs74, e74⟩, Q1, c2, k2⟩ := k1 _ _ _ q1
  refine r_low fun low1 => ?_
  have f6 := (low1 6 (by decide)).trans h6
  refine r_aload_n dL_law_471 rfl ?_
  refine r_aload_n dL_law_472 rfl ?_
  refine r_iload_n dL_law_473 rfl ?_
  refine r_iconst (v := nI 1) dL_law_474 (by decide) ?_
  first | refine r_iaddN dL_law_475 ?_ | refine r_iadd dL_law_475 ?_
  refine r_iaload' dL_law_476 (by repeat first | exact wu_eq | assumption | (apply wu_ne; first | omega | assumption | (apply Ne.symm; assumption))) (by rfl) _ rfl (by omega) (by omega) ?_
  refine r_aload_n dL_law_477 rfl ?_
  refine r_iload_n dL_law_478 rfl ?_
  refine r_iconst (v := nI 2) dL_law_479 (by decide) ?_
  first | refine r_iaddN dL_law_480 ?_ | refine r_iadd dL_law_480 ?_
  refine r_iaload' dL_law_481 (by repeat first | exact wu_eq | assumption | (apply wu_ne; first | omega | assumption | (apply Ne.symm; assumption))) (by rfl) _ rfl (by omega) (by omega) ?_
  refine r_invV dL_law_482 kL_83 (c2) rfl rfl (by repeat first | exact wu_eq | assumption | (apply wu_ne; first | omega | assumption | (apply Ne.symm; assumption))) rfl rfl ⟨by decide, by decide⟩ (Nat.le_of_ble_eq_true rfl) ⟨by decide, by decide⟩ ⟨rfl, rfl⟩ ?_
  rintro _ _ w2 q2
  obtain ⟨rfl, rfl, hL2⟩ := k2 _ _ _ q2
  refine r_icmp_eq (tgt := 527) dL_law_485 (by decide) (fun _ => ?_) (fun q => absurd rfl q)
  exact K w2 hL2
set_option maxRecDepth 100000 in
set_option maxHeartbeats 4000000 in
theorem l_get {g : ab_G} {L i : Nat} {xs : Nat → Int32} {w : ab_W} (h6 : gX g 6 = xI L xs) (hL : L ≤ 2050) (hi : i + 4 ≤ L) (h : LI w) (K : ∀ w2, LI w2 → ab_St ML_law g 77 3861 527 [(3, .int (nI i)), (2, .ref 74), (1, .ref 7), (0, .ref 6)] [] 84 w2 (fun r _ _ => r = some (.int (nI 1)))) : ab_St ML_law g 77 3861 490 [(3, .int (nI i)), (2, .ref 74), (1, .ref 7), (0, .ref 6)] [] 84 w (fun r _ _ => r = some (.int (nI 1))) := by
  refine r_low fun low => ?_
  have e6 := (low 6 (by decide)).trans h6
  obtain ⟨fs7, e7⟩ := h.e7
  refine r_aload_n dL_law_490 rfl ?_
  refine r_aload_n dL_law_491 rfl ?_
  refine r_iload_n dL_law_492 rfl ?_
  refine r_iconst (v := nI 1) dL_law_493 (by decide) ?_
  first | refine r_iaddN dL_law_494 ?_ | refine r_iadd dL_law_494 ?_
  refine r_iaload' dL_law_495 (by repeat first | exact wu_eq | assumption | (apply wu_ne; first | omega | assumption | (apply Ne.symm; assumption))) (by rfl) _ rfl (by omega) (by omega) ?_
  obtain ⟨v, Q0, c1, k1⟩ := p_get (g := g) (x := xs (i + 1)) h
  refine r_invV dL_law_496 kL_84 (c1) rfl rfl (by repeat first | exact wu_eq | assumption | (apply wu_ne; first | omega | assumption | (apply Ne.symm; assumption))) rfl rfl ⟨by decide, by decide⟩ (Nat.le_of_ble_eq_true rfl) ⟨by decide, by decide⟩ ⟨rfl, rfl⟩ ?_
  rintro _ _ w1 q1
  obtain ⟨rfl, rfl, ⟨fs74, e74⟩, Q1, c2, k2⟩ := k1 _ _ _ q1
  refine r_low fun low1 => ?_
  have f6 := (low1 6 (by decide)).trans h6
  refine r_aload_n dL_law_499 rfl ?_
  refine r_aload_n dL_law_500 rfl ?_
  refine r_iload_n dL_law_501 rfl ?_
  refine r_iconst (v := nI 1) dL_law_502 (by decide) ?_
  first | refine r_iaddN dL_law_503 ?_ | refine r_iadd dL_law_503 ?_
  refine r_iaload' dL_law_504 (by repeat first | exact wu_eq | assumption | (apply wu_ne; first | omega | assumption | (apply Ne.symm; assumption))) (by rfl) _ rfl (by omega) (by omega) ?_
  refine r_invV dL_law_505 kL_87 (c2) rfl rfl (by repeat first | exact wu_eq | assumption | (apply wu_ne; first | omega | assumption | (apply Ne.symm; assumption))) rfl rfl ⟨by decide, by decide⟩ (Nat.le_of_ble_eq_true rfl) ⟨by decide, by decide⟩ ⟨rfl, rfl⟩ ?_
  rintro _ _ w2 q2
  obtain ⟨rfl, rfl, hL2⟩ := k2 _ _ _ q2
  refine r_icmp_eq (tgt := 527) dL_law_508 (by decide) (fun _ => ?_) (fun q => absurd rfl q)
  exact K w2 hL2
set_option maxRecDepth 100000 in
set_option maxHeartbeats 4000000 in
theorem l_digest {g : ab_G} {L i : Nat} {xs : Nat → Int32} {w : ab_W} (h6 : gX g 6 = xI L xs) (hL : L ≤ 2050) (hi : i + 4 ≤ L) (h : LI w) (K : ∀ w2, LI w2 → ab_St ML_law g 77 3861 527 [(3, .int (nI i)), (2, .ref 74), (1, .ref 7), (0, .ref 6)] [] 84 w2 (fun r _ _ => r = some (.int (nI 1)))) : ab_St ML_law g 77 3861 513 [(3, .int (nI i)), (2, .ref 74), (1, .ref 7), (0, .ref 6)] [] 84 w (fun r _ _ => r = some (.int (nI 1))) := by
  refine r_low fun low => ?_
  have e6 := (low 6 (by decide)).trans h6
  obtain ⟨fs7, e7⟩ := h.e7
  refine r_aload_n dL_law_513 rfl ?_
  obtain ⟨v, Q0, c1, k1⟩ := p_digest (g := g)  h
  refine r_invV dL_law_514 kL_88 (c1) rfl rfl (by repeat first | exact wu_eq | assumption | (apply wu_ne; first | omega | assumption | (apply Ne.symm; assumption))) rfl rfl ⟨by decide, by decide⟩ (Nat.le_of_ble_eq_true rfl) ⟨by decide, by decide⟩ ⟨rfl, rfl⟩ ?_
  rintro _ _ w1 q1
  obtain ⟨rfl, rfl, ⟨fs74, e74⟩, Q1, c2, k2⟩ := k1 _ _ _ q1
  refine r_low fun low1 => ?_
  have f6 := (low1 6 (by decide)).trans h6
  refine r_aload_n dL_law_517 rfl ?_
  refine r_invV dL_law_518 kL_92 (c2) rfl rfl (by repeat first | exact wu_eq | assumption | (apply wu_ne; first | omega | assumption | (apply Ne.symm; assumption))) rfl rfl ⟨by decide, by decide⟩ (Nat.le_of_ble_eq_true rfl) ⟨by decide, by decide⟩ ⟨rfl, rfl⟩ ?_
  rintro _ _ w2 q2
  obtain ⟨rfl, rfl, hL2⟩ := k2 _ _ _ q2
  refine r_lcmp_eq (tgt := 527) dL_law_521 dL_law_522 (by decide) (fun _ => ?_) (fun q => absurd rfl q)
  exact K w2 hL2
