/-! SignHouse: the bytes of the key -/
def kv (n d p q dP dQ qI k : Nat) : Nat := if k = 0 then n else if k = 1 then d else if k = 2 then p else if k = 3 then q else if k = 4 then dP else if k = 5 then dQ else qI
def kw (half k : Nat) : Nat := if k < 2 then 2 * half else half
theorem KN.row {w : ab_W} {W n d p q dP dQ qI k : Nat} (h : KN w W n d p q dP dQ qI) (hk : k < 7) : ∃ m, m ≤ 2 * W ∧ w (53 + k) = aN m (kv n d p q dP dQ qI k) ∧ kv n d p q dP dQ qI k < 4294967296 ^ m := by
  obtain ⟨n53, n54, n55, n56, n57, n58, n59, b53, b54, b55, b56, b57, b58, b59⟩ := h
  rcases (by omega : k = 0 ∨ k = 1 ∨ k = 2 ∨ k = 3 ∨ k = 4 ∨ k = 5 ∨ k = 6) with rfl | rfl | rfl | rfl | rfl | rfl | rfl
  · exact ⟨2 * W, by omega, n53, b53⟩
  · exact ⟨2 * W, by omega, n54, b54⟩
  · exact ⟨W, by omega, n55, b55⟩
  · exact ⟨W, by omega, n56, b56⟩
  · exact ⟨W, by omega, n57, b57⟩
  · exact ⟨W, by omega, n58, b58⟩
  · exact ⟨W, by omega, n59, b59⟩
set_option maxRecDepth 100000 in
set_option maxHeartbeats 4000000 in
theorem c_byteOfKeyPart {g : ab_G} {N half rounds sg vf made W n d p q dP dQ qI k i : Nat} {w : ab_W} (h : w 7 = hoO half rounds sg vf) (h28 : w 28 = krO made) (hK : KN w W n d p q dP dQ qI) (hk : k < 7) (hW : W ≤ 10) (h40 : half ≤ 40) (hi : i < kw half k) : ab_Ct MX7_byteOfKeyPart g [.ref 7, .int (nI k), .int (nI i)] N w (rp (some (.int (nI (dg 256 (kv n d p q dP dQ qI k) (kw half k - 1 - i))))) N w) := by
  obtain ⟨m, hm, hr, hv⟩ := hK.row hk
  have hkw : kw half k ≤ 80 := by unfold kw; split <;> omega
  refine ab_Ct.of (by decide +kernel) (Nat.le_of_ble_eq_true rfl) (by rintro _ _ _ ⟨rfl, rfl, rfl⟩; trivial) ?_
  show ab_St MX7_byteOfKeyPart g 0 0 0 [(0, .ref 7), (1, .int (nI k)), (2, .int (nI i))] [] _ _ _
  refine r_aload_n dX7_byteOfKeyPart_0 rfl ?_
  refine r_getf dX7_byteOfKeyPart_1 fX7_49 (by repeat first | exact wu_eq | assumption | (apply wu_ne; first | omega | assumption | (apply Ne.symm; assumption))) (by rfl) ?_
  refine r_iload_n dX7_byteOfKeyPart_4 rfl ?_
  refine r_invV dX7_byteOfKeyPart_5 kX7_186 (c_part h28 hk) rfl rfl (by repeat first | exact wu_eq | assumption | (apply wu_ne; first | omega | assumption | (apply Ne.symm; assumption))) rfl rfl ⟨by decide, by decide⟩ (Nat.le_of_ble_eq_true rfl) ⟨by decide, by decide⟩ ⟨rfl, rfl⟩ ?_
  rintro _ _ _ ⟨rfl, rfl, rfl⟩
  refine r_aload_n dX7_byteOfKeyPart_8 rfl ?_
  refine r_iload_n dX7_byteOfKeyPart_9 rfl ?_
  refine r_invV dX7_byteOfKeyPart_10 kX7_112 (c_bytesOfKeyPart h hk) rfl rfl (by repeat first | exact wu_eq | assumption | (apply wu_ne; first | omega | assumption | (apply Ne.symm; assumption))) rfl rfl ⟨by decide, by decide⟩ (Nat.le_of_ble_eq_true rfl) ⟨by decide, by decide⟩ ⟨rfl, rfl⟩ ?_
  rintro _ _ _ ⟨rfl, rfl, rfl⟩
  rw [show (if k < 2 then 2 * half else half) = kw half k from rfl]
  refine r_iconst (v := nI 1) dX7_byteOfKeyPart_13 (by decide) ?_
  first | refine r_isubN dX7_byteOfKeyPart_14 (by omega) ?_ | refine r_isub dX7_byteOfKeyPart_14 ?_
  refine r_iload_n dX7_byteOfKeyPart_15 rfl ?_
  first | refine r_isubN dX7_byteOfKeyPart_16 (by omega) ?_ | refine r_isub dX7_byteOfKeyPart_16 ?_
  refine r_invS dX7_byteOfKeyPart_17 kX7_167 (c_byteAt (n := m) (v := kv n d p q dP dQ qI k) (q := kw half k - 1 - i) hr (by omega) hv (by omega)) rfl rfl ⟨by decide, by decide⟩ (Nat.le_of_ble_eq_true rfl) ⟨by decide, by decide⟩ ⟨rfl, rfl⟩ ?_
  rintro _ _ _ ⟨rfl, rfl, rfl⟩
  refine r_ret (r := (some (.int _))) dX7_byteOfKeyPart_20 (by decide) (by decide) ?_
  exact ⟨rfl, rfl, rfl⟩
