/-! THE CLAIM OUT OF ONE WALK OF THE LAW'S BODY. Your part is whole_start (and what it stands on); all else here is the same for every law, but numbers. -/
def R_law : String := "SignHouseLaw"
def lw_P (b : Addr) (xs : List Int32) (args : Array Value) (s : State) : Prop := args = #[.ref b] ∧ s.IntsAt b xs ∧ xs.length ≤ 2050 ∧ (Jvm.Cond.and given_1 narrow_1).before args s = true
def lw_Q (_ : Array Value) (s : State) (o : Outcome) (t : State) : Prop := o = .returned (some (.int 1)) ∧ Framed s o t [] 600000 7302250
def lw_Z (below : List Frame) (a : Array Value) (s : State) : State → Prop := fun t => ∃ o, t.status = .running ∧ Ended t below o ∧ lw_Q a s o t
/-- the law's own end, with 1 on the stack, nothing written that was there before, its room as the claim has it -/
theorem lw_ret {p : Program} {l : Launch} {e : Env} {s : State} {m : MethodId} {below : List Frame} {meth : Method} {c : Code} {b : Nat} (hx : p.tables.exec = Jvm.exec) (hb : c.code = code) (hr : meth.sig.returnType = ret) (hlocks : meth.locks = false) {pc : Nat} {H : Heap} {ls : Array Slot} (hdg : decode code pc = .ok (.ireturn, 1)) : W p l e room_1 s m #[Value.ref b] below meth c H [] 600000 7302250 (lw_Z below #[Value.ref b] s) (F0 m pc ls [.int 1]) := by
  intro T hT X
  obtain ⟨fs, hret, hrun, hended, hW, hframe⟩ := X.leave (v := some (.int 1)) (hlocks := hlocks) (fun h => by rw [hr] at h; cases h)
  have hmeth' : T.vm.method? m = some meth := X.method'
  refine ⟨T.setFrames fs, ?_, .returned (some (.int 1)), hrun, hended, rfl, ⟨_, rfl⟩, hW, hframe⟩
  jvm_step X.here [X.here.top, hx, hb, hdg, hmeth', hr, ret, narrow_b1]
  (try refine ⟨rfl, ?_⟩); (try refine ⟨rfl, ?_⟩)
  first | (intro acts; rw [hret _ acts rfl rfl rfl]) | rw [hret _ _ rfl rfl rfl]
  exact Steps.refl _
/-- what holds at the law's entry: the machine, the code, the tables' words (any of lw_tbl by 'hts w (by decide +kernel)'), the script of L ints xs at the cell b, what the Statement gives of the start (any of its parts by flat_of_before) -/
def lw_At (p : Program) (s : State) (m : MethodId) (meth : Method) (c : Code) (b L : Nat) (xs : Nat → Int32) : Prop :=
  p.tables.exec = Jvm.exec ∧ c.code = code ∧ meth.sig.returnType = ret ∧ c.maxLocals = 4 ∧ s.vm.findClass R_law = some m.cls ∧ (∀ w ∈ lw_tbl, w.before #[Value.ref b] s = true) ∧ va_X b L xs s s.heap ∧ b < s.heap.size ∧ meth.locks = false ∧ (Jvm.Cond.and given_1 narrow_1).before #[Value.ref b] s = true
/-! SignHouseLaw: the start -/
theorem st_Z {args : Array Value} {s : State} {C n d : String} {ty : FieldType} {N : Nat} {F : Nat → Value} {A : Nat → Prop} {cs : List Cond} (hs : ∀ c ∈ cs, c.before args s = true) (harr : Cond.arrayOf (.static C n d) ty ∈ cs) (hlen : Cond.eq (.length (.static C n d)) (.int (Int32.ofNat N)) ∈ cs) (hel : ∀ j : Nat, j < N → (Term.elem (.static C n d) (.int (Int32.ofNat j))).eval args s none [] s = some (F j)) (hl : (Cond.laysStatic C n d).before args s = true) (hini : (Cond.initialized C).before args s = true) (hN : N < 2 ^ 31) (hA : ∀ a : Nat, a < s.heap.size → ¬ A a) : ∃ t : Nat, va_T ty t N F A s s.heap ∧ va_Z C n d (.ref t) A s s.heap := by
  obtain ⟨t, ht, hT⟩ := va_Tof hN (hs _ harr) (va_eqt (hs _ hlen)) hel hA
  exact ⟨t, hT, va_Zref hl hini ht hA⟩
def csF : List Cond := flatC (Jvm.Cond.and given_1 narrow_1)
theorem in_sH : ∀ j, j < 8 → Cond.eq (.elem (.static "SignHouse$Sha256" "START" "[I") (.int (Int32.ofNat j))) (.int (sH j)) ∈ csF := by decide +kernel
theorem in_sK : ∀ j, j < 64 → Cond.eq (.elem (.static "SignHouse$Sha256" "STEPS" "[I") (.int (Int32.ofNat j))) (.int (sK j)) ∈ csF := by decide +kernel
theorem in_sPr : ∀ j, j < 53 → Cond.eq (.elem (.static "SignHouse$Hunt" "ODD_PRIMES" "[I") (.int (Int32.ofNat j))) (.int (sPr j)) ∈ csF := by decide +kernel
theorem in_sBs : ∀ j, j < 8 → Cond.eq (.elem (.static "SignHouse$Hunt" "BASES" "[I") (.int (Int32.ofNat j))) (.int (sBs j)) ∈ csF := by decide +kernel
theorem in_rJ : ∀ j, j < 1 → Cond.eq (.elem (.static "SignHouse$KeyRows" "E_ROW" "[J") (.int (Int32.ofNat j))) (.long (rJ 65537 j)) ∈ csF := by decide +kernel
theorem in_sHN : ∀ j, j < 19 → Cond.eq (.elem (.static "SignHouse" "HASH_NAME" "[I") (.int (Int32.ofNat j))) (.int (sHN j)) ∈ csF := by decide +kernel
theorem in_arr : (Cond.arrayOf (.static "SignHouse$Sha256" "START" "[I") .int ∈ csF ∧ Cond.eq (.length (.static "SignHouse$Sha256" "START" "[I")) (.int (Int32.ofNat 8)) ∈ csF) ∧ (Cond.arrayOf (.static "SignHouse$Sha256" "STEPS" "[I") .int ∈ csF ∧ Cond.eq (.length (.static "SignHouse$Sha256" "STEPS" "[I")) (.int (Int32.ofNat 64)) ∈ csF) ∧ (Cond.arrayOf (.static "SignHouse$Hunt" "ODD_PRIMES" "[I") .int ∈ csF ∧ Cond.eq (.length (.static "SignHouse$Hunt" "ODD_PRIMES" "[I")) (.int (Int32.ofNat 53)) ∈ csF) ∧ (Cond.arrayOf (.static "SignHouse$Hunt" "BASES" "[I") .int ∈ csF ∧ Cond.eq (.length (.static "SignHouse$Hunt" "BASES" "[I")) (.int (Int32.ofNat 8)) ∈ csF) ∧ (Cond.arrayOf (.static "SignHouse$KeyRows" "E_ROW" "[J") .long ∈ csF ∧ Cond.eq (.length (.static "SignHouse$KeyRows" "E_ROW" "[J")) (.int (Int32.ofNat 1)) ∈ csF) ∧ (Cond.arrayOf (.static "SignHouse" "HASH_NAME" "[I") .int ∈ csF ∧ Cond.eq (.length (.static "SignHouse" "HASH_NAME" "[I")) (.int (Int32.ofNat 19)) ∈ csF) := by decide +kernel
theorem in_lays : Cond.laysStatic "SignHouse$Sha256" "START" "[I" ∈ lw_tbl ∧ Cond.laysStatic "SignHouse$Sha256" "STEPS" "[I" ∈ lw_tbl ∧ Cond.laysStatic "SignHouse$Hunt" "ODD_PRIMES" "[I" ∈ lw_tbl ∧ Cond.laysStatic "SignHouse$Hunt" "BASES" "[I" ∈ lw_tbl ∧ Cond.laysStatic "SignHouse$KeyRows" "E_ROW" "[J" ∈ lw_tbl ∧ Cond.laysStatic "SignHouse" "HASH_NAME" "[I" ∈ lw_tbl := by decide +kernel
theorem in_ini : Cond.initialized "SignHouse$Sha256" ∈ ws0 ∧ Cond.initialized "SignHouse$Hunt" ∈ ws0 ∧ Cond.initialized "SignHouse$KeyRows" ∈ ws0 ∧ Cond.initialized "SignHouse" ∈ ws0 := by decide +kernel
theorem in_nest : ab_n0 ∈ lw_tbl ∧ ab_n1 ∈ lw_tbl ∧ ab_n2 ∈ lw_tbl := by decide +kernel
theorem arr_K {args : Array Value} {s : State} {ty : FieldType} (hp : ∀ C, ty ≠ .object C) (h : (Cond.arrayClass ty).before args s = true) : ∃ cA : ClassId, ArrOfT s cA ty ∧ va_RA s cA ty := by
  obtain ⟨cA, kA, comp, h1, h2, h3⟩ := Cond.arrayClass_spec h
  refine ⟨cA, fun n z => ⟨fun k h => (by cases h), kA, h2, comp, h3⟩, ?_⟩
  cases ty with
  | object C => exact absurd rfl (hp C)
  | _ => exact h1
/-- the world below 7 -/
def gW (L : Nat) (xs : Nat → Int32) : ab_W := fun k => match k with
  | 0 => xI 8 sH
  | 1 => xI 64 sK
  | 2 => xI 53 sPr
  | 3 => xI 8 sBs
  | 4 => xJ 1 (rJ 65537)
  | 5 => xI 19 sHN
  | 6 => xI L xs
  | _ => ab_o
set_option maxHeartbeats 4000000 in
/-- from the entry, for every script of at most 2050 ints, the law comes to its end with true -/
theorem whole_start {p : Program} {e : Env} {s : State} {m : MethodId} {below : List Frame} {meth : Method} {c : Code} (l : Launch) (hflags : l.flags = flags0) {b L : Nat} {xs : Nat → Int32} (hL : L ≤ 2050) (C0 : lw_At p s m meth c b L xs) : W p l e room_1 s m #[Value.ref b] below meth c s.heap [] 0 0 (lw_Z below #[Value.ref b] s) (entryFrame m ([Value.ref b] : List Value).toArray 4) := by
  obtain ⟨hx, hb, hr, hml, hown, hts, hX, hbl, hlocks, hgv⟩ := id C0
  have hw0 : ∀ w ∈ ws0, w.before #[Value.ref b] s = true := fun w hw => hts w (List.mem_filter.mp hw).1
  have hs : ∀ w ∈ csF, w.before #[Value.ref b] s = true := flat_of_before _ hgv
  have hA : ∀ a : Nat, a < s.heap.size → ¬ (fun q : Nat => s.heap.size ≤ q) a := fun a ha => Nat.not_le.mpr ha
  obtain ⟨a0, a1, a2, a3, a4, a5⟩ := in_arr
  obtain ⟨y0, y1, y2, y3, y4, y5⟩ := in_lays
  obtain ⟨i0, i1, i2, i3⟩ := in_ini
  obtain ⟨t0, T0, Z0⟩ := st_Z (A := fun q : Nat => s.heap.size ≤ q) hs a0.1 a0.2 (F := fun j => .int (sH j)) (fun j hj => va_eqt (hs _ (in_sH j hj))) (hts _ y0) (hw0 _ i0) (by decide) hA
  obtain ⟨t1, T1, Z1⟩ := st_Z (A := fun q : Nat => s.heap.size ≤ q) hs a1.1 a1.2 (F := fun j => .int (sK j)) (fun j hj => va_eqt (hs _ (in_sK j hj))) (hts _ y1) (hw0 _ i0) (by decide) hA
  obtain ⟨t2, T2, Z2⟩ := st_Z (A := fun q : Nat => s.heap.size ≤ q) hs a2.1 a2.2 (F := fun j => .int (sPr j)) (fun j hj => va_eqt (hs _ (in_sPr j hj))) (hts _ y2) (hw0 _ i1) (by decide) hA
  obtain ⟨t3, T3, Z3⟩ := st_Z (A := fun q : Nat => s.heap.size ≤ q) hs a3.1 a3.2 (F := fun j => .int (sBs j)) (fun j hj => va_eqt (hs _ (in_sBs j hj))) (hts _ y3) (hw0 _ i1) (by decide) hA
  obtain ⟨t4, T4, Z4⟩ := st_Z (A := fun q : Nat => s.heap.size ≤ q) hs a4.1 a4.2 (F := fun j => .long (rJ 65537 j)) (fun j hj => va_eqtl (hs _ (in_rJ j hj))) (hts _ y4) (hw0 _ i2) (by decide) hA
  obtain ⟨t5, T5, Z5⟩ := st_Z (A := fun q : Nat => s.heap.size ≤ q) hs a5.1 a5.2 (F := fun j => .int (sHN j)) (fun j hj => va_eqt (hs _ (in_sHN j hj))) (hts _ y5) (hw0 _ i3) (by decide) hA
  have T6 : va_T .int b L (fun j => .int (xs j)) (fun q : Nat => s.heap.size ≤ q) s s.heap := by
    obtain ⟨scr, h1, h2, h3, h4, h5⟩ := hX
    exact ⟨scr, h1, h2, h3, Nat.le_of_eq h4.symm, by rw [h4], h5, hA b hbl⟩
  obtain ⟨cI, hI1, hI2⟩ := arr_K (fun C h => by cases h) (hw0 _ arI)
  obtain ⟨cJ, hJ1, hJ2⟩ := arr_K (fun C h => by cases h) (hw0 _ arJ)
  obtain ⟨cB, hB1, hB2⟩ := arr_K (fun C h => by cases h) (hw0 _ arB)
  obtain ⟨c0, k0, n0⟩ := u_known (n := 5) hw0 iwX0 (hw0 _ itX0)
  obtain ⟨c1, k1, n1⟩ := u_known (n := 14) hw0 iwX1 (hw0 _ itX1)
  obtain ⟨c2, k2, n2⟩ := u_known (n := 17) hw0 iwX2 (hw0 _ itX2)
  obtain ⟨c3, k3, n3⟩ := u_known (n := 3) hw0 iwX3 (hw0 _ itX3)
  obtain ⟨c4, k4, n4⟩ := u_known (n := 9) hw0 iwX4 (hw0 _ itX4)
  obtain ⟨c5, k5, n5⟩ := u_known (n := 2) hw0 iwX6 (hw0 _ itX6)
  obtain ⟨c6, k6, n6⟩ := u_known (n := 12) hw0 iwX7 (hw0 _ itX7)
  obtain ⟨c7, k7, n7⟩ := u_known (n := 23) hw0 iwX8 (hw0 _ itX8)
  obtain ⟨dC, dI, hKc⟩ : ∃ (dC : Nat → ClassId) (dI : Nat → Nat → Nat), ∀ (k : Nat) (q : vw_C), vwCl[k]? = some q → u_Kn s q.1 q.2.1 q.2.2 (dC k) (dI k) := by
    refine ⟨fun k => if k = 0 then c0 else if k = 1 then c1 else if k = 2 then c2 else if k = 3 then c3 else if k = 4 then c4 else if k = 5 then c5 else if k = 6 then c6 else c7, fun k => if k = 0 then k0 else if k = 1 then k1 else if k = 2 then k2 else if k = 3 then k3 else if k = 4 then k4 else if k = 5 then k5 else if k = 6 then k6 else k7, ?_⟩
    intro k q hq
    match k, hq with
    | 0, hq => cases hq; exact n0
    | 1, hq => cases hq; exact n1
    | 2, hq => cases hq; exact n2
    | 3, hq => cases hq; exact n3
    | 4, hq => cases hq; exact n4
    | 5, hq => cases hq; exact n5
    | 6, hq => cases hq; exact n6
    | 7, hq => cases hq; exact n7
    | k + 8, hq => simp [vwCl] at hq
  obtain ⟨gE', hE⟩ : ∃ f : Nat → Nat, f 0 = t0 ∧ f 1 = t1 ∧ f 2 = t2 ∧ f 3 = t3 ∧ f 4 = t4 ∧ f 5 = t5 ∧ f 6 = b := ⟨fun k => if k = 0 then t0 else if k = 1 then t1 else if k = 2 then t2 else if k = 3 then t3 else if k = 4 then t4 else if k = 5 then t5 else b, rfl, rfl, rfl, rfl, rfl, rfl, rfl⟩
  obtain ⟨E0, E1, E2, E3, E4, E5, E6⟩ := hE
  let g : ab_G := (l, (dC, dI), (cI, cJ, cB), s.heap.size, gE', gW L xs)
  have hK : ab_K g s := by
    refine ⟨⟨hKc, ?_⟩, ?_, ?_, va_Nw.of rfl (hts _ in_nest.1), va_Nw.of rfl (hts _ in_nest.2.1), va_Nw.of rfl (hts _ in_nest.2.2)⟩
    · intro k q hq
      match k, hq with
      | 0, hq => cases hq; exact ⟨hI1, hI2⟩
      | 1, hq => cases hq; exact ⟨hJ1, hJ2⟩
      | 2, hq => cases hq; exact ⟨hB1, hB2⟩
      | k + 3, hq => simp [gT] at hq
    · intro k hk
      match k, hk with
      | 0, _ => show va_T .int (gE' 0) 8 (fun j => .int (sH j)) _ s s.heap; rw [E0]; exact T0
      | 1, _ => show va_T .int (gE' 1) 64 (fun j => .int (sK j)) _ s s.heap; rw [E1]; exact T1
      | 2, _ => show va_T .int (gE' 2) 53 (fun j => .int (sPr j)) _ s s.heap; rw [E2]; exact T2
      | 3, _ => show va_T .int (gE' 3) 8 (fun j => .int (sBs j)) _ s s.heap; rw [E3]; exact T3
      | 4, _ => show va_T .long (gE' 4) 1 (fun j => .long (rJ 65537 j)) _ s s.heap; rw [E4]; exact T4
      | 5, _ => show va_T .int (gE' 5) 19 (fun j => .int (sHN j)) _ s s.heap; rw [E5]; exact T5
      | 6, _ => show va_T .int (gE' 6) L (fun j => .int (xs j)) _ s s.heap; rw [E6]; exact T6
      | k + 7, hk => exact absurd hk (by omega)
    · intro k hk
      match k, hk with
      | 0, _ => show va_Z "SignHouse$Sha256" "START" "[I" (.ref (gE' 0)) _ s s.heap; rw [E0]; exact Z0
      | 1, _ => show va_Z "SignHouse$Sha256" "STEPS" "[I" (.ref (gE' 1)) _ s s.heap; rw [E1]; exact Z1
      | 2, _ => show va_Z "SignHouse$Hunt" "ODD_PRIMES" "[I" (.ref (gE' 2)) _ s s.heap; rw [E2]; exact Z2
      | 3, _ => show va_Z "SignHouse$Hunt" "BASES" "[I" (.ref (gE' 3)) _ s s.heap; rw [E3]; exact Z3
      | 4, _ => show va_Z "SignHouse$KeyRows" "E_ROW" "[J" (.ref (gE' 4)) _ s s.heap; rw [E4]; exact Z4
      | 5, _ => show va_Z "SignHouse" "HASH_NAME" "[I" (.ref (gE' 5)) _ s s.heap; rw [E5]; exact Z5
      | k + 6, hk => exact absurd hk (by omega)
  have hE : ab_E ML_law g p s m #[Value.ref b] meth c := ⟨hx, hb, hml, hown, hw0, hK, fun h => absurd h (by decide +kernel)⟩
  have hP : ab_P g 7 (gW L xs) s.heap := ⟨Nat.le_refl 7, rfl, fun k h1 h2 => absurd h2 (by omega), fun k hk => rfl, fun k hk => by
    obtain ⟨j, rfl⟩ : ∃ j, k = j + 7 := ⟨k - 7, by omega⟩
    rfl⟩
  have hl := lv_entry ([.ref b]) (n := 4) (Nat.le_of_ble_eq_true rfl)
  rw [lg_entry_eq]
  generalize (lg_sl ([.ref b]) ++ List.replicate (4 - (lg_sl ([.ref b])).length) Slot.unset).toArray = ls at hl ⊢
  have hl : lv_has ls 4 (cl g [(0, .ref 6)]) := by
    show lv_has ls 4 [(0, .ref (ad g 6))]
    rw [ad_lt (by decide), show gE g 6 = b from E6]
    exact hl
  refine c_law (g := g) (L := L) (xs := xs) (w := gW L xs) rfl rfl hL ⟨rfl, rfl, rfl, rfl, rfl, rfl⟩ p e s m #[Value.ref b] below meth c _ s.heap [] ls hE ?_ hP va_S.rf hl
  intro r N w H locs ls uc us pc hQ hc hsl hP2 hS hd
  obtain rfl : r = some (.int (nI 1)) := hQ
  refine va_forget (fun q hq => hS.2.2 q hq) ?_
  refine W.widen hc hsl ?_
  exact lw_ret hx hb hr hlocks hd
