/-! THE JUDGEMENT. A world of ours is a function from numbers to cells; a reference is a number; numbers below 7 name cells that nobody writes (the six static rows, the script). ab_St says of an abstract state of a method that the machine, wherever it stands there, comes to the method's return with Q. -/
abbrev ab_C : Type := (FieldType × Nat × ((Nat → Int32) ⊕ (Nat → Int64))) ⊕ (Nat × List Value)
abbrev ab_W : Type := Nat → ab_C
abbrev aI (n : Nat) (f : Nat → Int32) : ab_C := .inl (.int, n, .inl f)
abbrev aB (n : Nat) (f : Nat → Int32) : ab_C := .inl (.byte, n, .inl f)
abbrev aJ (n : Nat) (f : Nat → Int64) : ab_C := .inl (.long, n, .inr f)
abbrev aO (ci : Nat) (fs : List Value) : ab_C := .inr (ci, fs)
def wu (w : ab_W) (k : Nat) (c : ab_C) : ab_W := fun j => if j = k then c else w j
/-- the launch; classes and slots; the array classes (int, long, byte); the first address of ours; the addresses below 7 and what lies there -/
abbrev ab_G : Type := Launch × va_G × (ClassId × ClassId × ClassId) × Nat × (Nat → Nat) × ab_W
abbrev gL (g : ab_G) : Launch := g.1
abbrev gD (g : ab_G) : va_G := g.2.1
abbrev gI (g : ab_G) : ClassId := g.2.2.1.1
abbrev gJ (g : ab_G) : ClassId := g.2.2.1.2.1
abbrev gB (g : ab_G) : ClassId := g.2.2.1.2.2
abbrev gZ (g : ab_G) : Nat := g.2.2.2.1
abbrev gE (g : ab_G) : Nat → Nat := g.2.2.2.2.1
abbrev gX (g : ab_G) : ab_W := g.2.2.2.2.2
abbrev gT (g : ab_G) : List (ClassId × FieldType) := [(gI g, .int), (gJ g, .long), (gB g, .byte)]
def gA (g : ab_G) : Nat → Prop := fun q => gZ g ≤ q
def ad (g : ab_G) (k : Nat) : Nat := if k < 7 then gE g k else gZ g + (k - 7)
def cv (g : ab_G) : Value → Value
  | .ref k => .ref (ad g k)
  | .int v => .int v
  | .long v => .long v
  | v => v
def ce (g : ab_G) : ab_C → va_E
  | .inl (.byte, n, .inl f) => .inl (gB g, n, .inl f)
  | .inl (_, n, .inl f) => .inl (gI g, n, .inl f)
  | .inl (_, n, .inr f) => .inl (gJ g, n, .inr (.inl f))
  | .inr (ci, fs) => .inr (ci, fs.map (cv g))
def cl (g : ab_G) (L : List (Nat × Value)) : List (Nat × Value) := L.map (fun q => (q.1, cv g q.2))
theorem cv_cat (g : ab_G) (v : Value) : (cv g v).category = v.category := by cases v <;> rfl
theorem cv_cats (g : ab_G) (S : List Value) : ((S.map (cv g)).map fun v => v.category) = S.map fun v => v.category := by
  rw [List.map_map]
  exact List.map_congr_left fun v _ => cv_cat g v
theorem ad_lt {g : ab_G} {k : Nat} (h : k < 7) : ad g k = gE g k := if_pos h
theorem ad_ge {g : ab_G} {k : Nat} (h : 7 ≤ k) : ad g k = gZ g + (k - 7) := if_neg (by omega)
theorem ad_inj {g : ab_G} {i j : Nat} (hi : 7 ≤ i) (hj : 7 ≤ j) (h : ad g i = ad g j) : i = j := by
  rw [ad_ge hi, ad_ge hj] at h
  omega
/-- an array that nobody writes: its kind is char for ints, short for longs -/
def ab_X (g : ab_G) (k : Nat) (U : State) : Prop := match gX g k with
  | .inl (.char, n, .inl f) => va_T .int (gE g k) n (fun j => .int (f j)) (gA g) U U.heap
  | .inl (.short, n, .inr f) => va_T .long (gE g k) n (fun j => .long (f j)) (gA g) U U.heap
  | _ => False
def xI (n : Nat) (f : Nat → Int32) : ab_C := .inl (.char, n, .inl f)
def xJ (n : Nat) (f : Nat → Int64) : ab_C := .inl (.short, n, .inr f)
/-- the six static fields -/
def ab_S : Nat → String × String × String
  | 0 => ("SignHouse$Sha256", "START", "[I")
  | 1 => ("SignHouse$Sha256", "STEPS", "[I")
  | 2 => ("SignHouse$Hunt", "ODD_PRIMES", "[I")
  | 3 => ("SignHouse$Hunt", "BASES", "[I")
  | 4 => ("SignHouse$KeyRows", "E_ROW", "[J")
  | _ => ("SignHouse", "HASH_NAME", "[I")
def ab_n0 : Cond := .methodLinkNest "SignHouse" 30 ⟨"SignHouse$Draw", "<init>", "()V"⟩ "SignHouse"
def ab_n1 : Cond := .methodLinkNest "SignHouse$Draw" 17 ⟨"SignHouse$Sha256", "<init>", "()V"⟩ "SignHouse"
def ab_n2 : Cond := .methodLinkNest "SignHouse$Message" 15 ⟨"SignHouse$Sha256", "<init>", "()V"⟩ "SignHouse"
/-- what the tables say, and the cells that nobody writes -/
def ab_K (g : ab_G) (U : State) : Prop := va_K (gD g) vwCl (gT g) U ∧ (∀ k, k < 7 → ab_X g k U) ∧ (∀ k, k < 6 → va_Z (ab_S k).1 (ab_S k).2.1 (ab_S k).2.2 (.ref (gE g k)) (gA g) U U.heap) ∧ va_Nw ab_n0 U ∧ va_Nw ab_n1 U ∧ va_Nw ab_n2 U
theorem ab_K.moved {g : ab_G} {s U : State} {locs : List Loc} (hW : s.WarmedH U.vm) (hS : va_S (gA g) s.heap U.heap locs) (h : ab_K g s) : ab_K g U := by
  obtain ⟨h1, h2, h3, h4, h5, h6⟩ := h
  refine ⟨va_K.moved hW.alike h1, fun k hk => ?_, fun k hk => ((h3 k hk).moved hW.alike).kept hS.2.1, h4.warmM hW, h5.warmM hW, h6.warmM hW⟩
  have h := h2 k hk
  unfold ab_X at h ⊢
  split at h
  · exact (h.moved hW.alike).kept hS.2.1
  · exact (h.moved hW.alike).kept hS.2.1
  · exact h.elim
/-- the heap holds the world of the numbers below N -/
def ab_o : ab_C := .inr (99, [])
def ab_P (g : ab_G) (N : Nat) (w : ab_W) (H : Heap) : Prop := 7 ≤ N ∧ H.size = gZ g + (N - 7) ∧ (∀ k, 7 ≤ k → k < N → va_at (gD g) vwCl (ad g k, ce g (w k)) H) ∧ (∀ k, k < 7 → w k = gX g k) ∧ ∀ k, N ≤ k → w k = ab_o
def ab_l (g : ab_G) (N : Nat) (w : ab_W) : va_W := (List.range (N - 7)).map fun i => (ad g (i + 7), ce g (w (i + 7)))
theorem ab_l_at {g : ab_G} {N k : Nat} {w : ab_W} (h : 7 ≤ k) (hN : k < N) : (ab_l g N w)[k - 7]? = some (ad g k, ce g (w k)) := by
  unfold ab_l
  rw [List.getElem?_map, List.getElem?_range (by omega)]
  show some (ad g (k - 7 + 7), ce g (w (k - 7 + 7))) = _
  rw [show k - 7 + 7 = k by omega]
theorem ab_l_of {g : ab_G} {N i : Nat} {w : ab_W} {q : Nat × va_E} (h : (ab_l g N w)[i]? = some q) : i + 7 < N ∧ q = (ad g (i + 7), ce g (w (i + 7))) := by
  unfold ab_l at h
  rw [List.getElem?_map] at h
  by_cases hi : i < N - 7
  · rw [List.getElem?_range hi] at h
    exact ⟨by omega, (Option.some.inj h).symm⟩
  · rw [List.getElem?_eq_none (by simpa using hi)] at h
    cases h
theorem ab_P.P {g : ab_G} {N : Nat} {w : ab_W} {H : Heap} (h : ab_P g N w H) : va_P (gD g) vwCl (ab_l g N w) H := by
  intro i q hq
  obtain ⟨h1, rfl⟩ := ab_l_of hq
  exact h.2.2.1 _ (by omega) h1
theorem ab_l_D (g : ab_G) (N : Nat) (w : ab_W) : va_D (gA g) (ab_l g N w) := by
  refine ⟨fun i j p q hp hq he => ?_, fun i q hq => ?_⟩
  · obtain ⟨h1, rfl⟩ := ab_l_of hp
    obtain ⟨h2, rfl⟩ := ab_l_of hq
    have := ad_inj (g := g) (i := i + 7) (j := j + 7) (by omega) (by omega) he
    omega
  · obtain ⟨h1, rfl⟩ := ab_l_of hq
    show gZ g ≤ ad g (i + 7)
    rw [ad_ge (by omega)]
    omega
theorem ab_P.set {g : ab_G} {N k : Nat} {w : ab_W} {H H1 : Heap} {c : ab_C} (h : ab_P g N w H) (hk : 7 ≤ k) (hN : k < N) (hc : va_at (gD g) vwCl (ad g k, ce g c) H1) (hz : H1.size = H.size) (ho : ∀ q, q ≠ ad g k → H1[q]? = H[q]?) : ab_P g N (wu w k c) H1 := by
  obtain ⟨a1, a2, a3, a4, a5⟩ := h
  refine ⟨a1, by rw [hz]; exact a2, fun j hj hjN => ?_, fun j hj => ?_, fun j hj => ?_⟩
  · unfold wu
    by_cases e : j = k
    · rw [if_pos e, e]
      exact hc
    · rw [if_neg e]
      exact (a3 j hj hjN).kept (ho _ fun z => e (ad_inj hj hk z))
  · unfold wu
    rw [if_neg (by omega)]
    exact a4 j hj
  · unfold wu
    rw [if_neg (by omega)]
    exact a5 j hj
theorem ab_P.push {g : ab_G} {N : Nat} {w : ab_W} {H H1 : Heap} {c : ab_C} (h : ab_P g N w H) (hc : va_at (gD g) vwCl (ad g N, ce g c) H1) (hz : H1.size = H.size + 1) (ho : ∀ q, q < H.size → H1[q]? = H[q]?) : ab_P g (N + 1) (wu w N c) H1 := by
  obtain ⟨a1, a2, a3, a4, a5⟩ := h
  refine ⟨by omega, by omega, fun j hj hjN => ?_, fun j hj => ?_, fun j hj => ?_⟩
  · unfold wu
    by_cases e : j = N
    · rw [if_pos e, e]
      exact hc
    · rw [if_neg e]
      exact (a3 j hj (by omega)).kept (ho _ (a3 j hj (by omega)).lt)
  · unfold wu
    rw [if_neg (by omega)]
    exact a4 j hj
  · unfold wu
    rw [if_neg (by omega)]
    exact a5 j (by omega)
theorem ab_P.top {g : ab_G} {N : Nat} {w : ab_W} {H : Heap} (h : ab_P g N w H) : ad g N = H.size := by
  rw [ad_ge h.1, h.2.1]
/-- a cell of a kind that is written is one of ours -/
theorem ab_own {g : ab_G} {U : State} {N k : Nat} {w : ab_W} {H : Heap} (h : ab_P g N w H) (hK : ab_K g U) (h1 : ∀ n f, w k ≠ .inl (.char, n, .inl f)) (h2 : ∀ n f, w k ≠ .inl (.short, n, .inr f)) (h3 : w k ≠ ab_o) : 7 ≤ k ∧ k < N := by
  constructor
  · refine Nat.le_of_not_lt fun hk => ?_
    have hx := hK.2.1 k hk
    unfold ab_X at hx
    rw [← h.2.2.2.1 k hk] at hx
    split at hx
    · rename_i e
      exact h1 _ _ e
    · rename_i e
      exact h2 _ _ e
    · exact hx
  · refine Nat.lt_of_not_le fun hk => ?_
    exact h3 (h.2.2.2.2 k hk)
/-- what is read of an array -/
def rdI : ab_C → Option (Nat × (Nat → Int32))
  | .inl (.int, n, .inl f) => some (n, f)
  | .inl (.char, n, .inl f) => some (n, f)
  | _ => none
def rdJ : ab_C → Option (Nat × (Nat → Int64))
  | .inl (.long, n, .inr f) => some (n, f)
  | .inl (.short, n, .inr f) => some (n, f)
  | _ => none
def rdL : ab_C → Option Nat
  | .inl (.int, n, .inl _) => some n
  | .inl (.byte, n, .inl _) => some n
  | .inl (.char, n, .inl _) => some n
  | .inl (.long, n, .inr _) => some n
  | .inl (.short, n, .inr _) => some n
  | _ => none
theorem rdI_of {c : ab_C} {n : Nat} {f : Nat → Int32} (h : rdI c = some (n, f)) : c = aI n f ∨ c = xI n f := by
  unfold rdI at h
  split at h
  · cases h; exact Or.inl rfl
  · cases h; exact Or.inr rfl
  · cases h
theorem rdJ_of {c : ab_C} {n : Nat} {f : Nat → Int64} (h : rdJ c = some (n, f)) : c = aJ n f ∨ c = xJ n f := by
  unfold rdJ at h
  split at h
  · cases h; exact Or.inl rfl
  · cases h; exact Or.inr rfl
  · cases h
theorem own_I {g : ab_G} {U : State} {N k n : Nat} {f : Nat → Int32} {w : ab_W} {H : Heap} (h : ab_P g N w H) (hK : ab_K g U) (e : w k = aI n f) : 7 ≤ k ∧ k < N := ab_own h hK (fun _ _ z => by rw [e] at z; cases z) (fun _ _ z => by rw [e] at z; cases z) (fun z => by rw [e] at z; cases z)
theorem own_B {g : ab_G} {U : State} {N k n : Nat} {f : Nat → Int32} {w : ab_W} {H : Heap} (h : ab_P g N w H) (hK : ab_K g U) (e : w k = aB n f) : 7 ≤ k ∧ k < N := ab_own h hK (fun _ _ z => by rw [e] at z; cases z) (fun _ _ z => by rw [e] at z; cases z) (fun z => by rw [e] at z; cases z)
theorem own_J {g : ab_G} {U : State} {N k n : Nat} {f : Nat → Int64} {w : ab_W} {H : Heap} (h : ab_P g N w H) (hK : ab_K g U) (e : w k = aJ n f) : 7 ≤ k ∧ k < N := ab_own h hK (fun _ _ z => by rw [e] at z; cases z) (fun _ _ z => by rw [e] at z; cases z) (fun z => by rw [e] at z; cases z)
theorem own_O {g : ab_G} {U : State} {N k ci : Nat} {fs : List Value} {w : ab_W} {H : Heap} {q : vw_C} (h : ab_P g N w H) (hK : ab_K g U) (e : w k = aO ci fs) (hc : vwCl[ci]? = some q) : 7 ≤ k ∧ k < N := ab_own h hK (fun _ _ z => by rw [e] at z; cases z) (fun _ _ z => by rw [e] at z; cases z) (fun z => by rw [e] at z; cases z; cases hc)
theorem own_xI {g : ab_G} {U : State} {N k n : Nat} {f : Nat → Int32} {w : ab_W} {H : Heap} (h : ab_P g N w H) (hK : ab_K g U) (e : w k = xI n f) : (7 ≤ k ∧ k < N) ∨ (k < 7 ∧ va_T .int (gE g k) n (fun j => .int (f j)) (gA g) U U.heap) := by
  by_cases hk : k < 7
  · right
    refine ⟨hk, ?_⟩
    have hx := hK.2.1 k hk
    unfold ab_X at hx
    rw [← h.2.2.2.1 k hk, e] at hx
    exact hx
  · left
    refine ⟨by omega, Nat.lt_of_not_le fun hN => ?_⟩
    have z := h.2.2.2.2 k hN
    rw [e] at z
    cases z
theorem own_xJ {g : ab_G} {U : State} {N k n : Nat} {f : Nat → Int64} {w : ab_W} {H : Heap} (h : ab_P g N w H) (hK : ab_K g U) (e : w k = xJ n f) : (7 ≤ k ∧ k < N) ∨ (k < 7 ∧ va_T .long (gE g k) n (fun j => .long (f j)) (gA g) U U.heap) := by
  by_cases hk : k < 7
  · right
    refine ⟨hk, ?_⟩
    have hx := hK.2.1 k hk
    unfold ab_X at hx
    rw [← h.2.2.2.1 k hk, e] at hx
    exact hx
  · left
    refine ⟨by omega, Nat.lt_of_not_le fun hN => ?_⟩
    have z := h.2.2.2.2 k hN
    rw [e] at z
    cases z
/-- the words of every method -/
def ws0 : List Cond := lw_tbl.filter goodWord
theorem in0 {c : Cond} (i : Nat) (h : lw_tbl[i]? = some c) (hg : goodWord c = true) : c ∈ ws0 := List.mem_filter.mpr ⟨List.mem_of_getElem? h, hg⟩
theorem ws0_good : ∀ c ∈ ws0, goodWord c = true := fun _ h => (List.mem_filter.mp h).2
/-- a method: name, code, locals, return type, room -/
abbrev ab_M : Type := MethodName × ByteArray × Nat × Option FieldType × Room
abbrev mY (μ : ab_M) : MethodName := μ.1
abbrev mC (μ : ab_M) : ByteArray := μ.2.1
abbrev mN (μ : ab_M) : Nat := μ.2.2.1
abbrev mR (μ : ab_M) : Option FieldType := μ.2.2.2.1
abbrev mZ (μ : ab_M) : Room := μ.2.2.2.2
def mW (μ : ab_M) : List Cond := Cond.code (mY μ) (mC μ) (mN μ) (mR μ) :: ws0
def ab_E (μ : ab_M) (g : ab_G) (p : Program) (s : State) (m : MethodId) (args : Array Value) (meth : Method) (c : Code) : Prop :=
  p.tables.exec = Jvm.exec ∧ c.code = mC μ ∧ c.maxLocals = mN μ ∧ s.vm.findClass (mY μ).cls = some m.cls ∧ (∀ w ∈ ws0, w.before args s = true) ∧ ab_K g s ∧ ((mY μ).name = "<init>" → meth.name = "<init>")
def ab_r (b : ByteArray) (pc : Nat) : Option Value → Prop
  | none => decode b pc = .ok (.return_, 1)
  | some (.int _) => decode b pc = .ok (.ireturn, 1)
  | some (.long _) => decode b pc = .ok (.lreturn, 1)
  | some (.ref _) => decode b pc = .ok (.areturn, 1)
  | _ => False
def rs : Option Value → List Value → List Value
  | none, S => S
  | some v, S => v :: S
abbrev ab_Q : Type := Option Value → Nat → ab_W → Prop
def ab_R (μ : ab_M) (g : ab_G) (p : Program) (e : Env) (s : State) (m : MethodId) (args : Array Value) (below : List Frame) (meth : Method) (c : Code) (Z : State → Prop) (Q : ab_Q) : Prop :=
  ∀ (r : Option Value) (N : Nat) (w : ab_W) (H : Heap) (locs : List Loc) (ls : Array Slot) (uc us pc : Nat), Q r N w → uc ≤ (mZ μ).cells → us ≤ (mZ μ).slots → ab_P g N w H → va_S (gA g) s.heap H locs → ab_r (mC μ) pc r →
    W p (gL g) e (mZ μ) s m args below meth c H locs uc us Z (F0 m pc ls (rs (r.map (cv g)) []))
def ab_St (μ : ab_M) (g : ab_G) (uc us pc : Nat) (L : List (Nat × Value)) (S : List Value) (N : Nat) (w : ab_W) (Q : ab_Q) : Prop :=
  ∀ (p : Program) (e : Env) (s : State) (m : MethodId) (args : Array Value) (below : List Frame) (meth : Method) (c : Code) (Z : State → Prop) (H : Heap) (locs : List Loc) (ls : Array Slot),
    ab_E μ g p s m args meth c → ab_R μ g p e s m args below meth c Z Q → ab_P g N w H → va_S (gA g) s.heap H locs → lv_has ls (mN μ) (cl g L) →
    W p (gL g) e (mZ μ) s m args below meth c H locs uc us Z (F0 m pc ls (S.map (cv g)))
def ab_pre (g : ab_G) (as : List Value) (N : Nat) (w : ab_W) : Array Value → State → Prop := va_Pc (as.map (cv g)) (fun U => ab_P g N w U.heap ∧ ab_K g U)
def ab_post (g : ab_G) (Q : ab_Q) : Array Value → State → Outcome → State → Prop := fun _ st oc t => (∃ (r : Option Value) (N : Nat) (w : ab_W), oc = .returned (r.map (cv g)) ∧ Q r N w ∧ ab_P g N w t.heap) ∧ va_F (gA g) st t
/-- a method's contract -/
def ab_Ct (μ : ab_M) (g : ab_G) (as : List Value) (N : Nat) (w : ab_W) (Q : ab_Q) : Prop := Met (gL g) (mY μ) (mW μ) (mZ μ) (ab_pre g as N w) (ab_post g Q) (mZ μ).cells (mZ μ).slots (gA g)
/-- what a method answers: by its return type -/
def ab_k : Option FieldType → Option Value → Prop
  | none, none => True
  | some .int, some (.int _) => True
  | some .boolean, some (.int v) => v = 0 ∨ v = 1
  | some .long, some (.long _) => True
  | some (.array _), some (.ref _) => True
  | _, _ => False
theorem lv_argsmap (g : ab_G) : ∀ (as : List Value) (i : Nat), lv_args i (as.map (cv g)) = cl g (lv_args i as)
  | [], _ => rfl
  | v :: r, i => by
    show lv_args i (cv g v :: r.map (cv g)) = _
    simp only [lv_args, cv_cat, lv_argsmap g r]
    rfl
theorem lg_sl_len (g : ab_G) (as : List Value) : (lg_sl (as.map (cv g))).length = (lg_sl as).length := by
  induction as with
  | nil => rfl
  | cons v r ih =>
    simp only [lg_sl, List.map_cons, List.flatMap_cons, List.length_append, cv_cat] at ih ⊢
    rw [ih]
    congr 1
    split <;> rfl
theorem ab_Ct.of {μ : ab_M} {g : ab_G} {as : List Value} {N : Nat} {w : ab_W} {Q : ab_Q} (hy : plainName (mY μ).cls = true) (hlen : (lg_sl as).length ≤ mN μ) (hk : ∀ r N w, Q r N w → ab_k (mR μ) r) (h : ab_St μ g 0 0 0 (lv_args 0 as) [] N w Q) : ab_Ct μ g as N w Q := by
  refine Met.ofW (cc := mC μ) (maxL := mN μ) (ret := mR μ) hy rfl ?_
  intro p e s m args below meth c s₁ B hml hv
  obtain ⟨rfl, hP, hK⟩ := hv
  have E : ab_E μ g p s m (as.map (cv g)).toArray meth c := ⟨B.exec, B.bytes, hml, findClass_of_methodNamed B.named, fun w hw => atoms_spec (ws := mW μ) B.pre w (List.mem_cons_of_mem _ hw), hK, fun h => by rw [(name_of_methodNamed B.named B.method).1]; exact h⟩
  rw [lg_entry_eq]
  have hl := lv_entry (as.map (cv g)) (n := mN μ) (by rw [lg_sl_len]; exact hlen)
  rw [lv_argsmap] at hl
  refine h p e s m _ below meth c _ s.heap [] _ E ?_ hP va_S.rf hl
  intro r N' w' H locs ls uc us pc hQ hc hs hP' hS hd
  have hkr := hk _ _ _ hQ
  refine W.widen hc hs ?_
  have hend : ∀ t : State, t.heap = H → s.WarmedH t.vm → ab_post g Q (as.map (cv g)).toArray s (.returned (r.map (cv g))) t := fun t ht hW => ⟨⟨r, N', w', rfl, hQ, by rw [ht]; exact hP'⟩, hS.F ht⟩
  have hret := B.returns
  have hlk := B.notSynchronized
  rcases r with _ | v
  · cases hrt : mR μ with
    | none => exact W.vret B.exec B.bytes (hret.trans hrt) hend hS.2.2 hd hlk
    | some ty => rw [hrt] at hkr; cases ty <;> exact hkr.elim
  · cases hrt : mR μ with
    | none => rw [hrt] at hkr; exact hkr.elim
    | some ty =>
      rw [hrt] at hkr
      cases v with
      | int v =>
        cases ty with
        | int => exact W.iret B.exec B.bytes (hret.trans hrt) hend hS.2.2 hd hlk
        | boolean => exact W.zret (ty := .boolean) B.exec B.bytes (hret.trans hrt) (by rcases hkr with rfl | rfl <;> rfl) hend hS.2.2 hd hlk
        | _ => exact hkr.elim
      | long v =>
        cases ty with
        | long => exact W.lret B.exec B.bytes (hret.trans hrt) hend hS.2.2 hd hlk
        | _ => exact hkr.elim
      | ref v =>
        cases ty with
        | array t => exact W.aret B.exec B.bytes (hret.trans hrt) (Or.inr ⟨_, rfl⟩) (Or.inr ⟨_, rfl⟩) hend hS.2.2 hd hlk
        | _ => exact hkr.elim
      | _ => cases ty <;> exact hkr.elim
