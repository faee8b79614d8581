/-! THE RULES of fields, new objects and arrays, calls -/
/-- a field's access: the class by its place, the field by its slot -/
def ab_F (own : String) (idx ci k : Nat) (C : String) (T : u_T) (n : Nat) (ty : Nat → FieldType) : Prop :=
  vwCl[ci]? = some (C, T, n) ∧ k < n ∧ (∀ c ∈ u_ws C T n, c ∈ ws0) ∧ (∀ j, j < n → parseFieldDescriptor (T j).2.2.1 = some (ty j)) ∧ (∀ a, a < n → ∀ b, b < n → a ≠ b → (T a).2.1 ≠ (T b).2.1) ∧ Cond.fieldLink own idx (T k).1 (T k).2.1 (T k).2.2.1 ∈ ws0
def ab_L (own : String) (idx : Nat) (μ' : ab_M) (n : Nat) : Prop :=
  Cond.methodLink own idx (mY μ') ∈ ws0 ∧ Cond.code (mY μ') (mC μ') (mN μ') (mR μ') ∈ ws0 ∧ Cond.initialized (mY μ').cls ∈ ws0 ∧ ((mY μ').cls ≠ "java/lang/invoke/MethodHandle" ∧ (mY μ').cls ≠ "java/lang/invoke/VarHandle") ∧ (parseMethodDescriptor (mY μ').desc).map (fun d => d.parameters.length) = some n
def ab_V (own : String) (idx : Nat) (μ' : ab_M) (n : Nat) : Prop := ab_L own idx μ' n ∧ Cond.instanceMethod (mY μ') ∈ ws0 ∧ Cond.selects (mY μ').cls (mY μ') (mY μ') ∈ ws0
def ab_T (own : String) (idx : Nat) (μ' : ab_M) (n : Nat) : Prop := ab_L own idx μ' n ∧ Cond.static (mY μ') ∈ ws0
def ab_I (own : String) (idx : Nat) (μ' : ab_M) (n : Nat) : Prop := ab_L own idx μ' n ∧ (mY μ').name = "<init>" ∧ Cond.instanceMethod (mY μ') ∈ ws0
def ab_nest : Nat → Cond
  | 0 => ab_n0
  | 1 => ab_n1
  | _ => ab_n2
def ab_N (own : String) (idx q : Nat) (μ' : ab_M) (n : Nat) : Prop :=
  Cond.methodLinkNest own idx (mY μ') "SignHouse" = ab_nest q ∧ Cond.code (mY μ') (mC μ') (mN μ') (mR μ') ∈ ws0 ∧ Cond.initialized (mY μ').cls ∈ ws0 ∧ ((mY μ').cls ≠ "java/lang/invoke/MethodHandle" ∧ (mY μ').cls ≠ "java/lang/invoke/VarHandle") ∧ (parseMethodDescriptor (mY μ').desc).map (fun d => d.parameters.length) = some n ∧ (mY μ').name = "<init>" ∧ Cond.instanceMethod (mY μ') ∈ ws0
def ab_Rm (μ μ' : ab_M) : Prop := (mZ μ').frames + 1 ≤ (mZ μ).frames ∧ 8 + (mN μ' + 11) + (mZ μ').locals ≤ (mZ μ).locals
theorem mW_good {μ' : ab_M} (h : Cond.code (mY μ') (mC μ') (mN μ') (mR μ') ∈ ws0) : GoodIn ws0 (mW μ') := by
  intro c hc
  have hm : c ∈ ws0 := by
    rcases List.mem_cons.mp hc with rfl | hc
    · exact h
    · exact hc
  exact ⟨hm, good_of_word (ws0_good c hm)⟩
theorem ab_B {s : State} {args : Array Value} {own : String} {idx n : Nat} {μ μ' : ab_M} (hts : ∀ c ∈ ws0, c.before args s = true) (h : ab_L own idx μ' n) (hR : ab_Rm μ μ') : CallB (mZ μ) s args own idx (mY μ') (mC μ') (mN μ') (mR μ') (mW μ') (mZ μ') (mZ μ').cells (mZ μ').slots n := by
  obtain ⟨h1, h2, h3, h4, h5⟩ := h
  refine ⟨rfl, rfl, hR.1, hR.2, pay_in hts (mW_good h2), List.mem_cons_self, hts _ h2, hts _ h3, h4, fun sig hs => ?_, hts _ h1⟩
  rw [hs] at h5
  exact (Option.some.inj h5).symm
theorem ab_blind (g : ab_G) (as : List Value) (N : Nat) (w : ab_W) : FrameBlind (ab_pre g as N w) := by
  intro a U fr mk h
  obtain ⟨h1, h2, h3⟩ := h
  exact ⟨h1, h2, ab_K.moved (U := U.calling fr mk a) (locs := []) (State.WarmedH.refl U) va_S.rf h3⟩
section RULES2
variable {μ : ab_M} {g : ab_G} {uc us pc N : Nat} {L : List (Nat × Value)} {S : List Value} {w : ab_W} {Q : ab_Q}
theorem r_getf {idx ci k n : Nat} {C : String} {T : u_T} {ty : Nat → FieldType} {a : Nat} {fs : List Value} {v : Value} (d : decode (mC μ) pc = .ok (.getfield idx, 3)) (hF : ab_F (mY μ).cls idx ci k C T n ty) (hw : w a = aO ci fs) (hv : fs[k]? = some v) (kk : ab_St μ g uc us (pc + 3) L (v :: S) N w Q) : ab_St μ g uc us pc L (.ref a :: S) N w Q := by
  intro p e s m args below meth c Z H locs ls E R hP hS hl
  obtain ⟨f1, f2, f3, f4, f5, f6⟩ := hF
  obtain ⟨h3, h4⟩ := own_O hP E.2.2.2.2.2.1 hw f1
  have he := ab_l_at (g := g) (w := w) h3 h4
  rw [hw] at he
  exact va_get E.1 E.2.1 E.2.2.2.2.1 f3 E.2.2.2.1 E.2.2.2.2.2.1.1 hP.P (a - 7) (fs := fs.map (cv g)) he f1 k f2 (E.2.2.2.2.1 _ f6) (fun _ h => h) (v := cv g v) (by rw [List.getElem?_map, hv]; rfl) d (kk p e s m args below meth c Z H locs ls E R hP hS hl)
theorem r_putf {idx ci k n : Nat} {C : String} {T : u_T} {ty : Nat → FieldType} {a : Nat} {fs : List Value} {v : Value} (d : decode (mC μ) pc = .ok (.putfield idx, 3)) (hF : ab_F (mY μ).cls idx ci k C T n ty) (hw : w a = aO ci fs) (hfin : (T k).2.2.2 = false) (hlen : k < fs.length) (hn : narrow (ty k) (cv g v) = cv g v) (hfit : fits (ty k) (cv g v) = true) (kk : ab_St μ g uc us (pc + 3) L S N (wu w a (aO ci (fs.set k v))) Q) : ab_St μ g uc us pc L (v :: .ref a :: S) N w Q := by
  intro p e s m args below meth c Z H locs ls E R hP hS hl
  obtain ⟨f1, f2, f3, f4, f5, f6⟩ := hF
  obtain ⟨h3, h4⟩ := own_O hP E.2.2.2.2.2.1 hw f1
  have hts := E.2.2.2.2.1
  have hK := E.2.2.2.2.2.1.1
  have hap := va_apart (own := (mY μ).cls) hts f3 ty f4 f5 hK f1
  have hat := hP.2.2.1 a h3 h4
  rw [hw] at hat
  obtain ⟨r, h1, cell, q1, q2, q3, q4⟩ := hat
  have hr : r = (C, T, n) := Option.some.inj (h1.symm.trans f1)
  subst hr
  obtain ⟨hSl, hfc, kC, hkC, hkind⟩ := hK.1 ci _ f1
  obtain ⟨cf, kf, fi, f, hi, hsl⟩ := hSl k f2
  have hlay := hts _ (f3 _ (u_in_lay f2))
  unfold u_lay at hlay
  rw [if_neg (by rw [hfin]; decide)] at hlay
  have hst := (u_facts hfc hkC (u_lays hts f3 f2) hi).1
  have h6 := u_store hfc hkC hkind hlay hi (f4 k f2) hn hfit
  refine W.putK E.1 E.2.1 (f := f) ⟨E.2.2.2.1, hts _ f6, ⟨_, _, _, hi⟩, hst⟩ (by rw [q2]; exact h6) q1 q3 (by rw [hsl]; exact k2_hasslot (q4 k f2)) rfl rfl d fun H' e1 e2 e3 => ?_
  rw [hsl] at e1 ⊢
  have hmap : (fs.set k v).map (cv g) = (fs.map (cv g)).set k (cv g v) := List.map_set
  refine kk p e s m args below meth c Z H' _ ls E R (hP.set h3 h4 ?_ e2 e3) (hS.put e2 e3 (by show gZ g ≤ ad g a; rw [ad_ge h3]; omega)) hl
  show va_at (gD g) vwCl (ad g a, .inr (ci, (fs.set k v).map (cv g))) H'
  rw [hmap]
  exact ⟨_, f1, t_OB.to (V := updV (vp_V (fs.map (cv g))) k (cv g v)) ⟨_, e1, q2, q3, t_set q4 hap f2 (cv g v)⟩ (fun j _ => vp_updV_set (by rw [List.length_map]; exact hlen) (cv g v) j)⟩
theorem r_putF {idx ci k n : Nat} {C : String} {T : u_T} {ty : Nat → FieldType} {a : Nat} {fs : List Value} {v : Value} (d : decode (mC μ) pc = .ok (.putfield idx, 3)) (hF : ab_F (mY μ).cls idx ci k C T n ty) (hw : w a = aO ci fs) (hfin : (T k).2.2.2 = true) (hin : (mY μ).name = "<init>") (hdecl : (T k).1 = (mY μ).cls) (hlen : k < fs.length) (hn : narrow (ty k) (cv g v) = cv g v) (hfit : fits (ty k) (cv g v) = true) (kk : ab_St μ g uc us (pc + 3) L S N (wu w a (aO ci (fs.set k v))) Q) : ab_St μ g uc us pc L (v :: .ref a :: S) N w Q := by
  intro p e s m args below meth c Z H locs ls E R hP hS hl
  obtain ⟨f1, f2, f3, f4, f5, f6⟩ := hF
  obtain ⟨h3, h4⟩ := own_O hP E.2.2.2.2.2.1 hw f1
  have hts := E.2.2.2.2.1
  have hK := E.2.2.2.2.2.1.1
  have hap := va_apart (own := (mY μ).cls) hts f3 ty f4 f5 hK f1
  have hat := hP.2.2.1 a h3 h4
  rw [hw] at hat
  obtain ⟨r, h1, cell, q1, q2, q3, q4⟩ := hat
  have hr : r = (C, T, n) := Option.some.inj (h1.symm.trans f1)
  subst hr
  obtain ⟨hSl, hfc, kC, hkC, hkind⟩ := hK.1 ci _ f1
  obtain ⟨cf, kf, fi, f, hi, hsl⟩ := hSl k f2
  have hlay := hts _ (f3 _ (u_in_lay f2))
  unfold u_lay at hlay
  rw [if_pos hfin] at hlay
  have hst := (u_facts hfc hkC (u_lays hts f3 f2) hi).1
  have hcf : m.cls = cf := by
    obtain ⟨_, _, c', _, _, _, -, -, hf', -, -, -, hown2, -⟩ := Cond.laysFinal_spec hlay
    have e1 : c' = cf := by have := hi.symm.trans hf'; simp at this; exact this.1.symm
    rw [hdecl] at hown2
    rw [← e1]; exact Option.some.inj (E.2.2.2.1.symm.trans hown2)
  have h6 := u_fits hfc hkC hkind (Or.inr hlay) hi (f4 k f2) hn hfit
  refine W.putFinK E.1 E.2.1 E.2.2.2.1 (hts _ f6) hi hst hcf (E.2.2.2.2.2.2 hin) (by rw [q2]; exact h6) q1 q3 (by rw [hsl]; exact k2_hasslot (q4 k f2)) rfl rfl d fun H' e1 e2 e3 => ?_
  rw [hsl] at e1 ⊢
  have hmap : (fs.set k v).map (cv g) = (fs.map (cv g)).set k (cv g v) := List.map_set
  refine kk p e s m args below meth c Z H' _ ls E R (hP.set h3 h4 ?_ e2 e3) (hS.put e2 e3 (by show gZ g ≤ ad g a; rw [ad_ge h3]; omega)) hl
  show va_at (gD g) vwCl (ad g a, .inr (ci, (fs.set k v).map (cv g))) H'
  rw [hmap]
  exact ⟨_, f1, t_OB.to (V := updV (vp_V (fs.map (cv g))) k (cv g v)) ⟨_, e1, q2, q3, t_set q4 hap f2 (cv g v)⟩ (fun j _ => vp_updV_set (by rw [List.length_map]; exact hlen) (cv g v) j)⟩
theorem r_gets {idx k : Nat} (d : decode (mC μ) pc = .ok (.getstatic idx, 3)) (hk : k < 6) (hlink : Cond.fieldLink (mY μ).cls idx (ab_S k).1 (ab_S k).2.1 (ab_S k).2.2 ∈ ws0) (kk : ab_St μ g uc us (pc + 3) L (.ref k :: S) N w Q) : ab_St μ g uc us pc L S N w Q := by
  intro p e s m args below meth c Z H locs ls E R hP hS hl
  have h := kk p e s m args below meth c Z H locs ls E R hP hS hl
  refine va_gets E.1 E.2.1 (E.2.2.2.2.2.1.2.2.1 k hk) hS E.2.2.2.1 (E.2.2.2.2.1 _ hlink) (fun _ h => h) d ?_
  rw [← ad_lt (g := g) (k := k) (by omega)]
  exact h
theorem r_new {idx ci n : Nat} {C : String} {T : u_T} {ty : Nat → FieldType} {fs : List Value} (d : decode (mC μ) pc = .ok (.new idx, 3)) (hc : vwCl[ci]? = some (C, T, n)) (hin : ∀ c ∈ u_ws C T n, c ∈ ws0) (hty : ∀ j, j < n → parseFieldDescriptor (T j).2.2.1 = some (ty j)) (h1 : Cond.classLink (mY μ).cls idx C ∈ ws0) (h2 : Cond.instantiable C n ∈ ws0) (h3 : Cond.initialized C ∈ ws0) (hfs : ∀ j, j < n → defaultValue (ty j) = vp_V fs j) (hcv : fs.map (cv g) = fs) (hcells : uc + 1 ≤ (mZ μ).cells) (hslots : us + n ≤ (mZ μ).slots) (kk : ab_St μ g (uc + 1) (us + n) (pc + 3) L (.ref N :: S) (N + 1) (wu w N (aO ci fs)) Q) : ab_St μ g uc us pc L S N w Q := by
  intro p e s m args below meth c Z H locs ls E R hP hS hl
  have hts := E.2.2.2.2.1
  have hKn := E.2.2.2.2.2.1.1.1 ci _ hc
  refine W.newcK E.1 E.2.1 E.2.2.2.1 (hts _ h1) (hts _ h2) (hts _ h3) rfl d hcells hslots hKn.2.1 rfl fun H1 kC hkC e1 z1 o1 => ?_
  rw [← hP.top] at e1 ⊢
  refine kk p e s m args below meth c Z H1 locs ls E R (hP.push ?_ z1 o1) ⟨Nat.le_trans hS.1 (by omega), fun x a1 a2 => (o1 x (Nat.lt_of_lt_of_le a1 hS.1)).trans (hS.2.1 x a1 a2), hS.2.2⟩ hl
  show va_at (gD g) vwCl (ad g N, .inr (ci, fs.map (cv g))) H1
  rw [hcv]
  exact ⟨_, hc, (u_born ty hts hin hKn hkC e1 hty).to hfs⟩
theorem ab_arrId {g : ab_G} {s : State} (hK : ab_K g s) {t0 : Nat} {cA cB : ClassId} {ty : FieldType} (h : (gT g)[t0]? = some (cA, ty)) (hty : ∀ C, ty ≠ .object C) (h2 : s.vm.findClass ("[" ++ ty.toString) = some cB) : cB = cA := by
  have h3 := (hK.1.2 t0 _ h).2
  have h4 : s.vm.findClass ("[" ++ ty.toString) = some cA := by
    cases ty <;> first | exact h3 | exact absurd rfl (hty _)
  exact Option.some.inj (h2.symm.trans h4)
theorem r_newaJ {n : Nat} {x : Int32} (d : decode (mC μ) pc = .ok (.newarray .long, 2)) (hi : x = nI n) (hn : n ≤ 65536) (ha : Cond.arrayClass .long ∈ ws0) (hcells : uc + 1 ≤ (mZ μ).cells) (hslots : us + n ≤ (mZ μ).slots) (kk : ab_St μ g (uc + 1) (us + n) (pc + 2) L (.ref N :: S) (N + 1) (wu w N (aJ n (fun _ => 0))) Q) : ab_St μ g uc us pc L (.int x :: S) N w Q := by
  intro p e s m args below meth c Z H locs ls E R hP hS hl
  subst hi
  refine va_newaK (atype := .long) (N := n) (n := nI n) E.1 E.2.1 (E.2.2.2.2.1 _ ha) rfl d rfl (nI_pos (by omega)) (nI_clamp (by omega)) (by show n * 8 ≤ _; omega) hcells hslots rfl fun H1 cA e1 z1 o1 hAr hNm => ?_
  have hid : cA = gJ g := ab_arrId E.2.2.2.2.2.1 (t0 := 1) (ty := .long) rfl (fun _ h => by cases h) hNm
  subst hid
  rw [← hP.top] at e1 ⊢
  exact kk p e s m args below meth c Z H1 locs ls E R (hP.push (c := aJ n (fun _ => 0)) e1 z1 o1) ⟨Nat.le_trans hS.1 (by omega), fun x a1 a2 => (o1 x (Nat.lt_of_lt_of_le a1 hS.1)).trans (hS.2.1 x a1 a2), hS.2.2⟩ hl
theorem r_newaI {n : Nat} {x : Int32} (d : decode (mC μ) pc = .ok (.newarray .int, 2)) (hi : x = nI n) (hn : n ≤ 65536) (ha : Cond.arrayClass .int ∈ ws0) (hcells : uc + 1 ≤ (mZ μ).cells) (hslots : us + n ≤ (mZ μ).slots) (kk : ab_St μ g (uc + 1) (us + n) (pc + 2) L (.ref N :: S) (N + 1) (wu w N (aI n (fun _ => 0))) Q) : ab_St μ g uc us pc L (.int x :: S) N w Q := by
  intro p e s m args below meth c Z H locs ls E R hP hS hl
  subst hi
  refine va_newaK (atype := .int) (N := n) (n := nI n) E.1 E.2.1 (E.2.2.2.2.1 _ ha) rfl d rfl (nI_pos (by omega)) (nI_clamp (by omega)) (by show n * 4 ≤ _; omega) hcells hslots rfl fun H1 cA e1 z1 o1 hAr hNm => ?_
  have hid : cA = gI g := ab_arrId E.2.2.2.2.2.1 (t0 := 0) (ty := .int) rfl (fun _ h => by cases h) hNm
  subst hid
  rw [← hP.top] at e1 ⊢
  exact kk p e s m args below meth c Z H1 locs ls E R (hP.push (c := aI n (fun _ => 0)) e1 z1 o1) ⟨Nat.le_trans hS.1 (by omega), fun x a1 a2 => (o1 x (Nat.lt_of_lt_of_le a1 hS.1)).trans (hS.2.1 x a1 a2), hS.2.2⟩ hl
theorem r_newaB {n : Nat} {x : Int32} (d : decode (mC μ) pc = .ok (.newarray .byte, 2)) (hi : x = nI n) (hn : n ≤ 65536) (ha : Cond.arrayClass .byte ∈ ws0) (hcells : uc + 1 ≤ (mZ μ).cells) (hslots : us + n ≤ (mZ μ).slots) (kk : ab_St μ g (uc + 1) (us + n) (pc + 2) L (.ref N :: S) (N + 1) (wu w N (aB n (fun _ => 0))) Q) : ab_St μ g uc us pc L (.int x :: S) N w Q := by
  intro p e s m args below meth c Z H locs ls E R hP hS hl
  subst hi
  refine va_newaK (atype := .byte) (N := n) (n := nI n) E.1 E.2.1 (E.2.2.2.2.1 _ ha) rfl d rfl (nI_pos (by omega)) (nI_clamp (by omega)) (by show n * 1 ≤ _; omega) hcells hslots rfl fun H1 cA e1 z1 o1 hAr hNm => ?_
  have hid : cA = gB g := ab_arrId E.2.2.2.2.2.1 (t0 := 2) (ty := .byte) rfl (fun _ h => by cases h) hNm
  subst hid
  rw [← hP.top] at e1 ⊢
  exact kk p e s m args below meth c Z H1 locs ls E R (hP.push (c := aB n (fun _ => 0)) e1 z1 o1) ⟨Nat.le_trans hS.1 (by omega), fun x a1 a2 => (o1 x (Nat.lt_of_lt_of_le a1 hS.1)).trans (hS.2.1 x a1 a2), hS.2.2⟩ hl
theorem r_obj {idx a : Nat} (d : decode (mC μ) pc = .ok (.invokespecial idx, 3)) (h1 : Cond.methodLink (mY μ).cls idx Lib.objectInit ∈ ws0) (h2 : Cond.instanceMethod Lib.objectInit ∈ ws0) (h3 : Cond.code Lib.objectInit ⟨#[0xb1]⟩ 1 none ∈ ws0) (hfr : 1 ≤ (mZ μ).frames) (hlo : (S.map fun v => v.category).sum + 12 ≤ (mZ μ).locals) (kk : ab_St μ g uc us (pc + 3) L S N w Q) : ab_St μ g uc us pc L (.ref a :: S) N w Q := by
  intro p e s m args below meth c Z H locs ls E R hP hS hl
  have hts := E.2.2.2.2.1
  refine W.objInit E.1 E.2.1 E.2.2.2.1 (hts _ h1) (hts _ h2) (hts _ h3) rfl (by rw [E.2.2.1]; exact hl.1) rfl d hfr ?_ (kk p e s m args below meth c Z H locs ls E R hP hS hl)
  show 2 * 0 + ((S.map (cv g)).map fun v => v.category).sum + 12 ≤ _
  rw [cv_cats]
  omega
theorem ab_call {p : Program} {l : Launch} {e : Env} {R : Room} {s : State} {m : MethodId} {args : Array Value} {below : List Frame} {meth : Method} {c : Code} {H : Heap} {locs : List Loc} {cells slots mc ms pc : Nat} {Z : State → Prop} {ls : Array Slot} {st0 rest : List Value} {a : Array Value} {g : ab_G} {Q' : ab_Q} (hr : va_Run p l e R s m args below meth c H locs cells slots mc ms (F0 m pc ls st0) rest (ab_post g Q' a) (gA g)) (hS : va_S (gA g) s.heap H locs)
    (kk : ∀ (r : Option Value) (N' : Nat) (w' : ab_W) (H1 : Heap) (locs1 : List Loc), Q' r N' w' → ab_P g N' w' H1 → va_S (gA g) s.heap H1 locs1 → W p l e R s m args below meth c H1 locs1 (cells + mc) (slots + ms) Z (F0 m (pc + 3) ls ((r.map (cv g)).toList ++ rest))) : W p l e R s m args below meth c H locs cells slots Z (F0 m pc ls st0) := by
  intro T hT X
  obtain ⟨v, st₀, t, T', L, h0, X', hL, e1, e2, ⟨⟨r, N', w', hv, hq, hp⟩, hz, hk⟩, st⟩ := hr T hT X
  cases hv
  rw [h0] at hz hk
  obtain ⟨t2, a1, b1⟩ := kk r N' w' T'.heap (locs ++ L) hq (by rw [e1]; exact hp)
    ⟨Nat.le_trans hS.1 (by rw [e1]; exact hz), fun q h1 h2 => by rw [e1, hk q (Nat.lt_of_lt_of_le h1 hS.1) h2]; exact hS.2.1 q h1 h2, fun q hq => by
      rcases List.mem_append.mp hq with h | h
      · exact hS.2.2 q h
      · exact hL q h⟩ T' rfl X'
  exact ⟨t2, st t2 a1, b1⟩
theorem rs_eq (g : ab_G) (r : Option Value) (S : List Value) : (r.map (cv g)).toList ++ S.map (cv g) = (rs r S).map (cv g) := by cases r <;> rfl
theorem cv_rev (g : ab_G) {st as S : List Value} {b : Nat} (h : st = as.reverse ++ .ref b :: S) : st.map (cv g) = (as.map (cv g)).reverse ++ .ref (ad g b) :: S.map (cv g) := by
  rw [h, List.map_append, List.map_reverse]
  rfl
theorem cv_revS (g : ab_G) {st as S : List Value} (h : st = as.reverse ++ S) : st.map (cv g) = (as.map (cv g)).reverse ++ S.map (cv g) := by
  rw [h, List.map_append, List.map_reverse]
theorem r_invV {μ' : ab_M} {idx n ci b uc' us' : Nat} {as st fs : List Value} {q : vw_C} {Q' : ab_Q} (d : decode (mC μ) pc = .ok (.invokevirtual idx, 3)) (hV : ab_V (mY μ).cls idx μ' n) (hM : ab_Ct μ' g (.ref b :: as) N w Q') (hst : st = as.reverse ++ .ref b :: S) (hn : as.length = n) (hw : w b = aO ci fs) (hc : vwCl[ci]? = some q) (hq : q.1 = (mY μ').cls) (hR : ab_Rm μ μ') (hcat : (S.map fun v => v.category).sum ≤ 8) (hf : uc + (mZ μ').cells ≤ (mZ μ).cells ∧ us + (mZ μ').slots ≤ (mZ μ).slots) (hu : uc + (mZ μ').cells = uc' ∧ us + (mZ μ').slots = us')
    (kk : ∀ r N' w', Q' r N' w' → ab_St μ g uc' us' (pc + 3) L (rs r S) N' w' Q) : ab_St μ g uc us pc L st N w Q := by
  intro p e s m args below meth c Z H locs ls E R hP hS hl
  obtain ⟨rfl, rfl⟩ := hu
  obtain ⟨h3, h4⟩ := own_O hP E.2.2.2.2.2.1 hw hc
  have he := ab_l_at (g := g) (w := w) h3 h4
  rw [hw] at he
  have hrecv := va_recv E.2.2.2.2.2.1.1 hP.P hc he
  rw [hq] at hrecv
  refine ab_call (a := ((.ref b :: as).map (cv g)).toArray) (rest := S.map (cv g)) (va_runV (As := as.map (cv g)) (b := ad g b) ⟨E.1, E.2.1, E.2.2.1, E.2.2.2.1, E.2.2.2.2.1⟩ hM ⟨ab_B E.2.2.2.2.1 hV.1 hR, E.2.2.2.2.1 _ hV.2.1, E.2.2.2.2.1 _ hV.2.2⟩ ⟨ab_blind g _ N w, hrecv, fun U hU hW => ⟨rfl, by rw [hU]; exact hP, E.2.2.2.2.2.1.moved hW (by rw [hU]; exact hS)⟩⟩ rfl (by rw [List.length_map]; exact hn) hl.1 (cv_rev g hst) (by show 2 * 0 + _ ≤ 8; rw [cv_cats]; omega) d hf) hS fun r N' w' H1 locs1 hq' hP' hS' => ?_
  rw [rs_eq]
  exact kk r N' w' hq' p e s m args below meth c Z H1 locs1 ls E R hP' hS' hl
theorem r_invS {μ' : ab_M} {idx n uc' us' : Nat} {as st : List Value} {Q' : ab_Q} (d : decode (mC μ) pc = .ok (.invokestatic idx, 3)) (hV : ab_T (mY μ).cls idx μ' n) (hM : ab_Ct μ' g as N w Q') (hst : st = as.reverse ++ S) (hn : as.length = n) (hR : ab_Rm μ μ') (hcat : (S.map fun v => v.category).sum ≤ 8) (hf : uc + (mZ μ').cells ≤ (mZ μ).cells ∧ us + (mZ μ').slots ≤ (mZ μ).slots) (hu : uc + (mZ μ').cells = uc' ∧ us + (mZ μ').slots = us')
    (kk : ∀ r N' w', Q' r N' w' → ab_St μ g uc' us' (pc + 3) L (rs r S) N' w' Q) : ab_St μ g uc us pc L st N w Q := by
  intro p e s m args below meth c Z H locs ls E R hP hS hl
  obtain ⟨rfl, rfl⟩ := hu
  refine ab_call (a := (as.map (cv g)).toArray) (rest := S.map (cv g)) (va_runS (As := as.map (cv g)) ⟨E.1, E.2.1, E.2.2.1, E.2.2.2.1, E.2.2.2.2.1⟩ hM ⟨ab_B E.2.2.2.2.1 hV.1 hR, E.2.2.2.2.1 _ hV.2⟩ ⟨ab_blind g _ N w, fun U hU hW => ⟨rfl, by rw [hU]; exact hP, E.2.2.2.2.2.1.moved hW (by rw [hU]; exact hS)⟩⟩ rfl (by rw [List.length_map]; exact hn) hl.1 (cv_revS g hst) (by show 2 * 0 + _ ≤ 8; rw [cv_cats]; omega) d hf) hS fun r N' w' H1 locs1 hq' hP' hS' => ?_
  rw [rs_eq]
  exact kk r N' w' hq' p e s m args below meth c Z H1 locs1 ls E R hP' hS' hl
theorem r_invI {μ' : ab_M} {idx n b uc' us' : Nat} {as st : List Value} {Q' : ab_Q} (d : decode (mC μ) pc = .ok (.invokespecial idx, 3)) (hV : ab_I (mY μ).cls idx μ' n) (hr0 : mR μ' = none) (hM : ab_Ct μ' g (.ref b :: as) N w Q') (hst : st = as.reverse ++ .ref b :: S) (hn : as.length = n) (hR : ab_Rm μ μ') (hcat : (S.map fun v => v.category).sum ≤ 8) (hf : uc + (mZ μ').cells ≤ (mZ μ).cells ∧ us + (mZ μ').slots ≤ (mZ μ).slots) (hu : uc + (mZ μ').cells = uc' ∧ us + (mZ μ').slots = us')
    (kk : ∀ r N' w', Q' r N' w' → ab_St μ g uc' us' (pc + 3) L (rs r S) N' w' Q) : ab_St μ g uc us pc L st N w Q := by
  intro p e s m args below meth c Z H locs ls E R hP hS hl
  obtain ⟨rfl, rfl⟩ := hu
  have hB := ab_B (s := s) (args := args) (μ := μ) E.2.2.2.2.1 hV.1 hR
  rw [hr0] at hB
  refine ab_call (a := ((.ref b :: as).map (cv g)).toArray) (rest := S.map (cv g)) (va_runI (As := as.map (cv g)) (b := ad g b) ⟨E.1, E.2.1, E.2.2.1, E.2.2.2.1, E.2.2.2.2.1⟩ hM ⟨hB, hV.2.1, E.2.2.2.2.1 _ hV.2.2⟩ ⟨ab_blind g _ N w, fun U hU hW => ⟨rfl, by rw [hU]; exact hP, E.2.2.2.2.2.1.moved hW (by rw [hU]; exact hS)⟩⟩ rfl (by rw [List.length_map]; exact hn) hl.1 (cv_rev g hst) (by show 2 * 0 + _ ≤ 8; rw [cv_cats]; omega) d hf) hS fun r N' w' H1 locs1 hq' hP' hS' => ?_
  rw [rs_eq]
  exact kk r N' w' hq' p e s m args below meth c Z H1 locs1 ls E R hP' hS' hl
theorem r_invN {μ' : ab_M} {idx n b uc' us' : Nat} {as st : List Value} {Q' : ab_Q} (q : Nat) (d : decode (mC μ) pc = .ok (.invokespecial idx, 3)) (hV : ab_N (mY μ).cls idx q μ' n) (hr0 : mR μ' = none) (hM : ab_Ct μ' g (.ref b :: as) N w Q') (hst : st = as.reverse ++ .ref b :: S) (hn : as.length = n) (hR : ab_Rm μ μ') (hcat : (S.map fun v => v.category).sum ≤ 8) (hf : uc + (mZ μ').cells ≤ (mZ μ).cells ∧ us + (mZ μ').slots ≤ (mZ μ).slots) (hu : uc + (mZ μ').cells = uc' ∧ us + (mZ μ').slots = us')
    (kk : ∀ r N' w', Q' r N' w' → ab_St μ g uc' us' (pc + 3) L (rs r S) N' w' Q) : ab_St μ g uc us pc L st N w Q := by
  intro p e s m args below meth c Z H locs ls E R hP hS hl
  obtain ⟨rfl, rfl⟩ := hu
  obtain ⟨h1, h2, h3, h4, h5, h6, h7⟩ := hV
  have hts := E.2.2.2.2.1
  have hnw : va_Nw (ab_nest q) s := by
    obtain ⟨-, -, -, n0, n1, n2⟩ := E.2.2.2.2.2.1
    match q with
    | 0 => exact n0
    | 1 => exact n1
    | _ + 2 => exact n2
  have hB : va_CN (mZ μ) s args (mY μ).cls idx (mY μ') "SignHouse" (mC μ') (mN μ') (mR μ') (mW μ') (mZ μ') (mZ μ').cells (mZ μ').slots n := by
    refine ⟨⟨rfl, rfl, hR.1, hR.2, pay_in hts (mW_good h2), List.mem_cons_self⟩, hts _ h2, hts _ h3, h4, fun sig hs => ?_, va_Nw.use rfl (by rw [h1]; exact hnw)⟩
    rw [hs] at h5
    exact (Option.some.inj h5).symm
  rw [hr0] at hB
  refine ab_call (a := ((.ref b :: as).map (cv g)).toArray) (rest := S.map (cv g)) (va_runIN (As := as.map (cv g)) (b := ad g b) ⟨E.1, E.2.1, E.2.2.1, E.2.2.2.1, E.2.2.2.2.1⟩ hM ⟨hB, h6, hts _ h7⟩ ⟨ab_blind g _ N w, fun U hU hW => ⟨rfl, by rw [hU]; exact hP, E.2.2.2.2.2.1.moved hW (by rw [hU]; exact hS)⟩⟩ rfl (by rw [List.length_map]; exact hn) hl.1 (cv_rev g hst) (by show 2 * 0 + _ ≤ 8; rw [cv_cats]; omega) d hf) hS fun r N' w' H1 locs1 hq' hP' hS' => ?_
  rw [rs_eq]
  exact kk r N' w' hq' p e s m args below meth c Z H1 locs1 ls E R hP' hS' hl
end RULES2
