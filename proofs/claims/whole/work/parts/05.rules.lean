/-! THE RULES: an instruction, a row; what is left to show is the state behind it -/
/-- the locals: what is held at a place; what is left when a place is written (of one slot, of two) -/
def lk : List (Nat × Value) → Nat → Option Value
  | [], _ => none
  | q :: r, i => if q.1 = i then some q.2 else lk r i
def ft1 (L : List (Nat × Value)) (i : Nat) : List (Nat × Value) := L.filter (fun q => !(q.1 == i) && !(q.1 + 1 == i && q.2.category == 2))
def ft2 (L : List (Nat × Value)) (i : Nat) : List (Nat × Value) := L.filter (fun q => !(q.1 == i) && (!(q.1 == i + 1) && !(q.1 + 1 == i && q.2.category == 2)))
theorem lk_has {g : ab_G} {L : List (Nat × Value)} {ls : Array Slot} {nL i : Nat} {v : Value} (h : lv_has ls nL (cl g L)) (hl : lk L i = some v) : ls[i]? = some (.val (cv g v)) := by
  have key : ∀ L : List (Nat × Value), lk L i = some v → (i, v) ∈ L := by
    intro L
    induction L with
    | nil => intro h; cases h
    | cons q r ih =>
      intro h
      unfold lk at h
      split at h
      · rename_i e
        cases h
        rw [← e]
        exact List.mem_cons_self
      · exact List.mem_cons_of_mem _ (ih h)
  exact h.2.2 (i, cv g v) (List.mem_map.mpr ⟨(i, v), key L hl, rfl⟩)
theorem cl_ft1 (g : ab_G) (L : List (Nat × Value)) (i : Nat) : (cl g L).filter (fun q => !(q.1 == i) && !(q.1 + 1 == i && q.2.category == 2)) = cl g (ft1 L i) := by
  unfold cl ft1
  rw [List.filter_map]
  congr 1
  exact List.filter_congr fun q _ => by simp [cv_cat]
theorem cl_ft2 (g : ab_G) (L : List (Nat × Value)) (i : Nat) : (cl g L).filter (fun q => !(q.1 == i) && (!(q.1 == i + 1) && !(q.1 + 1 == i && q.2.category == 2))) = cl g (ft2 L i) := by
  unfold cl ft2
  rw [List.filter_map]
  congr 1
  exact List.filter_congr fun q _ => by simp [cv_cat]
theorem cl_pick (g : ab_G) (L : List (Nat × Value)) (ks : List Nat) : lv_pick (cl g L) ks = cl g (lv_pick L ks) := by
  unfold lv_pick cl
  rw [List.map_filterMap]
  congr 1
  funext k
  rw [List.getElem?_map]
section RULES
variable {μ : ab_M} {g : ab_G} {uc us pc N : Nat} {L : List (Nat × Value)} {S : List Value} {w : ab_W} {Q : ab_Q}
/-- fewer locals: by their places -/
theorem r_sub {L' : List (Nat × Value)} (ks : List Nat) (hL : lv_pick L ks = L') (k : ab_St μ g uc us pc L' S N w Q) : ab_St μ g uc us pc L S N w Q :=
  fun p e s m args below meth c Z H locs ls E R hP hS hl => k p e s m args below meth c Z H locs ls E R hP hS (by subst hL; rw [← cl_pick]; exact lv_sub hl ks rfl)
theorem r_post {Q' : ab_Q} (h : ∀ r N w, Q' r N w → Q r N w) (k : ab_St μ g uc us pc L S N w Q') : ab_St μ g uc us pc L S N w Q :=
  fun p e s m args below meth c Z H locs ls E R hP hS hl => k p e s m args below meth c Z H locs ls E (fun r N w H locs ls uc us pc hQ => R r N w H locs ls uc us pc (h r N w hQ)) hP hS hl
theorem r_iconst {n : Int} {v : Int32} (d : decode (mC μ) pc = .ok (.iconst n, 1)) (hv : Int32.ofInt n = v) (k : ab_St μ g uc us (pc + 1) L (.int v :: S) N w Q) : ab_St μ g uc us pc L S N w Q :=
  fun p e s m args below meth c Z H locs ls E R hP hS hl => lv_iconst E.1 E.2.1 d hv (k p e s m args below meth c Z H locs ls E R hP hS hl)
theorem r_bipush {n : Int} {v : Int32} (d : decode (mC μ) pc = .ok (.bipush n, 2)) (hv : (Int8.ofInt n).toInt32 = v) (k : ab_St μ g uc us (pc + 2) L (.int v :: S) N w Q) : ab_St μ g uc us pc L S N w Q :=
  fun p e s m args below meth c Z H locs ls E R hP hS hl => lv_bipush E.1 E.2.1 d hv (k p e s m args below meth c Z H locs ls E R hP hS hl)
theorem r_sipush {n : Int} {v : Int32} (d : decode (mC μ) pc = .ok (.sipush n, 3)) (hv : (Int16.ofInt n).toInt32 = v) (k : ab_St μ g uc us (pc + 3) L (.int v :: S) N w Q) : ab_St μ g uc us pc L S N w Q :=
  fun p e s m args below meth c Z H locs ls E R hP hS hl => lv_sipush E.1 E.2.1 d hv (k p e s m args below meth c Z H locs ls E R hP hS hl)
theorem r_lconst {n : Fin 2} {v : Int64} (d : decode (mC μ) pc = .ok (.lconst n, 1)) (hv : Int64.ofNat (n : Nat) = v) (k : ab_St μ g uc us (pc + 1) L (.long v :: S) N w Q) : ab_St μ g uc us pc L S N w Q :=
  fun p e s m args below meth c Z H locs ls E R hP hS hl => lv_lconst E.1 E.2.1 d hv (k p e s m args below meth c Z H locs ls E R hP hS hl)
theorem r_ldc {index : Nat} {v : Int32} (d : decode (mC μ) pc = .ok (.ldc index, 2)) (hc : Cond.constant (mY μ).cls index v ∈ ws0) (k : ab_St μ g uc us (pc + 2) L (.int v :: S) N w Q) : ab_St μ g uc us pc L S N w Q :=
  fun p e s m args below meth c Z H locs ls E R hP hS hl => lv_ldc E.1 E.2.1 E.2.2.2.1 (E.2.2.2.2.1 _ hc) d  (k p e s m args below meth c Z H locs ls E R hP hS hl)
theorem r_ldc_w {index : Nat} {v : Int32} (d : decode (mC μ) pc = .ok (.ldc_w index, 3)) (hc : Cond.constant (mY μ).cls index v ∈ ws0) (k : ab_St μ g uc us (pc + 3) L (.int v :: S) N w Q) : ab_St μ g uc us pc L S N w Q :=
  fun p e s m args below meth c Z H locs ls E R hP hS hl => lv_ldcw E.1 E.2.1 E.2.2.2.1 (E.2.2.2.2.1 _ hc) d  (k p e s m args below meth c Z H locs ls E R hP hS hl)
theorem r_ldc2 {index : Nat} {v : Int64} (d : decode (mC μ) pc = .ok (.ldc2_w index, 3)) (hc : Cond.constantLong (mY μ).cls index v ∈ ws0) (k : ab_St μ g uc us (pc + 3) L (.long v :: S) N w Q) : ab_St μ g uc us pc L S N w Q :=
  fun p e s m args below meth c Z H locs ls E R hP hS hl => lv_ldc2 E.1 E.2.1 E.2.2.2.1 (E.2.2.2.2.1 _ hc) d  (k p e s m args below meth c Z H locs ls E R hP hS hl)
theorem r_iload_n {q : Fin 4} {x : Int32} (d : decode (mC μ) pc = .ok (.iload_n q, 1)) (hl0 : lk L (q : Nat) = some (.int x)) (k : ab_St μ g uc us (pc + 1) L (.int x :: S) N w Q) : ab_St μ g uc us pc L S N w Q :=
  fun p e s m args below meth c Z H locs ls E R hP hS hl => lv_iload_n E.1 E.2.1 d rfl (lk_has hl hl0) (k p e s m args below meth c Z H locs ls E R hP hS hl)
theorem r_iload {i : Nat} {x : Int32} (d : decode (mC μ) pc = .ok (.iload i, 2)) (hl0 : lk L i = some (.int x)) (k : ab_St μ g uc us (pc + 2) L (.int x :: S) N w Q) : ab_St μ g uc us pc L S N w Q :=
  fun p e s m args below meth c Z H locs ls E R hP hS hl => lv_iload E.1 E.2.1 d (lk_has hl hl0) (k p e s m args below meth c Z H locs ls E R hP hS hl)
theorem r_lload_n {q : Fin 4} {x : Int64} (d : decode (mC μ) pc = .ok (.lload_n q, 1)) (hl0 : lk L (q : Nat) = some (.long x)) (k : ab_St μ g uc us (pc + 1) L (.long x :: S) N w Q) : ab_St μ g uc us pc L S N w Q :=
  fun p e s m args below meth c Z H locs ls E R hP hS hl => lv_lload_n E.1 E.2.1 d rfl (lk_has hl hl0) (k p e s m args below meth c Z H locs ls E R hP hS hl)
theorem r_lload {i : Nat} {x : Int64} (d : decode (mC μ) pc = .ok (.lload i, 2)) (hl0 : lk L i = some (.long x)) (k : ab_St μ g uc us (pc + 2) L (.long x :: S) N w Q) : ab_St μ g uc us pc L S N w Q :=
  fun p e s m args below meth c Z H locs ls E R hP hS hl => lv_lload E.1 E.2.1 d (lk_has hl hl0) (k p e s m args below meth c Z H locs ls E R hP hS hl)
theorem r_aload_n {q : Fin 4} {x : Nat} (d : decode (mC μ) pc = .ok (.aload_n q, 1)) (hl0 : lk L (q : Nat) = some (.ref x)) (k : ab_St μ g uc us (pc + 1) L (.ref x :: S) N w Q) : ab_St μ g uc us pc L S N w Q :=
  fun p e s m args below meth c Z H locs ls E R hP hS hl => lv_aload_n E.1 E.2.1 d rfl (lk_has hl hl0) (k p e s m args below meth c Z H locs ls E R hP hS hl)
theorem r_aload {i : Nat} {x : Nat} (d : decode (mC μ) pc = .ok (.aload i, 2)) (hl0 : lk L i = some (.ref x)) (k : ab_St μ g uc us (pc + 2) L (.ref x :: S) N w Q) : ab_St μ g uc us pc L S N w Q :=
  fun p e s m args below meth c Z H locs ls E R hP hS hl => lv_aload E.1 E.2.1 d (lk_has hl hl0) (k p e s m args below meth c Z H locs ls E R hP hS hl)
theorem r_istore_n {q : Fin 4} {i : Nat} {x : Int32} {L0 : List (Nat × Value)} (d : decode (mC μ) pc = .ok (.istore_n q, 1)) (hi : (q : Nat) = i) (hn : i < mN μ) (hL : ft1 L i = L0) (k : ab_St μ g uc us (pc + 1) ((i, .int x) :: L0) S N w Q) : ab_St μ g uc us pc L (.int x :: S) N w Q :=
  fun p e s m args below meth c Z H locs ls E R hP hS hl => lv_istore_n (lv' := cl g ((i, .int x) :: L0)) E.1 E.2.1 d hi hl hn (by rw [cl_ft1, hL]; rfl) (fun ls2 h2 => k p e s m args below meth c Z H locs ls2 E R hP hS h2)
theorem r_istore {i : Nat} {x : Int32} {L0 : List (Nat × Value)} (d : decode (mC μ) pc = .ok (.istore i, 2)) (hn : i < mN μ) (hL : ft1 L i = L0) (k : ab_St μ g uc us (pc + 2) ((i, .int x) :: L0) S N w Q) : ab_St μ g uc us pc L (.int x :: S) N w Q :=
  fun p e s m args below meth c Z H locs ls E R hP hS hl => lv_istore (lv' := cl g ((i, .int x) :: L0)) E.1 E.2.1 d hl hn (by rw [cl_ft1, hL]; rfl) (fun ls2 h2 => k p e s m args below meth c Z H locs ls2 E R hP hS h2)
theorem r_lstore_n {q : Fin 4} {i : Nat} {x : Int64} {L0 : List (Nat × Value)} (d : decode (mC μ) pc = .ok (.lstore_n q, 1)) (hi : (q : Nat) = i) (hn : i + 1 < mN μ) (hL : ft2 L i = L0) (k : ab_St μ g uc us (pc + 1) ((i, .long x) :: L0) S N w Q) : ab_St μ g uc us pc L (.long x :: S) N w Q :=
  fun p e s m args below meth c Z H locs ls E R hP hS hl => lv_lstore_n (lv' := cl g ((i, .long x) :: L0)) E.1 E.2.1 d hi hl hn (by rw [cl_ft2, hL]; rfl) (fun ls2 h2 => k p e s m args below meth c Z H locs ls2 E R hP hS h2)
theorem r_lstore {i : Nat} {x : Int64} {L0 : List (Nat × Value)} (d : decode (mC μ) pc = .ok (.lstore i, 2)) (hn : i + 1 < mN μ) (hL : ft2 L i = L0) (k : ab_St μ g uc us (pc + 2) ((i, .long x) :: L0) S N w Q) : ab_St μ g uc us pc L (.long x :: S) N w Q :=
  fun p e s m args below meth c Z H locs ls E R hP hS hl => lv_lstore (lv' := cl g ((i, .long x) :: L0)) E.1 E.2.1 d hl hn (by rw [cl_ft2, hL]; rfl) (fun ls2 h2 => k p e s m args below meth c Z H locs ls2 E R hP hS h2)
theorem r_astore_n {q : Fin 4} {i : Nat} {x : Nat} {L0 : List (Nat × Value)} (d : decode (mC μ) pc = .ok (.astore_n q, 1)) (hi : (q : Nat) = i) (hn : i < mN μ) (hL : ft1 L i = L0) (k : ab_St μ g uc us (pc + 1) ((i, .ref x) :: L0) S N w Q) : ab_St μ g uc us pc L (.ref x :: S) N w Q :=
  fun p e s m args below meth c Z H locs ls E R hP hS hl => lv_astore_n (lv' := cl g ((i, .ref x) :: L0)) E.1 E.2.1 d hi hl hn (by rw [cl_ft1, hL]; rfl) (fun ls2 h2 => k p e s m args below meth c Z H locs ls2 E R hP hS h2)
theorem r_astore {i : Nat} {x : Nat} {L0 : List (Nat × Value)} (d : decode (mC μ) pc = .ok (.astore i, 2)) (hn : i < mN μ) (hL : ft1 L i = L0) (k : ab_St μ g uc us (pc + 2) ((i, .ref x) :: L0) S N w Q) : ab_St μ g uc us pc L (.ref x :: S) N w Q :=
  fun p e s m args below meth c Z H locs ls E R hP hS hl => lv_astore (lv' := cl g ((i, .ref x) :: L0)) E.1 E.2.1 d hl hn (by rw [cl_ft1, hL]; rfl) (fun ls2 h2 => k p e s m args below meth c Z H locs ls2 E R hP hS h2)
theorem cl_at {g : ab_G} {L : List (Nat × Value)} {i : Nat} {v : Value} (h : lk L i = some v) : ∃ k : Nat, (cl g L)[k]? = some (i, cv g v) := by
  induction L with
  | nil => cases h
  | cons q r ih =>
    unfold lk at h
    split at h
    · rename_i e
      cases h
      exact ⟨0, by show some (q.1, cv g q.2) = _; rw [e]⟩
    · obtain ⟨k, hk⟩ := ih h
      exact ⟨k + 1, hk⟩
theorem r_iinc {i : Nat} {n : Int} {x v : Int32} {L0 : List (Nat × Value)} (d : decode (mC μ) pc = .ok (.iinc i n, 3)) (hl0 : lk L i = some (.int x)) (hv : x + Int32.ofInt n = v) (hn : i < mN μ) (hL : ft1 L i = L0) (k : ab_St μ g uc us (pc + 3) ((i, .int v) :: L0) S N w Q) : ab_St μ g uc us pc L S N w Q := by
  intro p e s m args below meth c Z H locs ls E R hP hS hl
  obtain ⟨q, hq⟩ := cl_at (g := g) hl0
  exact lv_iinc (lv' := cl g ((i, .int v) :: L0)) E.1 E.2.1 d hl hq hv hn (by rw [cl_ft1, hL]; rfl) (fun ls2 h2 => k p e s m args below meth c Z H locs ls2 E R hP hS h2)
theorem r_iadd {x y : Int32} (d : decode (mC μ) pc = .ok (.iadd, 1))  (k : ab_St μ g uc us (pc + 1) L (.int (x + y) :: S) N w Q) : ab_St μ g uc us pc L (.int y :: .int x :: S) N w Q :=
  fun p e s m args below meth c Z H locs ls E R hP hS hl => lv_iadd E.1 E.2.1 d  (k p e s m args below meth c Z H locs ls E R hP hS hl)
theorem r_isub {x y : Int32} (d : decode (mC μ) pc = .ok (.isub, 1))  (k : ab_St μ g uc us (pc + 1) L (.int (x - y) :: S) N w Q) : ab_St μ g uc us pc L (.int y :: .int x :: S) N w Q :=
  fun p e s m args below meth c Z H locs ls E R hP hS hl => lv_isub E.1 E.2.1 d  (k p e s m args below meth c Z H locs ls E R hP hS hl)
theorem r_imul {x y : Int32} (d : decode (mC μ) pc = .ok (.imul, 1))  (k : ab_St μ g uc us (pc + 1) L (.int (x * y) :: S) N w Q) : ab_St μ g uc us pc L (.int y :: .int x :: S) N w Q :=
  fun p e s m args below meth c Z H locs ls E R hP hS hl => lv_imul E.1 E.2.1 d  (k p e s m args below meth c Z H locs ls E R hP hS hl)
theorem r_iand {x y : Int32} (d : decode (mC μ) pc = .ok (.iand, 1))  (k : ab_St μ g uc us (pc + 1) L (.int (x &&& y) :: S) N w Q) : ab_St μ g uc us pc L (.int y :: .int x :: S) N w Q :=
  fun p e s m args below meth c Z H locs ls E R hP hS hl => lv_iand E.1 E.2.1 d  (k p e s m args below meth c Z H locs ls E R hP hS hl)
theorem r_ior {x y : Int32} (d : decode (mC μ) pc = .ok (.ior, 1))  (k : ab_St μ g uc us (pc + 1) L (.int (x ||| y) :: S) N w Q) : ab_St μ g uc us pc L (.int y :: .int x :: S) N w Q :=
  fun p e s m args below meth c Z H locs ls E R hP hS hl => lv_ior E.1 E.2.1 d  (k p e s m args below meth c Z H locs ls E R hP hS hl)
theorem r_ixor {x y : Int32} (d : decode (mC μ) pc = .ok (.ixor, 1))  (k : ab_St μ g uc us (pc + 1) L (.int (x ^^^ y) :: S) N w Q) : ab_St μ g uc us pc L (.int y :: .int x :: S) N w Q :=
  fun p e s m args below meth c Z H locs ls E R hP hS hl => lv_ixor E.1 E.2.1 d  (k p e s m args below meth c Z H locs ls E R hP hS hl)
theorem r_ishl {x y : Int32} (d : decode (mC μ) pc = .ok (.ishl, 1))  (k : ab_St μ g uc us (pc + 1) L (.int (x <<< (y &&& 31)) :: S) N w Q) : ab_St μ g uc us pc L (.int y :: .int x :: S) N w Q :=
  fun p e s m args below meth c Z H locs ls E R hP hS hl => lv_ishl E.1 E.2.1 d  (k p e s m args below meth c Z H locs ls E R hP hS hl)
theorem r_ishr {x y : Int32} (d : decode (mC μ) pc = .ok (.ishr, 1))  (k : ab_St μ g uc us (pc + 1) L (.int (x >>> (y &&& 31)) :: S) N w Q) : ab_St μ g uc us pc L (.int y :: .int x :: S) N w Q :=
  fun p e s m args below meth c Z H locs ls E R hP hS hl => lv_ishr E.1 E.2.1 d  (k p e s m args below meth c Z H locs ls E R hP hS hl)
theorem r_iushr {x y : Int32} (d : decode (mC μ) pc = .ok (.iushr, 1))  (k : ab_St μ g uc us (pc + 1) L (.int (x.toUInt32 >>> (y.toUInt32 &&& Int32.toUInt32 31)).toInt32 :: S) N w Q) : ab_St μ g uc us pc L (.int y :: .int x :: S) N w Q :=
  fun p e s m args below meth c Z H locs ls E R hP hS hl => lv_iushr E.1 E.2.1 d rfl (k p e s m args below meth c Z H locs ls E R hP hS hl)
theorem r_idiv {x y : Int32} (d : decode (mC μ) pc = .ok (.idiv, 1)) (h0 : ¬ y = 0) (k : ab_St μ g uc us (pc + 1) L (.int (x / y) :: S) N w Q) : ab_St μ g uc us pc L (.int y :: .int x :: S) N w Q :=
  fun p e s m args below meth c Z H locs ls E R hP hS hl => lv_idiv E.1 E.2.1 d h0 (k p e s m args below meth c Z H locs ls E R hP hS hl)
theorem r_irem {x y : Int32} (d : decode (mC μ) pc = .ok (.irem, 1)) (h0 : ¬ y = 0) (k : ab_St μ g uc us (pc + 1) L (.int (x - x / y * y) :: S) N w Q) : ab_St μ g uc us pc L (.int y :: .int x :: S) N w Q :=
  fun p e s m args below meth c Z H locs ls E R hP hS hl => lv_irem E.1 E.2.1 d h0 (k p e s m args below meth c Z H locs ls E R hP hS hl)
theorem r_ineg {x : Int32} (d : decode (mC μ) pc = .ok (.ineg, 1))  (k : ab_St μ g uc us (pc + 1) L (.int (-x) :: S) N w Q) : ab_St μ g uc us pc L (.int x :: S) N w Q :=
  fun p e s m args below meth c Z H locs ls E R hP hS hl => lv_ineg E.1 E.2.1 d  (k p e s m args below meth c Z H locs ls E R hP hS hl)
theorem r_ladd {x y : Int64} (d : decode (mC μ) pc = .ok (.ladd, 1))  (k : ab_St μ g uc us (pc + 1) L (.long (x + y) :: S) N w Q) : ab_St μ g uc us pc L (.long y :: .long x :: S) N w Q :=
  fun p e s m args below meth c Z H locs ls E R hP hS hl => lv_ladd E.1 E.2.1 d  (k p e s m args below meth c Z H locs ls E R hP hS hl)
theorem r_lsub {x y : Int64} (d : decode (mC μ) pc = .ok (.lsub, 1))  (k : ab_St μ g uc us (pc + 1) L (.long (x - y) :: S) N w Q) : ab_St μ g uc us pc L (.long y :: .long x :: S) N w Q :=
  fun p e s m args below meth c Z H locs ls E R hP hS hl => lv_lsub E.1 E.2.1 d  (k p e s m args below meth c Z H locs ls E R hP hS hl)
theorem r_lmul {x y : Int64} (d : decode (mC μ) pc = .ok (.lmul, 1))  (k : ab_St μ g uc us (pc + 1) L (.long (x * y) :: S) N w Q) : ab_St μ g uc us pc L (.long y :: .long x :: S) N w Q :=
  fun p e s m args below meth c Z H locs ls E R hP hS hl => lv_lmul E.1 E.2.1 d  (k p e s m args below meth c Z H locs ls E R hP hS hl)
theorem r_land {x y : Int64} (d : decode (mC μ) pc = .ok (.land, 1))  (k : ab_St μ g uc us (pc + 1) L (.long (x &&& y) :: S) N w Q) : ab_St μ g uc us pc L (.long y :: .long x :: S) N w Q :=
  fun p e s m args below meth c Z H locs ls E R hP hS hl => lv_land E.1 E.2.1 d  (k p e s m args below meth c Z H locs ls E R hP hS hl)
theorem r_lor {x y : Int64} (d : decode (mC μ) pc = .ok (.lor, 1))  (k : ab_St μ g uc us (pc + 1) L (.long (x ||| y) :: S) N w Q) : ab_St μ g uc us pc L (.long y :: .long x :: S) N w Q :=
  fun p e s m args below meth c Z H locs ls E R hP hS hl => lv_lor E.1 E.2.1 d  (k p e s m args below meth c Z H locs ls E R hP hS hl)
theorem r_lxor {x y : Int64} (d : decode (mC μ) pc = .ok (.lxor, 1))  (k : ab_St μ g uc us (pc + 1) L (.long (x ^^^ y) :: S) N w Q) : ab_St μ g uc us pc L (.long y :: .long x :: S) N w Q :=
  fun p e s m args below meth c Z H locs ls E R hP hS hl => lv_lxor E.1 E.2.1 d  (k p e s m args below meth c Z H locs ls E R hP hS hl)
theorem r_ldiv {x y : Int64} (d : decode (mC μ) pc = .ok (.ldiv, 1)) (h0 : ¬ y = 0) (k : ab_St μ g uc us (pc + 1) L (.long (x / y) :: S) N w Q) : ab_St μ g uc us pc L (.long y :: .long x :: S) N w Q :=
  fun p e s m args below meth c Z H locs ls E R hP hS hl => lv_ldiv E.1 E.2.1 d h0 (k p e s m args below meth c Z H locs ls E R hP hS hl)
theorem r_lrem {x y : Int64} (d : decode (mC μ) pc = .ok (.lrem, 1)) (h0 : ¬ y = 0) (k : ab_St μ g uc us (pc + 1) L (.long (x - x / y * y) :: S) N w Q) : ab_St μ g uc us pc L (.long y :: .long x :: S) N w Q :=
  fun p e s m args below meth c Z H locs ls E R hP hS hl => lv_lrem E.1 E.2.1 d h0 (k p e s m args below meth c Z H locs ls E R hP hS hl)
theorem r_lneg {x : Int64} (d : decode (mC μ) pc = .ok (.lneg, 1))  (k : ab_St μ g uc us (pc + 1) L (.long (-x) :: S) N w Q) : ab_St μ g uc us pc L (.long x :: S) N w Q :=
  fun p e s m args below meth c Z H locs ls E R hP hS hl => lv_lneg E.1 E.2.1 d  (k p e s m args below meth c Z H locs ls E R hP hS hl)
theorem r_lshl {x : Int64} {y : Int32} (d : decode (mC μ) pc = .ok (.lshl, 1))  (k : ab_St μ g uc us (pc + 1) L (.long (x <<< (y.toInt64 &&& 63)) :: S) N w Q) : ab_St μ g uc us pc L (.int y :: .long x :: S) N w Q :=
  fun p e s m args below meth c Z H locs ls E R hP hS hl => lv_lshl E.1 E.2.1 d rfl (k p e s m args below meth c Z H locs ls E R hP hS hl)
theorem r_lshr {x : Int64} {y : Int32} (d : decode (mC μ) pc = .ok (.lshr, 1))  (k : ab_St μ g uc us (pc + 1) L (.long (x >>> (y.toInt64 &&& 63)) :: S) N w Q) : ab_St μ g uc us pc L (.int y :: .long x :: S) N w Q :=
  fun p e s m args below meth c Z H locs ls E R hP hS hl => lv_lshr E.1 E.2.1 d rfl (k p e s m args below meth c Z H locs ls E R hP hS hl)
theorem r_lushr {x : Int64} {y : Int32} (d : decode (mC μ) pc = .ok (.lushr, 1))  (k : ab_St μ g uc us (pc + 1) L (.long (x.toUInt64 >>> (y.toInt64.toUInt64 &&& Int64.toUInt64 63)).toInt64 :: S) N w Q) : ab_St μ g uc us pc L (.int y :: .long x :: S) N w Q :=
  fun p e s m args below meth c Z H locs ls E R hP hS hl => lv_lushr E.1 E.2.1 d rfl (k p e s m args below meth c Z H locs ls E R hP hS hl)
theorem r_i2l {x : Int32} (d : decode (mC μ) pc = .ok (.i2l, 1))  (k : ab_St μ g uc us (pc + 1) L (.long x.toInt64 :: S) N w Q) : ab_St μ g uc us pc L (.int x :: S) N w Q :=
  fun p e s m args below meth c Z H locs ls E R hP hS hl => lv_i2l E.1 E.2.1 d rfl (k p e s m args below meth c Z H locs ls E R hP hS hl)
theorem r_l2i {x : Int64} (d : decode (mC μ) pc = .ok (.l2i, 1))  (k : ab_St μ g uc us (pc + 1) L (.int x.toInt32 :: S) N w Q) : ab_St μ g uc us pc L (.long x :: S) N w Q :=
  fun p e s m args below meth c Z H locs ls E R hP hS hl => lv_l2i E.1 E.2.1 d rfl (k p e s m args below meth c Z H locs ls E R hP hS hl)
theorem r_i2b {x : Int32} (d : decode (mC μ) pc = .ok (.i2b, 1))  (k : ab_St μ g uc us (pc + 1) L (.int x.toInt8.toInt32 :: S) N w Q) : ab_St μ g uc us pc L (.int x :: S) N w Q :=
  fun p e s m args below meth c Z H locs ls E R hP hS hl => lv_i2b E.1 E.2.1 d rfl (k p e s m args below meth c Z H locs ls E R hP hS hl)
theorem r_lcmp {x y : Int64} (d : decode (mC μ) pc = .ok (.lcmp, 1))  (k : ab_St μ g uc us (pc + 1) L (.int (lg_cmp x y) :: S) N w Q) : ab_St μ g uc us pc L (.long y :: .long x :: S) N w Q :=
  fun p e s m args below meth c Z H locs ls E R hP hS hl => W.lcmp E.1 E.2.1 d  (k p e s m args below meth c Z H locs ls E R hP hS hl)
theorem r_dup {v : Value} (d : decode (mC μ) pc = .ok (.dup, 1)) (hv : v.category = 1) (k : ab_St μ g uc us (pc + 1) L (v :: v :: S) N w Q) : ab_St μ g uc us pc L (v :: S) N w Q :=
  fun p e s m args below meth c Z H locs ls E R hP hS hl => lv_dup E.1 E.2.1 d (by rw [cv_cat]; exact hv) (k p e s m args below meth c Z H locs ls E R hP hS hl)
theorem r_dup2 {v u : Value} (d : decode (mC μ) pc = .ok (.dup2, 1)) (hv : v.category = 1) (hu : u.category = 1) (k : ab_St μ g uc us (pc + 1) L (v :: u :: v :: u :: S) N w Q) : ab_St μ g uc us pc L (v :: u :: S) N w Q :=
  fun p e s m args below meth c Z H locs ls E R hP hS hl => lv_dup2_11 E.1 E.2.1 d (by rw [cv_cat]; exact hv) (by rw [cv_cat]; exact hu) (k p e s m args below meth c Z H locs ls E R hP hS hl)
theorem r_dup2w {v : Value} (d : decode (mC μ) pc = .ok (.dup2, 1)) (hv : v.category = 2) (k : ab_St μ g uc us (pc + 1) L (v :: v :: S) N w Q) : ab_St μ g uc us pc L (v :: S) N w Q :=
  fun p e s m args below meth c Z H locs ls E R hP hS hl => lv_dup2_2 E.1 E.2.1 d (by rw [cv_cat]; exact hv) (k p e s m args below meth c Z H locs ls E R hP hS hl)
theorem r_pop {v : Value} (d : decode (mC μ) pc = .ok (.pop, 1)) (hv : v.category = 1) (k : ab_St μ g uc us (pc + 1) L S N w Q) : ab_St μ g uc us pc L (v :: S) N w Q :=
  fun p e s m args below meth c Z H locs ls E R hP hS hl => lv_pop E.1 E.2.1 d (by rw [cv_cat]; exact hv) (k p e s m args below meth c Z H locs ls E R hP hS hl)
theorem r_if_eq {x : Int32} {off : Int} {tgt : Nat} (d : decode (mC μ) pc = .ok (.ifCond .eq off, 3)) (ht : (pc : Int) + off = (tgt : Int)) (kt : x = 0 → ab_St μ g uc us tgt L S N w Q) (kf : ¬ x = 0 → ab_St μ g uc us (pc + 3) L S N w Q) : ab_St μ g uc us pc L (.int x :: S) N w Q :=
  fun p e s m args below meth c Z H locs ls E R hP hS hl => lv_if_eq E.1 E.2.1 d ht (fun h => kt h p e s m args below meth c Z H locs ls E R hP hS hl) (fun h => kf h p e s m args below meth c Z H locs ls E R hP hS hl)
theorem r_if_ne {x : Int32} {off : Int} {tgt : Nat} (d : decode (mC μ) pc = .ok (.ifCond .ne off, 3)) (ht : (pc : Int) + off = (tgt : Int)) (kt : ¬ x = 0 → ab_St μ g uc us tgt L S N w Q) (kf : x = 0 → ab_St μ g uc us (pc + 3) L S N w Q) : ab_St μ g uc us pc L (.int x :: S) N w Q :=
  fun p e s m args below meth c Z H locs ls E R hP hS hl => lv_if_ne E.1 E.2.1 d ht (fun h => kt h p e s m args below meth c Z H locs ls E R hP hS hl) (fun h => kf h p e s m args below meth c Z H locs ls E R hP hS hl)
theorem r_if_lt {x : Int32} {off : Int} {tgt : Nat} (d : decode (mC μ) pc = .ok (.ifCond .lt off, 3)) (ht : (pc : Int) + off = (tgt : Int)) (kt : x < 0 → ab_St μ g uc us tgt L S N w Q) (kf : ¬ x < 0 → ab_St μ g uc us (pc + 3) L S N w Q) : ab_St μ g uc us pc L (.int x :: S) N w Q :=
  fun p e s m args below meth c Z H locs ls E R hP hS hl => lv_if_lt E.1 E.2.1 d ht (fun h => kt h p e s m args below meth c Z H locs ls E R hP hS hl) (fun h => kf h p e s m args below meth c Z H locs ls E R hP hS hl)
theorem r_if_ge {x : Int32} {off : Int} {tgt : Nat} (d : decode (mC μ) pc = .ok (.ifCond .ge off, 3)) (ht : (pc : Int) + off = (tgt : Int)) (kt : 0 ≤ x → ab_St μ g uc us tgt L S N w Q) (kf : ¬ 0 ≤ x → ab_St μ g uc us (pc + 3) L S N w Q) : ab_St μ g uc us pc L (.int x :: S) N w Q :=
  fun p e s m args below meth c Z H locs ls E R hP hS hl => lv_if_ge E.1 E.2.1 d ht (fun h => kt h p e s m args below meth c Z H locs ls E R hP hS hl) (fun h => kf h p e s m args below meth c Z H locs ls E R hP hS hl)
theorem r_if_gt {x : Int32} {off : Int} {tgt : Nat} (d : decode (mC μ) pc = .ok (.ifCond .gt off, 3)) (ht : (pc : Int) + off = (tgt : Int)) (kt : 0 < x → ab_St μ g uc us tgt L S N w Q) (kf : ¬ 0 < x → ab_St μ g uc us (pc + 3) L S N w Q) : ab_St μ g uc us pc L (.int x :: S) N w Q :=
  fun p e s m args below meth c Z H locs ls E R hP hS hl => lv_if_gt E.1 E.2.1 d ht (fun h => kt h p e s m args below meth c Z H locs ls E R hP hS hl) (fun h => kf h p e s m args below meth c Z H locs ls E R hP hS hl)
theorem r_if_le {x : Int32} {off : Int} {tgt : Nat} (d : decode (mC μ) pc = .ok (.ifCond .le off, 3)) (ht : (pc : Int) + off = (tgt : Int)) (kt : x ≤ 0 → ab_St μ g uc us tgt L S N w Q) (kf : ¬ x ≤ 0 → ab_St μ g uc us (pc + 3) L S N w Q) : ab_St μ g uc us pc L (.int x :: S) N w Q :=
  fun p e s m args below meth c Z H locs ls E R hP hS hl => lv_if_le E.1 E.2.1 d ht (fun h => kt h p e s m args below meth c Z H locs ls E R hP hS hl) (fun h => kf h p e s m args below meth c Z H locs ls E R hP hS hl)
theorem r_icmp_eq {x y : Int32} {off : Int} {tgt : Nat} (d : decode (mC μ) pc = .ok (.if_icmp .eq off, 3)) (ht : (pc : Int) + off = (tgt : Int)) (kt : x = y → ab_St μ g uc us tgt L S N w Q) (kf : ¬ x = y → ab_St μ g uc us (pc + 3) L S N w Q) : ab_St μ g uc us pc L (.int y :: .int x :: S) N w Q :=
  fun p e s m args below meth c Z H locs ls E R hP hS hl => lv_icmp_eq E.1 E.2.1 d ht (fun h => kt h p e s m args below meth c Z H locs ls E R hP hS hl) (fun h => kf h p e s m args below meth c Z H locs ls E R hP hS hl)
theorem r_icmp_ne {x y : Int32} {off : Int} {tgt : Nat} (d : decode (mC μ) pc = .ok (.if_icmp .ne off, 3)) (ht : (pc : Int) + off = (tgt : Int)) (kt : ¬ x = y → ab_St μ g uc us tgt L S N w Q) (kf : x = y → ab_St μ g uc us (pc + 3) L S N w Q) : ab_St μ g uc us pc L (.int y :: .int x :: S) N w Q :=
  fun p e s m args below meth c Z H locs ls E R hP hS hl => lv_icmp_ne E.1 E.2.1 d ht (fun h => kt h p e s m args below meth c Z H locs ls E R hP hS hl) (fun h => kf h p e s m args below meth c Z H locs ls E R hP hS hl)
theorem r_icmp_lt {x y : Int32} {off : Int} {tgt : Nat} (d : decode (mC μ) pc = .ok (.if_icmp .lt off, 3)) (ht : (pc : Int) + off = (tgt : Int)) (kt : x < y → ab_St μ g uc us tgt L S N w Q) (kf : ¬ x < y → ab_St μ g uc us (pc + 3) L S N w Q) : ab_St μ g uc us pc L (.int y :: .int x :: S) N w Q :=
  fun p e s m args below meth c Z H locs ls E R hP hS hl => lv_icmp_lt E.1 E.2.1 d ht (fun h => kt h p e s m args below meth c Z H locs ls E R hP hS hl) (fun h => kf h p e s m args below meth c Z H locs ls E R hP hS hl)
theorem r_icmp_ge {x y : Int32} {off : Int} {tgt : Nat} (d : decode (mC μ) pc = .ok (.if_icmp .ge off, 3)) (ht : (pc : Int) + off = (tgt : Int)) (kt : y ≤ x → ab_St μ g uc us tgt L S N w Q) (kf : ¬ y ≤ x → ab_St μ g uc us (pc + 3) L S N w Q) : ab_St μ g uc us pc L (.int y :: .int x :: S) N w Q :=
  fun p e s m args below meth c Z H locs ls E R hP hS hl => lv_icmp_ge E.1 E.2.1 d ht (fun h => kt h p e s m args below meth c Z H locs ls E R hP hS hl) (fun h => kf h p e s m args below meth c Z H locs ls E R hP hS hl)
theorem r_icmp_gt {x y : Int32} {off : Int} {tgt : Nat} (d : decode (mC μ) pc = .ok (.if_icmp .gt off, 3)) (ht : (pc : Int) + off = (tgt : Int)) (kt : y < x → ab_St μ g uc us tgt L S N w Q) (kf : ¬ y < x → ab_St μ g uc us (pc + 3) L S N w Q) : ab_St μ g uc us pc L (.int y :: .int x :: S) N w Q :=
  fun p e s m args below meth c Z H locs ls E R hP hS hl => lv_icmp_gt E.1 E.2.1 d ht (fun h => kt h p e s m args below meth c Z H locs ls E R hP hS hl) (fun h => kf h p e s m args below meth c Z H locs ls E R hP hS hl)
theorem r_icmp_le {x y : Int32} {off : Int} {tgt : Nat} (d : decode (mC μ) pc = .ok (.if_icmp .le off, 3)) (ht : (pc : Int) + off = (tgt : Int)) (kt : x ≤ y → ab_St μ g uc us tgt L S N w Q) (kf : ¬ x ≤ y → ab_St μ g uc us (pc + 3) L S N w Q) : ab_St μ g uc us pc L (.int y :: .int x :: S) N w Q :=
  fun p e s m args below meth c Z H locs ls E R hP hS hl => lv_icmp_le E.1 E.2.1 d ht (fun h => kt h p e s m args below meth c Z H locs ls E R hP hS hl) (fun h => kf h p e s m args below meth c Z H locs ls E R hP hS hl)
theorem r_goto {off : Int} {tgt : Nat} (d : decode (mC μ) pc = .ok (.goto off, 3)) (ht : (pc : Int) + off = (tgt : Int)) (k : ab_St μ g uc us tgt L S N w Q) : ab_St μ g uc us pc L S N w Q :=
  fun p e s m args below meth c Z H locs ls E R hP hS hl => lv_goto E.1 E.2.1 d ht (k p e s m args below meth c Z H locs ls E R hP hS hl)
theorem r_tabIn {dflt lo hi : Int} {offs : Array Int} {len : Nat} {x : Int32} {off : Int} {tgt : Nat} (d : decode (mC μ) pc = .ok (.tableswitch dflt lo hi offs, len)) (h1 : ¬ x.toInt < lo) (h2 : ¬ hi < x.toInt) (ho : offs[(x.toInt - lo).toNat]? = some off) (ht : (pc : Int) + off = (tgt : Int)) (k : ab_St μ g uc us tgt L S N w Q) : ab_St μ g uc us pc L (.int x :: S) N w Q :=
  fun p e s m args below meth c Z H locs ls E R hP hS hl => lv_tableIn E.1 E.2.1 d h1 h2 ho ht (k p e s m args below meth c Z H locs ls E R hP hS hl)
theorem r_tabOut {dflt lo hi : Int} {offs : Array Int} {len : Nat} {x : Int32} {tgt : Nat} (d : decode (mC μ) pc = .ok (.tableswitch dflt lo hi offs, len)) (h : x.toInt < lo ∨ hi < x.toInt) (ht : (pc : Int) + dflt = (tgt : Int)) (k : ab_St μ g uc us tgt L S N w Q) : ab_St μ g uc us pc L (.int x :: S) N w Q :=
  fun p e s m args below meth c Z H locs ls E R hP hS hl => lv_tableOut E.1 E.2.1 d h ht (k p e s m args below meth c Z H locs ls E R hP hS hl)
theorem r_ret {r : Option Value} (d : ab_r (mC μ) pc r) (hc : uc ≤ (mZ μ).cells) (hs : us ≤ (mZ μ).slots) (hq : Q r N w) : ab_St μ g uc us pc L (rs r []) N w Q := by
  intro p e s m args below meth c Z H locs ls E R hP hS hl
  have h := R r N w H locs ls uc us pc hq hc hs hP hS d
  cases r <;> exact h
theorem in_nI {j n : Nat} (hj : j < n) (hn : n < 2147483648) : vp_in (nI j) n := vp_in_nI hj hn
theorem r_iaload {a n : Nat} {f : Nat → Int32} {i : Int32} (d : decode (mC μ) pc = .ok (.iaload, 1)) (hw : rdI (w a) = some (n, f)) (j : Nat) (hi : i = nI j) (hj : j < n) (hn : n < 2147483648) (k : ab_St μ g uc us (pc + 1) L (.int (f j) :: S) N w Q) : ab_St μ g uc us pc L (.int i :: .ref a :: S) N w Q := by
  intro p e s m args below meth c Z H locs ls E R hP hS hl
  subst hi
  have hin := in_nI hj hn
  have hcl : (nI j).toNatClampNeg = j := nI_clamp (by omega)
  have own : ∀ cc : ab_C, w a = cc → ce g cc = .inl (gI g, n, .inl f) → 7 ≤ a → a < N → W p (gL g) e (mZ μ) s m args below meth c H locs uc us Z (F0 m pc ls ((.int (nI j) :: .ref a :: S).map (cv g))) := by
    intro cc h1 h2 h3 h4
    have he := ab_l_at (g := g) (w := w) h3 h4
    rw [h1, h2] at he
    refine va_iald E.1 E.2.1 E.2.2.2.2.2.1.1 hP.P (a - 7) 0 he rfl hin d ?_
    rw [hcl]
    exact k p e s m args below meth c Z H locs ls E R hP hS hl
  rcases rdI_of hw with h | h
  · obtain ⟨h3, h4⟩ := own_I hP E.2.2.2.2.2.1 h
    exact own _ h rfl h3 h4
  · rcases own_xI hP E.2.2.2.2.2.1 h with ⟨h3, h4⟩ | ⟨h3, cell, h5, h6, h7, h8, h9, h10, h11⟩
    · exact own _ h rfl h3 h4
    · have hH : H[gE g a]? = some cell := (hS.2.1 _ (Array.getElem?_eq_some_iff.mp h5).1 h11).trans h5
      show W p (gL g) e (mZ μ) s m args below meth c H locs uc us Z (F0 m pc ls (.int (nI j) :: .ref (ad g a) :: S.map (cv g)))
      rw [ad_lt h3]
      refine W.iald (v := .int (f j)) E.1 E.2.1 hH h6 h7 (fun q => ?_) (by rw [hcl]; exact h10 j hj) rfl rfl d (k p e s m args below meth c Z H locs ls E R hP hS hl)
      rcases q with q | q
      · exact hin (Or.inl q)
      · rw [hcl] at q
        omega
theorem r_laload {a n : Nat} {f : Nat → Int64} {i : Int32} (d : decode (mC μ) pc = .ok (.laload, 1)) (hw : rdJ (w a) = some (n, f)) (j : Nat) (hi : i = nI j) (hj : j < n) (hn : n < 2147483648) (k : ab_St μ g uc us (pc + 1) L (.long (f j) :: S) N w Q) : ab_St μ g uc us pc L (.int i :: .ref a :: S) N w Q := by
  intro p e s m args below meth c Z H locs ls E R hP hS hl
  subst hi
  have hin := in_nI hj hn
  have hcl : (nI j).toNatClampNeg = j := nI_clamp (by omega)
  have own : ∀ cc : ab_C, w a = cc → ce g cc = .inl (gJ g, n, .inr (.inl f)) → 7 ≤ a → a < N → W p (gL g) e (mZ μ) s m args below meth c H locs uc us Z (F0 m pc ls ((.int (nI j) :: .ref a :: S).map (cv g))) := by
    intro cc h1 h2 h3 h4
    have he := ab_l_at (g := g) (w := w) h3 h4
    rw [h1, h2] at he
    refine va_lald E.1 E.2.1 E.2.2.2.2.2.1.1 hP.P (a - 7) 1 he rfl hin d ?_
    rw [hcl]
    exact k p e s m args below meth c Z H locs ls E R hP hS hl
  rcases rdJ_of hw with h | h
  · obtain ⟨h3, h4⟩ := own_J hP E.2.2.2.2.2.1 h
    exact own _ h rfl h3 h4
  · rcases own_xJ hP E.2.2.2.2.2.1 h with ⟨h3, h4⟩ | ⟨h3, cell, h5, h6, h7, h8, h9, h10, h11⟩
    · exact own _ h rfl h3 h4
    · have hH : H[gE g a]? = some cell := (hS.2.1 _ (Array.getElem?_eq_some_iff.mp h5).1 h11).trans h5
      show W p (gL g) e (mZ μ) s m args below meth c H locs uc us Z (F0 m pc ls (.int (nI j) :: .ref (ad g a) :: S.map (cv g)))
      rw [ad_lt h3]
      refine W.lald (v := .long (f j)) E.1 E.2.1 hH h6 h7 (fun q => ?_) (by rw [hcl]; exact h10 j hj) rfl rfl d (k p e s m args below meth c Z H locs ls E R hP hS hl)
      rcases q with q | q
      · exact hin (Or.inl q)
      · rw [hcl] at q
        omega
theorem r_baload {a n : Nat} {f : Nat → Int32} {i : Int32} (d : decode (mC μ) pc = .ok (.baload, 1)) (hw : w a = aB n f) (j : Nat) (hi : i = nI j) (hj : j < n) (hn : n < 2147483648) (k : ab_St μ g uc us (pc + 1) L (.int (f j) :: S) N w Q) : ab_St μ g uc us pc L (.int i :: .ref a :: S) N w Q := by
  intro p e s m args below meth c Z H locs ls E R hP hS hl
  subst hi
  have hcl : (nI j).toNatClampNeg = j := nI_clamp (by omega)
  obtain ⟨h3, h4⟩ := own_B hP E.2.2.2.2.2.1 hw
  have he := ab_l_at (g := g) (w := w) h3 h4
  rw [hw] at he
  refine va_bald E.1 E.2.1 E.2.2.2.2.2.1.1 hP.P (a - 7) 2 he rfl (in_nI hj hn) d ?_
  rw [hcl]
  exact k p e s m args below meth c Z H locs ls E R hP hS hl
theorem r_alen {a n : Nat} (d : decode (mC μ) pc = .ok (.arraylength, 1)) (hw : rdL (w a) = some n) (k : ab_St μ g uc us (pc + 1) L (.int (nI n) :: S) N w Q) : ab_St μ g uc us pc L (.ref a :: S) N w Q := by
  intro p e s m args below meth c Z H locs ls E R hP hS hl
  have own : ∀ (cc : ab_C) (t0 : Nat) (cA : ClassId) (ty : FieldType) (x : vp_A), w a = cc → ce g cc = .inl (cA, x) → x.1 = n → (gT g)[t0]? = some (cA, ty) → 7 ≤ a → a < N → W p (gL g) e (mZ μ) s m args below meth c H locs uc us Z (F0 m pc ls ((.ref a :: S).map (cv g))) := by
    intro cc t0 cA ty x h1 h2 hn ht h3 h4
    have he := ab_l_at (g := g) (w := w) h3 h4
    rw [h1, h2] at he
    exact va_alen E.1 E.2.1 E.2.2.2.2.2.1.1 hP.P (a - 7) t0 he ht (v := nI n) (by rw [hn]; rfl) d (k p e s m args below meth c Z H locs ls E R hP hS hl)
  have ext : ∀ (ty : FieldType) (f : Nat → Value), a < 7 → va_T ty (gE g a) n f (gA g) s s.heap → W p (gL g) e (mZ μ) s m args below meth c H locs uc us Z (F0 m pc ls ((.ref a :: S).map (cv g))) := by
    intro ty f h3 hT
    obtain ⟨cell, h5, h6, h7, h8, h9, h10, h11⟩ := hT
    have hH : H[gE g a]? = some cell := (hS.2.1 _ (Array.getElem?_eq_some_iff.mp h5).1 h11).trans h5
    show W p (gL g) e (mZ μ) s m args below meth c H locs uc us Z (F0 m pc ls (.ref (ad g a) :: S.map (cv g)))
    rw [ad_lt h3]
    exact W.alen (n := nI n) E.1 E.2.1 hH h6 h9 rfl rfl d (k p e s m args below meth c Z H locs ls E R hP hS hl)
  cases hc : w a with
  | inr o => rw [hc] at hw; cases hw
  | inl q =>
    obtain ⟨ty, n', f | f⟩ := q
    · rw [hc] at hw
      cases ty <;> cases hw
      · obtain ⟨h3, h4⟩ := own_B hP E.2.2.2.2.2.1 hc
        exact own _ 2 (gB g) .byte _ hc rfl rfl rfl h3 h4
      · rcases own_xI hP E.2.2.2.2.2.1 hc with ⟨h3, h4⟩ | ⟨h3, hT⟩
        · exact own _ 0 (gI g) .int _ hc rfl rfl rfl h3 h4
        · exact ext _ _ h3 hT
      · obtain ⟨h3, h4⟩ := own_I hP E.2.2.2.2.2.1 hc
        exact own _ 0 (gI g) .int _ hc rfl rfl rfl h3 h4
    · rw [hc] at hw
      cases ty <;> cases hw
      · obtain ⟨h3, h4⟩ := own_J hP E.2.2.2.2.2.1 hc
        exact own _ 1 (gJ g) .long _ hc rfl rfl rfl h3 h4
      · rcases own_xJ hP E.2.2.2.2.2.1 hc with ⟨h3, h4⟩ | ⟨h3, hT⟩
        · exact own _ 1 (gJ g) .long _ hc rfl rfl rfl h3 h4
        · exact ext _ _ h3 hT
theorem r_iastore {a n : Nat} {f : Nat → Int32} {i : Int32} {x : Int32} (d : decode (mC μ) pc = .ok (.iastore, 1)) (hw : w a = aI n f) (j : Nat) (hi : i = nI j) (hj : j < n) (hn : n < 2147483648) (k : ab_St μ g uc us (pc + 1) L S N (wu w a (aI n (va_up f j (x)))) Q) : ab_St μ g uc us pc L (.int x :: .int i :: .ref a :: S) N w Q := by
  intro p e s m args below meth c Z H locs ls E R hP hS hl
  subst hi
  have hcl : (nI j).toNatClampNeg = j := nI_clamp (by omega)
  have hin := in_nI hj hn
  obtain ⟨h3, h4⟩ := own_I hP E.2.2.2.2.2.1 hw
  have hc := hP.2.2.1 a h3 h4
  rw [hw] at hc
  have hz : 7 ≤ a := h3
  refine W.iast E.1 E.2.1 hc ((E.2.2.2.2.2.1.1.2 0 _ rfl).1 n (fun j => .int (f j))) (fun q => by cases q) (by show ¬ (_ ∨ (arrV _ _ _).slots.size ≤ _); rw [arrV_size]; exact hin) rfl rfl d fun H1 e1 z oq => ?_
  refine k p e s m args below meth c Z H1 _ ls E R (hP.set h3 h4 ?_ z oq) (hS.put z oq (by show gZ g ≤ ad g a; rw [ad_ge h3]; omega)) hl
  show H1[ad g a]? = some (vp_cell _ _)
  rw [e1, vp_cell_i, vp_cell_i, arrV_store, hcl]
  congr 2
  funext q
  by_cases hq : q = j
  · subst hq
    simp [updV, va_up, narrow]
  · simp [updV, va_up, hq]
theorem r_lastore {a n : Nat} {f : Nat → Int64} {i : Int32} {x : Int64} (d : decode (mC μ) pc = .ok (.lastore, 1)) (hw : w a = aJ n f) (j : Nat) (hi : i = nI j) (hj : j < n) (hn : n < 2147483648) (k : ab_St μ g uc us (pc + 1) L S N (wu w a (aJ n (va_up f j (x)))) Q) : ab_St μ g uc us pc L (.long x :: .int i :: .ref a :: S) N w Q := by
  intro p e s m args below meth c Z H locs ls E R hP hS hl
  subst hi
  have hcl : (nI j).toNatClampNeg = j := nI_clamp (by omega)
  have hin := in_nI hj hn
  obtain ⟨h3, h4⟩ := own_J hP E.2.2.2.2.2.1 hw
  have hc := hP.2.2.1 a h3 h4
  rw [hw] at hc
  have hz : 7 ≤ a := h3
  refine W.last E.1 E.2.1 hc ((E.2.2.2.2.2.1.1.2 1 _ rfl).1 n (fun j => .long (f j))) (fun q => by cases q) (by show ¬ (_ ∨ (arrV _ _ _).slots.size ≤ _); rw [arrV_size]; exact hin) rfl rfl d fun H1 e1 z oq => ?_
  refine k p e s m args below meth c Z H1 _ ls E R (hP.set h3 h4 ?_ z oq) (hS.put z oq (by show gZ g ≤ ad g a; rw [ad_ge h3]; omega)) hl
  show H1[ad g a]? = some (vp_cell _ _)
  rw [e1, vp_cell_l, vp_cell_l, arrV_store, hcl]
  congr 2
  funext q
  by_cases hq : q = j
  · subst hq
    simp [updV, va_up, narrow]
  · simp [updV, va_up, hq]
theorem r_bastore {a n : Nat} {f : Nat → Int32} {i : Int32} {x : Int32} (d : decode (mC μ) pc = .ok (.bastore, 1)) (hw : w a = aB n f) (j : Nat) (hi : i = nI j) (hj : j < n) (hn : n < 2147483648) (k : ab_St μ g uc us (pc + 1) L S N (wu w a (aB n (va_up f j (x.toInt8.toInt32)))) Q) : ab_St μ g uc us pc L (.int x :: .int i :: .ref a :: S) N w Q := by
  intro p e s m args below meth c Z H locs ls E R hP hS hl
  subst hi
  have hcl : (nI j).toNatClampNeg = j := nI_clamp (by omega)
  have hin := in_nI hj hn
  obtain ⟨h3, h4⟩ := own_B hP E.2.2.2.2.2.1 hw
  have hc := hP.2.2.1 a h3 h4
  rw [hw] at hc
  have hz : 7 ≤ a := h3
  refine W.bast E.1 E.2.1 hc ((E.2.2.2.2.2.1.1.2 2 _ rfl).1 n (fun j => .int (f j))) (fun q => by cases q) (by show ¬ (_ ∨ (arrV _ _ _).slots.size ≤ _); rw [arrV_size]; exact hin) rfl rfl d fun H1 e1 z oq => ?_
  refine k p e s m args below meth c Z H1 _ ls E R (hP.set h3 h4 ?_ z oq) (hS.put z oq (by show gZ g ≤ ad g a; rw [ad_ge h3]; omega)) hl
  show H1[ad g a]? = some (vp_cell _ _)
  rw [e1, vp_cell_i, vp_cell_i, arrV_store, hcl]
  congr 2
  funext q
  by_cases hq : q = j
  · subst hq
    simp [updV, va_up, narrow]
  · simp [updV, va_up, hq]
end RULES
