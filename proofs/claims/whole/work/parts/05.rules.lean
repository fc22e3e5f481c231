/-! one rule an instruction (laid by wip/whole/mkrules.py) -/
theorem X.iconst {k : xk} {sc : xsc} {pc : Nat} {lv : Nat → Option Value} {st : List Value} {μ : xM} {Q : Option Value → xM → Prop} {n : Int} {v : Int32} (d : decode k.2.1 pc = .ok (.iconst n, 1)) (hv : Int32.ofInt n = v) (kk : X k sc (pc + 1) lv (.int v :: st) μ Q) : X k sc pc lv st μ Q := by
  refine X.pure (fun p l e R s m args below meth c g hS H locs cells slots ls Z hH hl kk => ?_) kk
  exact lv_iconst hS.1 hS.2.1 d hv (kk ls hl)
theorem X.bipush {k : xk} {sc : xsc} {pc : Nat} {lv : Nat → Option Value} {st : List Value} {μ : xM} {Q : Option Value → xM → Prop} {n : Int} {v : Int32} (d : decode k.2.1 pc = .ok (.bipush n, 2)) (hv : (Int8.ofInt n).toInt32 = v) (kk : X k sc (pc + 2) lv (.int v :: st) μ Q) : X k sc pc lv st μ Q := by
  refine X.pure (fun p l e R s m args below meth c g hS H locs cells slots ls Z hH hl kk => ?_) kk
  exact lv_bipush hS.1 hS.2.1 d hv (kk ls hl)
theorem X.sipush {k : xk} {sc : xsc} {pc : Nat} {lv : Nat → Option Value} {st : List Value} {μ : xM} {Q : Option Value → xM → Prop} {n : Int} {v : Int32} (d : decode k.2.1 pc = .ok (.sipush n, 3)) (hv : (Int16.ofInt n).toInt32 = v) (kk : X k sc (pc + 3) lv (.int v :: st) μ Q) : X k sc pc lv st μ Q := by
  refine X.pure (fun p l e R s m args below meth c g hS H locs cells slots ls Z hH hl kk => ?_) kk
  exact lv_sipush hS.1 hS.2.1 d hv (kk ls hl)
theorem X.lconst {k : xk} {sc : xsc} {pc : Nat} {lv : Nat → Option Value} {st : List Value} {μ : xM} {Q : Option Value → xM → Prop} {n : Fin 2} {v : Int64} (d : decode k.2.1 pc = .ok (.lconst n, 1)) (hv : Int64.ofNat (n : Nat) = v) (kk : X k sc (pc + 1) lv (.long v :: st) μ Q) : X k sc pc lv st μ Q := by
  refine X.pure (fun p l e R s m args below meth c g hS H locs cells slots ls Z hH hl kk => ?_) kk
  exact lv_lconst hS.1 hS.2.1 d hv (kk ls hl)
theorem X.null {k : xk} {sc : xsc} {pc : Nat} {lv : Nat → Option Value} {st : List Value} {μ : xM} {Q : Option Value → xM → Prop}  (d : decode k.2.1 pc = .ok (.aconst_null, 1)) (kk : X k sc (pc + 1) lv (.null :: st) μ Q) : X k sc pc lv st μ Q := by
  refine X.pure (fun p l e R s m args below meth c g hS H locs cells slots ls Z hH hl kk => ?_) kk
  exact lv_null hS.1 hS.2.1 d (kk ls hl)
theorem X.ldc {k : xk} {sc : xsc} {pc : Nat} {lv : Nat → Option Value} {st : List Value} {μ : xM} {Q : Option Value → xM → Prop} {i : Nat} {v : Int32} (d : decode k.2.1 pc = .ok (.ldc i, 2)) (w : Cond.constant k.1.cls i v ∈ xtbl) (kk : X k sc (pc + 2) lv (.int v :: st) μ Q) : X k sc pc lv st μ Q := by
  refine X.pure (fun p l e R s m args below meth c g hS H locs cells slots ls Z hH hl kk => ?_) kk
  exact lv_ldc hS.1 hS.2.1 hS.2.2.2.1 (hS.2.2.2.2.1 _ w) d (kk ls hl)
theorem X.ldc2 {k : xk} {sc : xsc} {pc : Nat} {lv : Nat → Option Value} {st : List Value} {μ : xM} {Q : Option Value → xM → Prop} {i : Nat} {v : Int64} (d : decode k.2.1 pc = .ok (.ldc2_w i, 3)) (w : Cond.constantLong k.1.cls i v ∈ xtbl) (kk : X k sc (pc + 3) lv (.long v :: st) μ Q) : X k sc pc lv st μ Q := by
  refine X.pure (fun p l e R s m args below meth c g hS H locs cells slots ls Z hH hl kk => ?_) kk
  exact lv_ldc2 hS.1 hS.2.1 hS.2.2.2.1 (hS.2.2.2.2.1 _ w) d (kk ls hl)
theorem X.iload_n {k : xk} {sc : xsc} {pc : Nat} {lv : Nat → Option Value} {st : List Value} {μ : xM} {Q : Option Value → xM → Prop} {n : Fin 4} {x : Int32} (d : decode k.2.1 pc = .ok (.iload_n n, 1)) (h : lv (n : Nat) = some (.int x)) (kk : X k sc (pc + 1) lv (.int x :: st) μ Q) : X k sc pc lv st μ Q := by
  refine X.pure (fun p l e R s m args below meth c g hS H locs cells slots ls Z hH hl kk => ?_) kk
  exact lv_iload_n hS.1 hS.2.1 d rfl (hl.2.2 _ _ h) (kk ls hl)
theorem X.iload {k : xk} {sc : xsc} {pc : Nat} {lv : Nat → Option Value} {st : List Value} {μ : xM} {Q : Option Value → xM → Prop} {n : Nat} {x : Int32} (d : decode k.2.1 pc = .ok (.iload n, 2)) (h : lv n = some (.int x)) (kk : X k sc (pc + 2) lv (.int x :: st) μ Q) : X k sc pc lv st μ Q := by
  refine X.pure (fun p l e R s m args below meth c g hS H locs cells slots ls Z hH hl kk => ?_) kk
  exact lv_iload hS.1 hS.2.1 d (hl.2.2 _ _ h) (kk ls hl)
theorem X.lload_n {k : xk} {sc : xsc} {pc : Nat} {lv : Nat → Option Value} {st : List Value} {μ : xM} {Q : Option Value → xM → Prop} {n : Fin 4} {x : Int64} (d : decode k.2.1 pc = .ok (.lload_n n, 1)) (h : lv (n : Nat) = some (.long x)) (kk : X k sc (pc + 1) lv (.long x :: st) μ Q) : X k sc pc lv st μ Q := by
  refine X.pure (fun p l e R s m args below meth c g hS H locs cells slots ls Z hH hl kk => ?_) kk
  exact lv_lload_n hS.1 hS.2.1 d rfl (hl.2.2 _ _ h) (kk ls hl)
theorem X.lload {k : xk} {sc : xsc} {pc : Nat} {lv : Nat → Option Value} {st : List Value} {μ : xM} {Q : Option Value → xM → Prop} {n : Nat} {x : Int64} (d : decode k.2.1 pc = .ok (.lload n, 2)) (h : lv n = some (.long x)) (kk : X k sc (pc + 2) lv (.long x :: st) μ Q) : X k sc pc lv st μ Q := by
  refine X.pure (fun p l e R s m args below meth c g hS H locs cells slots ls Z hH hl kk => ?_) kk
  exact lv_lload hS.1 hS.2.1 d (hl.2.2 _ _ h) (kk ls hl)
theorem X.aload_n {k : xk} {sc : xsc} {pc : Nat} {lv : Nat → Option Value} {st : List Value} {μ : xM} {Q : Option Value → xM → Prop} {n : Fin 4} {x : Nat} (d : decode k.2.1 pc = .ok (.aload_n n, 1)) (h : lv (n : Nat) = some (.ref x)) (kk : X k sc (pc + 1) lv (.ref x :: st) μ Q) : X k sc pc lv st μ Q := by
  refine X.pure (fun p l e R s m args below meth c g hS H locs cells slots ls Z hH hl kk => ?_) kk
  exact lv_aload_n hS.1 hS.2.1 d rfl (hl.2.2 _ _ h) (kk ls hl)
theorem X.aload {k : xk} {sc : xsc} {pc : Nat} {lv : Nat → Option Value} {st : List Value} {μ : xM} {Q : Option Value → xM → Prop} {n : Nat} {x : Nat} (d : decode k.2.1 pc = .ok (.aload n, 2)) (h : lv n = some (.ref x)) (kk : X k sc (pc + 2) lv (.ref x :: st) μ Q) : X k sc pc lv st μ Q := by
  refine X.pure (fun p l e R s m args below meth c g hS H locs cells slots ls Z hH hl kk => ?_) kk
  exact lv_aload hS.1 hS.2.1 d (hl.2.2 _ _ h) (kk ls hl)
theorem X.aload_nN {k : xk} {sc : xsc} {pc : Nat} {lv : Nat → Option Value} {st : List Value} {μ : xM} {Q : Option Value → xM → Prop} {n : Fin 4} (d : decode k.2.1 pc = .ok (.aload_n n, 1)) (h : lv (n : Nat) = some .null) (kk : X k sc (pc + 1) lv (.null :: st) μ Q) : X k sc pc lv st μ Q := by
  refine X.pure (fun p l e R s m args below meth c g hS H locs cells slots ls Z hH hl kk => ?_) kk
  exact lv_aload_nN hS.1 hS.2.1 d rfl (hl.2.2 _ _ h) (kk ls hl)
theorem X.aloadN {k : xk} {sc : xsc} {pc : Nat} {lv : Nat → Option Value} {st : List Value} {μ : xM} {Q : Option Value → xM → Prop} {n : Nat} (d : decode k.2.1 pc = .ok (.aload n, 2)) (h : lv n = some .null) (kk : X k sc (pc + 2) lv (.null :: st) μ Q) : X k sc pc lv st μ Q := by
  refine X.pure (fun p l e R s m args below meth c g hS H locs cells slots ls Z hH hl kk => ?_) kk
  exact lv_aloadN hS.1 hS.2.1 d (hl.2.2 _ _ h) (kk ls hl)
theorem X.istore_n {k : xk} {sc : xsc} {pc : Nat} {lv : Nat → Option Value} {st : List Value} {μ : xM} {Q : Option Value → xM → Prop} {n : Fin 4} {x : Int32} (d : decode k.2.1 pc = .ok (.istore_n n, 1)) (hn : (n : Nat) < k.2.2.1) (kk : X k sc (pc + 1) (up1 (n : Nat) (.int x) lv) st μ Q) : X k sc pc lv (.int x :: st) μ Q := by
  refine X.pure (fun p l e R s m args below meth c g hS H locs cells slots ls Z hH hl kk => ?_) kk
  obtain ⟨ls', e', h'⟩ := xstore1 (v := .int x) hl hn rfl
  intro T hT X
  obtain ⟨t, a, b⟩ := kk ls' h' T hT X
  refine ⟨t, ?_, b⟩
  have hexec := hS.1
  have hb := hS.2.1
  have e2 : storeLocals ls (n : Nat) (.int x) = some ls' := e'
  show Steps p.tables e below (T.setTop (F0 m pc ls (.int x :: st.map (xv g)))) t
  jvm_step X.here [X.here.top, ↓top_set X.here.top, hexec, hb, d, e2]
  first | exact a | exact ⟨rfl, a⟩
theorem X.istore {k : xk} {sc : xsc} {pc : Nat} {lv : Nat → Option Value} {st : List Value} {μ : xM} {Q : Option Value → xM → Prop} {n : Nat} {x : Int32} (d : decode k.2.1 pc = .ok (.istore n, 2)) (hn : (n : Nat) < k.2.2.1) (kk : X k sc (pc + 2) (up1 (n : Nat) (.int x) lv) st μ Q) : X k sc pc lv (.int x :: st) μ Q := by
  refine X.pure (fun p l e R s m args below meth c g hS H locs cells slots ls Z hH hl kk => ?_) kk
  obtain ⟨ls', e', h'⟩ := xstore1 (v := .int x) hl hn rfl
  intro T hT X
  obtain ⟨t, a, b⟩ := kk ls' h' T hT X
  refine ⟨t, ?_, b⟩
  have hexec := hS.1
  have hb := hS.2.1
  have e2 : storeLocals ls (n : Nat) (.int x) = some ls' := e'
  show Steps p.tables e below (T.setTop (F0 m pc ls (.int x :: st.map (xv g)))) t
  jvm_step X.here [X.here.top, ↓top_set X.here.top, hexec, hb, d, e2]
  first | exact a | exact ⟨rfl, a⟩
theorem X.lstore_n {k : xk} {sc : xsc} {pc : Nat} {lv : Nat → Option Value} {st : List Value} {μ : xM} {Q : Option Value → xM → Prop} {n : Fin 4} {x : Int64} (d : decode k.2.1 pc = .ok (.lstore_n n, 1)) (hn : (n : Nat) + 1 < k.2.2.1) (kk : X k sc (pc + 1) (upw (n : Nat) (.long x) lv) st μ Q) : X k sc pc lv (.long x :: st) μ Q := by
  refine X.pure (fun p l e R s m args below meth c g hS H locs cells slots ls Z hH hl kk => ?_) kk
  obtain ⟨ls', e', h'⟩ := xstore2 (v := .long x) hl hn rfl
  intro T hT X
  obtain ⟨t, a, b⟩ := kk ls' h' T hT X
  refine ⟨t, ?_, b⟩
  have hexec := hS.1
  have hb := hS.2.1
  have e2 : storeLocals ls (n : Nat) (.long x) = some ls' := e'
  show Steps p.tables e below (T.setTop (F0 m pc ls (.long x :: st.map (xv g)))) t
  jvm_step X.here [X.here.top, ↓top_set X.here.top, hexec, hb, d, e2]
  first | exact a | exact ⟨rfl, a⟩
theorem X.lstore {k : xk} {sc : xsc} {pc : Nat} {lv : Nat → Option Value} {st : List Value} {μ : xM} {Q : Option Value → xM → Prop} {n : Nat} {x : Int64} (d : decode k.2.1 pc = .ok (.lstore n, 2)) (hn : (n : Nat) + 1 < k.2.2.1) (kk : X k sc (pc + 2) (upw (n : Nat) (.long x) lv) st μ Q) : X k sc pc lv (.long x :: st) μ Q := by
  refine X.pure (fun p l e R s m args below meth c g hS H locs cells slots ls Z hH hl kk => ?_) kk
  obtain ⟨ls', e', h'⟩ := xstore2 (v := .long x) hl hn rfl
  intro T hT X
  obtain ⟨t, a, b⟩ := kk ls' h' T hT X
  refine ⟨t, ?_, b⟩
  have hexec := hS.1
  have hb := hS.2.1
  have e2 : storeLocals ls (n : Nat) (.long x) = some ls' := e'
  show Steps p.tables e below (T.setTop (F0 m pc ls (.long x :: st.map (xv g)))) t
  jvm_step X.here [X.here.top, ↓top_set X.here.top, hexec, hb, d, e2]
  first | exact a | exact ⟨rfl, a⟩
theorem X.astore_n {k : xk} {sc : xsc} {pc : Nat} {lv : Nat → Option Value} {st : List Value} {μ : xM} {Q : Option Value → xM → Prop} {n : Fin 4} {x : Nat} (d : decode k.2.1 pc = .ok (.astore_n n, 1)) (hn : (n : Nat) < k.2.2.1) (kk : X k sc (pc + 1) (up1 (n : Nat) (.ref x) lv) st μ Q) : X k sc pc lv (.ref x :: st) μ Q := by
  refine X.pure (fun p l e R s m args below meth c g hS H locs cells slots ls Z hH hl kk => ?_) kk
  obtain ⟨ls', e', h'⟩ := xstore1 (v := .ref x) hl hn rfl
  intro T hT X
  obtain ⟨t, a, b⟩ := kk ls' h' T hT X
  refine ⟨t, ?_, b⟩
  have hexec := hS.1
  have hb := hS.2.1
  have e2 : storeLocals ls (n : Nat) (.ref (xa g x)) = some ls' := e'
  show Steps p.tables e below (T.setTop (F0 m pc ls (.ref (xa g x) :: st.map (xv g)))) t
  jvm_step X.here [X.here.top, ↓top_set X.here.top, hexec, hb, d, e2]
  first | exact a | exact ⟨rfl, a⟩
theorem X.astore {k : xk} {sc : xsc} {pc : Nat} {lv : Nat → Option Value} {st : List Value} {μ : xM} {Q : Option Value → xM → Prop} {n : Nat} {x : Nat} (d : decode k.2.1 pc = .ok (.astore n, 2)) (hn : (n : Nat) < k.2.2.1) (kk : X k sc (pc + 2) (up1 (n : Nat) (.ref x) lv) st μ Q) : X k sc pc lv (.ref x :: st) μ Q := by
  refine X.pure (fun p l e R s m args below meth c g hS H locs cells slots ls Z hH hl kk => ?_) kk
  obtain ⟨ls', e', h'⟩ := xstore1 (v := .ref x) hl hn rfl
  intro T hT X
  obtain ⟨t, a, b⟩ := kk ls' h' T hT X
  refine ⟨t, ?_, b⟩
  have hexec := hS.1
  have hb := hS.2.1
  have e2 : storeLocals ls (n : Nat) (.ref (xa g x)) = some ls' := e'
  show Steps p.tables e below (T.setTop (F0 m pc ls (.ref (xa g x) :: st.map (xv g)))) t
  jvm_step X.here [X.here.top, ↓top_set X.here.top, hexec, hb, d, e2]
  first | exact a | exact ⟨rfl, a⟩
theorem X.astore_nN {k : xk} {sc : xsc} {pc : Nat} {lv : Nat → Option Value} {st : List Value} {μ : xM} {Q : Option Value → xM → Prop} {n : Fin 4} (d : decode k.2.1 pc = .ok (.astore_n n, 1)) (hn : (n : Nat) < k.2.2.1) (kk : X k sc (pc + 1) (up1 (n : Nat) .null lv) st μ Q) : X k sc pc lv (.null :: st) μ Q := by
  refine X.pure (fun p l e R s m args below meth c g hS H locs cells slots ls Z hH hl kk => ?_) kk
  obtain ⟨ls', e', h'⟩ := xstore1 (v := .null) hl hn rfl
  intro T hT X
  obtain ⟨t, a, b⟩ := kk ls' h' T hT X
  refine ⟨t, ?_, b⟩
  have hexec := hS.1
  have hb := hS.2.1
  have e2 : storeLocals ls (n : Nat) .null = some ls' := e'
  show Steps p.tables e below (T.setTop (F0 m pc ls (.null :: st.map (xv g)))) t
  jvm_step X.here [X.here.top, ↓top_set X.here.top, hexec, hb, d, e2]
  first | exact a | exact ⟨rfl, a⟩
theorem X.astoreN {k : xk} {sc : xsc} {pc : Nat} {lv : Nat → Option Value} {st : List Value} {μ : xM} {Q : Option Value → xM → Prop} {n : Nat} (d : decode k.2.1 pc = .ok (.astore n, 2)) (hn : (n : Nat) < k.2.2.1) (kk : X k sc (pc + 2) (up1 (n : Nat) .null lv) st μ Q) : X k sc pc lv (.null :: st) μ Q := by
  refine X.pure (fun p l e R s m args below meth c g hS H locs cells slots ls Z hH hl kk => ?_) kk
  obtain ⟨ls', e', h'⟩ := xstore1 (v := .null) hl hn rfl
  intro T hT X
  obtain ⟨t, a, b⟩ := kk ls' h' T hT X
  refine ⟨t, ?_, b⟩
  have hexec := hS.1
  have hb := hS.2.1
  have e2 : storeLocals ls (n : Nat) .null = some ls' := e'
  show Steps p.tables e below (T.setTop (F0 m pc ls (.null :: st.map (xv g)))) t
  jvm_step X.here [X.here.top, ↓top_set X.here.top, hexec, hb, d, e2]
  first | exact a | exact ⟨rfl, a⟩
theorem X.iinc {k : xk} {sc : xsc} {pc : Nat} {lv : Nat → Option Value} {st : List Value} {μ : xM} {Q : Option Value → xM → Prop} {i : Nat} {n : Int} {x v : Int32} (d : decode k.2.1 pc = .ok (.iinc i n, 3)) (h : lv i = some (.int x)) (hv : x + Int32.ofInt n = v) (hn : i < k.2.2.1) (kk : X k sc (pc + 3) (up1 i (.int v) lv) st μ Q) : X k sc pc lv st μ Q := by
  refine X.pure (fun p l e R s m args below meth c g hS H locs cells slots ls Z hH hl kk => ?_) kk
  obtain ⟨ls', e', h'⟩ := xstore1 (v := .int v) hl hn rfl
  have hx := hl.2.2 i _ h
  intro T hT X
  obtain ⟨t, a, b⟩ := kk ls' h' T hT X
  refine ⟨t, ?_, b⟩
  have hexec := hS.1
  have hb := hS.2.1
  subst hv
  have e2 : storeLocals ls i (.int (x + Int32.ofInt n)) = some ls' := e'
  have hx2 : ls[i]? = some (.val (.int x)) := hx
  jvm_step X.here [X.here.top, ↓top_set X.here.top, hexec, hb, d, hx2, e2]
  exact a
theorem X.iadd {k : xk} {sc : xsc} {pc : Nat} {lv : Nat → Option Value} {st : List Value} {μ : xM} {Q : Option Value → xM → Prop} {x y : Int32} (d : decode k.2.1 pc = .ok (.iadd, 1)) (kk : X k sc (pc + 1) lv (.int (x + y) :: st) μ Q) : X k sc pc lv (.int y :: .int x :: st) μ Q := by
  refine X.pure (fun p l e R s m args below meth c g hS H locs cells slots ls Z hH hl kk => ?_) kk
  exact lv_iadd hS.1 hS.2.1 d (kk ls hl)
theorem X.isub {k : xk} {sc : xsc} {pc : Nat} {lv : Nat → Option Value} {st : List Value} {μ : xM} {Q : Option Value → xM → Prop} {x y : Int32} (d : decode k.2.1 pc = .ok (.isub, 1)) (kk : X k sc (pc + 1) lv (.int (x - y) :: st) μ Q) : X k sc pc lv (.int y :: .int x :: st) μ Q := by
  refine X.pure (fun p l e R s m args below meth c g hS H locs cells slots ls Z hH hl kk => ?_) kk
  exact lv_isub hS.1 hS.2.1 d (kk ls hl)
theorem X.imul {k : xk} {sc : xsc} {pc : Nat} {lv : Nat → Option Value} {st : List Value} {μ : xM} {Q : Option Value → xM → Prop} {x y : Int32} (d : decode k.2.1 pc = .ok (.imul, 1)) (kk : X k sc (pc + 1) lv (.int (x * y) :: st) μ Q) : X k sc pc lv (.int y :: .int x :: st) μ Q := by
  refine X.pure (fun p l e R s m args below meth c g hS H locs cells slots ls Z hH hl kk => ?_) kk
  exact lv_imul hS.1 hS.2.1 d (kk ls hl)
theorem X.iand {k : xk} {sc : xsc} {pc : Nat} {lv : Nat → Option Value} {st : List Value} {μ : xM} {Q : Option Value → xM → Prop} {x y : Int32} (d : decode k.2.1 pc = .ok (.iand, 1)) (kk : X k sc (pc + 1) lv (.int (x &&& y) :: st) μ Q) : X k sc pc lv (.int y :: .int x :: st) μ Q := by
  refine X.pure (fun p l e R s m args below meth c g hS H locs cells slots ls Z hH hl kk => ?_) kk
  exact lv_iand hS.1 hS.2.1 d (kk ls hl)
theorem X.ior {k : xk} {sc : xsc} {pc : Nat} {lv : Nat → Option Value} {st : List Value} {μ : xM} {Q : Option Value → xM → Prop} {x y : Int32} (d : decode k.2.1 pc = .ok (.ior, 1)) (kk : X k sc (pc + 1) lv (.int (x ||| y) :: st) μ Q) : X k sc pc lv (.int y :: .int x :: st) μ Q := by
  refine X.pure (fun p l e R s m args below meth c g hS H locs cells slots ls Z hH hl kk => ?_) kk
  exact lv_ior hS.1 hS.2.1 d (kk ls hl)
theorem X.ixor {k : xk} {sc : xsc} {pc : Nat} {lv : Nat → Option Value} {st : List Value} {μ : xM} {Q : Option Value → xM → Prop} {x y : Int32} (d : decode k.2.1 pc = .ok (.ixor, 1)) (kk : X k sc (pc + 1) lv (.int (x ^^^ y) :: st) μ Q) : X k sc pc lv (.int y :: .int x :: st) μ Q := by
  refine X.pure (fun p l e R s m args below meth c g hS H locs cells slots ls Z hH hl kk => ?_) kk
  exact lv_ixor hS.1 hS.2.1 d (kk ls hl)
theorem X.ladd {k : xk} {sc : xsc} {pc : Nat} {lv : Nat → Option Value} {st : List Value} {μ : xM} {Q : Option Value → xM → Prop} {x y : Int64} (d : decode k.2.1 pc = .ok (.ladd, 1)) (kk : X k sc (pc + 1) lv (.long (x + y) :: st) μ Q) : X k sc pc lv (.long y :: .long x :: st) μ Q := by
  refine X.pure (fun p l e R s m args below meth c g hS H locs cells slots ls Z hH hl kk => ?_) kk
  exact lv_ladd hS.1 hS.2.1 d (kk ls hl)
theorem X.lsub {k : xk} {sc : xsc} {pc : Nat} {lv : Nat → Option Value} {st : List Value} {μ : xM} {Q : Option Value → xM → Prop} {x y : Int64} (d : decode k.2.1 pc = .ok (.lsub, 1)) (kk : X k sc (pc + 1) lv (.long (x - y) :: st) μ Q) : X k sc pc lv (.long y :: .long x :: st) μ Q := by
  refine X.pure (fun p l e R s m args below meth c g hS H locs cells slots ls Z hH hl kk => ?_) kk
  exact lv_lsub hS.1 hS.2.1 d (kk ls hl)
theorem X.land {k : xk} {sc : xsc} {pc : Nat} {lv : Nat → Option Value} {st : List Value} {μ : xM} {Q : Option Value → xM → Prop} {x y : Int64} (d : decode k.2.1 pc = .ok (.land, 1)) (kk : X k sc (pc + 1) lv (.long (x &&& y) :: st) μ Q) : X k sc pc lv (.long y :: .long x :: st) μ Q := by
  refine X.pure (fun p l e R s m args below meth c g hS H locs cells slots ls Z hH hl kk => ?_) kk
  exact lv_land hS.1 hS.2.1 d (kk ls hl)
theorem X.lor {k : xk} {sc : xsc} {pc : Nat} {lv : Nat → Option Value} {st : List Value} {μ : xM} {Q : Option Value → xM → Prop} {x y : Int64} (d : decode k.2.1 pc = .ok (.lor, 1)) (kk : X k sc (pc + 1) lv (.long (x ||| y) :: st) μ Q) : X k sc pc lv (.long y :: .long x :: st) μ Q := by
  refine X.pure (fun p l e R s m args below meth c g hS H locs cells slots ls Z hH hl kk => ?_) kk
  exact lv_lor hS.1 hS.2.1 d (kk ls hl)
theorem X.irem {k : xk} {sc : xsc} {pc : Nat} {lv : Nat → Option Value} {st : List Value} {μ : xM} {Q : Option Value → xM → Prop} {x y : Int32} (d : decode k.2.1 pc = .ok (.irem, 1)) (hne : ¬ y = 0) (kk : X k sc (pc + 1) lv (.int (x - (x / y) * y) :: st) μ Q) : X k sc pc lv (.int y :: .int x :: st) μ Q := by
  refine X.pure (fun p l e R s m args below meth c g hS H locs cells slots ls Z hH hl kk => ?_) kk
  exact lv_irem hS.1 hS.2.1 d hne (kk ls hl)
theorem X.ineg {k : xk} {sc : xsc} {pc : Nat} {lv : Nat → Option Value} {st : List Value} {μ : xM} {Q : Option Value → xM → Prop} {x : Int32} (d : decode k.2.1 pc = .ok (.ineg, 1)) (kk : X k sc (pc + 1) lv (.int (-x) :: st) μ Q) : X k sc pc lv (.int x :: st) μ Q := by
  refine X.pure (fun p l e R s m args below meth c g hS H locs cells slots ls Z hH hl kk => ?_) kk
  exact lv_ineg hS.1 hS.2.1 d (kk ls hl)
theorem X.lneg {k : xk} {sc : xsc} {pc : Nat} {lv : Nat → Option Value} {st : List Value} {μ : xM} {Q : Option Value → xM → Prop} {x : Int64} (d : decode k.2.1 pc = .ok (.lneg, 1)) (kk : X k sc (pc + 1) lv (.long (-x) :: st) μ Q) : X k sc pc lv (.long x :: st) μ Q := by
  refine X.pure (fun p l e R s m args below meth c g hS H locs cells slots ls Z hH hl kk => ?_) kk
  exact lv_lneg hS.1 hS.2.1 d (kk ls hl)
theorem X.i2l {k : xk} {sc : xsc} {pc : Nat} {lv : Nat → Option Value} {st : List Value} {μ : xM} {Q : Option Value → xM → Prop} {x : Int32} (d : decode k.2.1 pc = .ok (.i2l, 1)) (kk : X k sc (pc + 1) lv (.long x.toInt64 :: st) μ Q) : X k sc pc lv (.int x :: st) μ Q := by
  refine X.pure (fun p l e R s m args below meth c g hS H locs cells slots ls Z hH hl kk => ?_) kk
  exact lv_i2l hS.1 hS.2.1 d rfl (kk ls hl)
theorem X.l2i {k : xk} {sc : xsc} {pc : Nat} {lv : Nat → Option Value} {st : List Value} {μ : xM} {Q : Option Value → xM → Prop} {x : Int64} (d : decode k.2.1 pc = .ok (.l2i, 1)) (kk : X k sc (pc + 1) lv (.int x.toInt32 :: st) μ Q) : X k sc pc lv (.long x :: st) μ Q := by
  refine X.pure (fun p l e R s m args below meth c g hS H locs cells slots ls Z hH hl kk => ?_) kk
  exact lv_l2i hS.1 hS.2.1 d rfl (kk ls hl)
theorem X.i2b {k : xk} {sc : xsc} {pc : Nat} {lv : Nat → Option Value} {st : List Value} {μ : xM} {Q : Option Value → xM → Prop} {x : Int32} (d : decode k.2.1 pc = .ok (.i2b, 1)) (kk : X k sc (pc + 1) lv (.int x.toInt8.toInt32 :: st) μ Q) : X k sc pc lv (.int x :: st) μ Q := by
  refine X.pure (fun p l e R s m args below meth c g hS H locs cells slots ls Z hH hl kk => ?_) kk
  exact lv_i2b hS.1 hS.2.1 d rfl (kk ls hl)
theorem X.i2s {k : xk} {sc : xsc} {pc : Nat} {lv : Nat → Option Value} {st : List Value} {μ : xM} {Q : Option Value → xM → Prop} {x : Int32} (d : decode k.2.1 pc = .ok (.i2s, 1)) (kk : X k sc (pc + 1) lv (.int x.toInt16.toInt32 :: st) μ Q) : X k sc pc lv (.int x :: st) μ Q := by
  refine X.pure (fun p l e R s m args below meth c g hS H locs cells slots ls Z hH hl kk => ?_) kk
  exact lv_i2s hS.1 hS.2.1 d rfl (kk ls hl)
theorem X.i2c {k : xk} {sc : xsc} {pc : Nat} {lv : Nat → Option Value} {st : List Value} {μ : xM} {Q : Option Value → xM → Prop} {x : Int32} (d : decode k.2.1 pc = .ok (.i2c, 1)) (kk : X k sc (pc + 1) lv (.int (x.toUInt32 % 65536).toInt32 :: st) μ Q) : X k sc pc lv (.int x :: st) μ Q := by
  refine X.pure (fun p l e R s m args below meth c g hS H locs cells slots ls Z hH hl kk => ?_) kk
  exact lv_i2c hS.1 hS.2.1 d rfl (kk ls hl)
theorem X.lushr {k : xk} {sc : xsc} {pc : Nat} {lv : Nat → Option Value} {st : List Value} {μ : xM} {Q : Option Value → xM → Prop} {x : Int64} {y : Int32} (d : decode k.2.1 pc = .ok (.lushr, 1)) (kk : X k sc (pc + 1) lv (.long (x.toUInt64 >>> (y.toInt64.toUInt64 &&& Int64.toUInt64 63)).toInt64 :: st) μ Q) : X k sc pc lv (.int y :: .long x :: st) μ Q := by
  refine X.pure (fun p l e R s m args below meth c g hS H locs cells slots ls Z hH hl kk => ?_) kk
  exact lv_lushr hS.1 hS.2.1 d rfl (kk ls hl)
theorem X.lshl {k : xk} {sc : xsc} {pc : Nat} {lv : Nat → Option Value} {st : List Value} {μ : xM} {Q : Option Value → xM → Prop} {x : Int64} {y : Int32} (d : decode k.2.1 pc = .ok (.lshl, 1)) (kk : X k sc (pc + 1) lv (.long (x <<< (y.toInt64 &&& 63)) :: st) μ Q) : X k sc pc lv (.int y :: .long x :: st) μ Q := by
  refine X.pure (fun p l e R s m args below meth c g hS H locs cells slots ls Z hH hl kk => ?_) kk
  exact lv_lshl hS.1 hS.2.1 d rfl (kk ls hl)
theorem X.l2f {k : xk} {sc : xsc} {pc : Nat} {lv : Nat → Option Value} {st : List Value} {μ : xM} {Q : Option Value → xM → Prop} {x : Int64} (d : decode k.2.1 pc = .ok (.l2f, 1)) (kk : X k sc (pc + 1) lv (.float (FP.l2f x) :: st) μ Q) : X k sc pc lv (.long x :: st) μ Q := by
  refine X.pure (fun p l e R s m args below meth c g hS H locs cells slots ls Z hH hl kk => ?_) kk
  exact lv_l2f hS.1 hS.2.1 d (kk ls hl)
theorem X.f2l {k : xk} {sc : xsc} {pc : Nat} {lv : Nat → Option Value} {st : List Value} {μ : xM} {Q : Option Value → xM → Prop} {x : UInt32} (d : decode k.2.1 pc = .ok (.f2l, 1)) (kk : X k sc (pc + 1) lv (.long (FP.f2l x) :: st) μ Q) : X k sc pc lv (.float x :: st) μ Q := by
  refine X.pure (fun p l e R s m args below meth c g hS H locs cells slots ls Z hH hl kk => ?_) kk
  exact lv_f2l hS.1 hS.2.1 d (kk ls hl)
theorem X.l2d {k : xk} {sc : xsc} {pc : Nat} {lv : Nat → Option Value} {st : List Value} {μ : xM} {Q : Option Value → xM → Prop} {x : Int64} (d : decode k.2.1 pc = .ok (.l2d, 1)) (kk : X k sc (pc + 1) lv (.double (FP.l2d x) :: st) μ Q) : X k sc pc lv (.long x :: st) μ Q := by
  refine X.pure (fun p l e R s m args below meth c g hS H locs cells slots ls Z hH hl kk => ?_) kk
  exact lv_l2d hS.1 hS.2.1 d (kk ls hl)
theorem X.d2l {k : xk} {sc : xsc} {pc : Nat} {lv : Nat → Option Value} {st : List Value} {μ : xM} {Q : Option Value → xM → Prop} {x : UInt64} (d : decode k.2.1 pc = .ok (.d2l, 1)) (kk : X k sc (pc + 1) lv (.long (FP.d2l x) :: st) μ Q) : X k sc pc lv (.double x :: st) μ Q := by
  refine X.pure (fun p l e R s m args below meth c g hS H locs cells slots ls Z hH hl kk => ?_) kk
  exact lv_d2l hS.1 hS.2.1 d (kk ls hl)
theorem X.lcmp {k : xk} {sc : xsc} {pc : Nat} {lv : Nat → Option Value} {st : List Value} {μ : xM} {Q : Option Value → xM → Prop} {x y : Int64} (d : decode k.2.1 pc = .ok (.lcmp, 1)) (kk : X k sc (pc + 1) lv (.int (lg_cmp x y) :: st) μ Q) : X k sc pc lv (.long y :: .long x :: st) μ Q := by
  refine X.pure (fun p l e R s m args below meth c g hS H locs cells slots ls Z hH hl kk => ?_) kk
  exact W.lcmp hS.1 hS.2.1 d (kk ls hl)
theorem X.dupI {k : xk} {sc : xsc} {pc : Nat} {lv : Nat → Option Value} {st : List Value} {μ : xM} {Q : Option Value → xM → Prop} {x : Int32} (d : decode k.2.1 pc = .ok (.dup, 1)) (kk : X k sc (pc + 1) lv (.int x :: .int x :: st) μ Q) : X k sc pc lv (.int x :: st) μ Q := by
  refine X.pure (fun p l e R s m args below meth c g hS H locs cells slots ls Z hH hl kk => ?_) kk
  exact lv_dup (va := xv g (.int x)) hS.1 hS.2.1 d rfl (kk ls hl)
theorem X.dup {k : xk} {sc : xsc} {pc : Nat} {lv : Nat → Option Value} {st : List Value} {μ : xM} {Q : Option Value → xM → Prop} {x : Nat} (d : decode k.2.1 pc = .ok (.dup, 1)) (kk : X k sc (pc + 1) lv (.ref x :: .ref x :: st) μ Q) : X k sc pc lv (.ref x :: st) μ Q := by
  refine X.pure (fun p l e R s m args below meth c g hS H locs cells slots ls Z hH hl kk => ?_) kk
  exact lv_dup (va := xv g (.ref x)) hS.1 hS.2.1 d rfl (kk ls hl)
theorem X.dup2 {k : xk} {sc : xsc} {pc : Nat} {lv : Nat → Option Value} {st : List Value} {μ : xM} {Q : Option Value → xM → Prop} {a : Nat} {j : Int32} (d : decode k.2.1 pc = .ok (.dup2, 1)) (kk : X k sc (pc + 1) lv (.int j :: .ref a :: .int j :: .ref a :: st) μ Q) : X k sc pc lv (.int j :: .ref a :: st) μ Q := by
  refine X.pure (fun p l e R s m args below meth c g hS H locs cells slots ls Z hH hl kk => ?_) kk
  exact lv_dup2_11 (va := .int j) (vb := .ref (xa g a)) hS.1 hS.2.1 d rfl rfl (kk ls hl)
theorem X.pop {k : xk} {sc : xsc} {pc : Nat} {lv : Nat → Option Value} {st : List Value} {μ : xM} {Q : Option Value → xM → Prop} {x : Int32} (d : decode k.2.1 pc = .ok (.pop, 1)) (kk : X k sc (pc + 1) lv st μ Q) : X k sc pc lv (.int x :: st) μ Q := by
  refine X.pure (fun p l e R s m args below meth c g hS H locs cells slots ls Z hH hl kk => ?_) kk
  exact lv_pop (va := .int x) hS.1 hS.2.1 d rfl (kk ls hl)
theorem X.goto {k : xk} {sc : xsc} {pc : Nat} {lv : Nat → Option Value} {st : List Value} {μ : xM} {Q : Option Value → xM → Prop} {off : Int} {tgt : Nat} (d : decode k.2.1 pc = .ok (.goto off, 3)) (ht : (pc : Int) + off = (tgt : Int)) (kk : X k sc (tgt) lv st μ Q) : X k sc pc lv st μ Q := by
  refine X.pure (fun p l e R s m args below meth c g hS H locs cells slots ls Z hH hl kk => ?_) kk
  exact lv_goto hS.1 hS.2.1 d ht (kk ls hl)
theorem X.if_eq_t {k : xk} {sc : xsc} {pc : Nat} {lv : Nat → Option Value} {st : List Value} {μ : xM} {Q : Option Value → xM → Prop} {x : Int32} {off : Int} {tgt : Nat} (d : decode k.2.1 pc = .ok (.ifCond .eq off, 3)) (ht : (pc : Int) + off = (tgt : Int)) (h : (x = 0)) (kk : X k sc (tgt) lv st μ Q) : X k sc pc lv (.int x :: st) μ Q := by
  refine X.pure (fun p l e R s m args below meth c g hS H locs cells slots ls Z hH hl kk => ?_) kk
  exact lv_if_eq hS.1 hS.2.1 d ht (fun _ => kk ls hl) (fun q => absurd h q)
theorem X.if_eq_f {k : xk} {sc : xsc} {pc : Nat} {lv : Nat → Option Value} {st : List Value} {μ : xM} {Q : Option Value → xM → Prop} {x : Int32} {off : Int} {tgt : Nat} (d : decode k.2.1 pc = .ok (.ifCond .eq off, 3)) (ht : (pc : Int) + off = (tgt : Int)) (h : ¬ (x = 0)) (kk : X k sc (pc + 3) lv st μ Q) : X k sc pc lv (.int x :: st) μ Q := by
  refine X.pure (fun p l e R s m args below meth c g hS H locs cells slots ls Z hH hl kk => ?_) kk
  exact lv_if_eq hS.1 hS.2.1 d ht (fun q => absurd q h) (fun _ => kk ls hl)
theorem X.if_eq {k : xk} {sc : xsc} {pc : Nat} {lv : Nat → Option Value} {st : List Value} {μ : xM} {Q : Option Value → xM → Prop} {x : Int32} {off : Int} {tgt : Nat} (d : decode k.2.1 pc = .ok (.ifCond .eq off, 3)) (ht : (pc : Int) + off = (tgt : Int)) (kt : (x = 0) → X k sc tgt lv st μ Q) (kf : ¬ (x = 0) → X k sc (pc + 3) lv st μ Q) : X k sc pc lv (.int x :: st) μ Q := by
  by_cases h : (x = 0)
  · exact X.if_eq_t d ht h (kt h)
  · exact X.if_eq_f d ht h (kf h)
theorem X.icmp_eq_t {k : xk} {sc : xsc} {pc : Nat} {lv : Nat → Option Value} {st : List Value} {μ : xM} {Q : Option Value → xM → Prop} {x y : Int32} {off : Int} {tgt : Nat} (d : decode k.2.1 pc = .ok (.if_icmp .eq off, 3)) (ht : (pc : Int) + off = (tgt : Int)) (h : (x = y)) (kk : X k sc (tgt) lv st μ Q) : X k sc pc lv (.int y :: .int x :: st) μ Q := by
  refine X.pure (fun p l e R s m args below meth c g hS H locs cells slots ls Z hH hl kk => ?_) kk
  exact lv_icmp_eq hS.1 hS.2.1 d ht (fun _ => kk ls hl) (fun q => absurd h q)
theorem X.icmp_eq_f {k : xk} {sc : xsc} {pc : Nat} {lv : Nat → Option Value} {st : List Value} {μ : xM} {Q : Option Value → xM → Prop} {x y : Int32} {off : Int} {tgt : Nat} (d : decode k.2.1 pc = .ok (.if_icmp .eq off, 3)) (ht : (pc : Int) + off = (tgt : Int)) (h : ¬ (x = y)) (kk : X k sc (pc + 3) lv st μ Q) : X k sc pc lv (.int y :: .int x :: st) μ Q := by
  refine X.pure (fun p l e R s m args below meth c g hS H locs cells slots ls Z hH hl kk => ?_) kk
  exact lv_icmp_eq hS.1 hS.2.1 d ht (fun q => absurd q h) (fun _ => kk ls hl)
theorem X.icmp_eq {k : xk} {sc : xsc} {pc : Nat} {lv : Nat → Option Value} {st : List Value} {μ : xM} {Q : Option Value → xM → Prop} {x y : Int32} {off : Int} {tgt : Nat} (d : decode k.2.1 pc = .ok (.if_icmp .eq off, 3)) (ht : (pc : Int) + off = (tgt : Int)) (kt : (x = y) → X k sc tgt lv st μ Q) (kf : ¬ (x = y) → X k sc (pc + 3) lv st μ Q) : X k sc pc lv (.int y :: .int x :: st) μ Q := by
  by_cases h : (x = y)
  · exact X.icmp_eq_t d ht h (kt h)
  · exact X.icmp_eq_f d ht h (kf h)
theorem X.if_ne_t {k : xk} {sc : xsc} {pc : Nat} {lv : Nat → Option Value} {st : List Value} {μ : xM} {Q : Option Value → xM → Prop} {x : Int32} {off : Int} {tgt : Nat} (d : decode k.2.1 pc = .ok (.ifCond .ne off, 3)) (ht : (pc : Int) + off = (tgt : Int)) (h : (¬ x = 0)) (kk : X k sc (tgt) lv st μ Q) : X k sc pc lv (.int x :: st) μ Q := by
  refine X.pure (fun p l e R s m args below meth c g hS H locs cells slots ls Z hH hl kk => ?_) kk
  exact lv_if_ne hS.1 hS.2.1 d ht (fun _ => kk ls hl) (fun q => absurd q h)
theorem X.if_ne_f {k : xk} {sc : xsc} {pc : Nat} {lv : Nat → Option Value} {st : List Value} {μ : xM} {Q : Option Value → xM → Prop} {x : Int32} {off : Int} {tgt : Nat} (d : decode k.2.1 pc = .ok (.ifCond .ne off, 3)) (ht : (pc : Int) + off = (tgt : Int)) (h : (x = 0)) (kk : X k sc (pc + 3) lv st μ Q) : X k sc pc lv (.int x :: st) μ Q := by
  refine X.pure (fun p l e R s m args below meth c g hS H locs cells slots ls Z hH hl kk => ?_) kk
  exact lv_if_ne hS.1 hS.2.1 d ht (fun q => absurd h q) (fun _ => kk ls hl)
theorem X.if_ne {k : xk} {sc : xsc} {pc : Nat} {lv : Nat → Option Value} {st : List Value} {μ : xM} {Q : Option Value → xM → Prop} {x : Int32} {off : Int} {tgt : Nat} (d : decode k.2.1 pc = .ok (.ifCond .ne off, 3)) (ht : (pc : Int) + off = (tgt : Int)) (kt : (¬ x = 0) → X k sc tgt lv st μ Q) (kf : (x = 0) → X k sc (pc + 3) lv st μ Q) : X k sc pc lv (.int x :: st) μ Q := by
  by_cases h : (x = 0)
  · exact X.if_ne_f d ht h (kf h)
  · exact X.if_ne_t d ht h (kt h)
theorem X.icmp_ne_t {k : xk} {sc : xsc} {pc : Nat} {lv : Nat → Option Value} {st : List Value} {μ : xM} {Q : Option Value → xM → Prop} {x y : Int32} {off : Int} {tgt : Nat} (d : decode k.2.1 pc = .ok (.if_icmp .ne off, 3)) (ht : (pc : Int) + off = (tgt : Int)) (h : (¬ x = y)) (kk : X k sc (tgt) lv st μ Q) : X k sc pc lv (.int y :: .int x :: st) μ Q := by
  refine X.pure (fun p l e R s m args below meth c g hS H locs cells slots ls Z hH hl kk => ?_) kk
  exact lv_icmp_ne hS.1 hS.2.1 d ht (fun _ => kk ls hl) (fun q => absurd q h)
theorem X.icmp_ne_f {k : xk} {sc : xsc} {pc : Nat} {lv : Nat → Option Value} {st : List Value} {μ : xM} {Q : Option Value → xM → Prop} {x y : Int32} {off : Int} {tgt : Nat} (d : decode k.2.1 pc = .ok (.if_icmp .ne off, 3)) (ht : (pc : Int) + off = (tgt : Int)) (h : (x = y)) (kk : X k sc (pc + 3) lv st μ Q) : X k sc pc lv (.int y :: .int x :: st) μ Q := by
  refine X.pure (fun p l e R s m args below meth c g hS H locs cells slots ls Z hH hl kk => ?_) kk
  exact lv_icmp_ne hS.1 hS.2.1 d ht (fun q => absurd h q) (fun _ => kk ls hl)
theorem X.icmp_ne {k : xk} {sc : xsc} {pc : Nat} {lv : Nat → Option Value} {st : List Value} {μ : xM} {Q : Option Value → xM → Prop} {x y : Int32} {off : Int} {tgt : Nat} (d : decode k.2.1 pc = .ok (.if_icmp .ne off, 3)) (ht : (pc : Int) + off = (tgt : Int)) (kt : (¬ x = y) → X k sc tgt lv st μ Q) (kf : (x = y) → X k sc (pc + 3) lv st μ Q) : X k sc pc lv (.int y :: .int x :: st) μ Q := by
  by_cases h : (x = y)
  · exact X.icmp_ne_f d ht h (kf h)
  · exact X.icmp_ne_t d ht h (kt h)
theorem X.if_lt_t {k : xk} {sc : xsc} {pc : Nat} {lv : Nat → Option Value} {st : List Value} {μ : xM} {Q : Option Value → xM → Prop} {x : Int32} {off : Int} {tgt : Nat} (d : decode k.2.1 pc = .ok (.ifCond .lt off, 3)) (ht : (pc : Int) + off = (tgt : Int)) (h : (x < 0)) (kk : X k sc (tgt) lv st μ Q) : X k sc pc lv (.int x :: st) μ Q := by
  refine X.pure (fun p l e R s m args below meth c g hS H locs cells slots ls Z hH hl kk => ?_) kk
  exact lv_if_lt hS.1 hS.2.1 d ht (fun _ => kk ls hl) (fun q => absurd h q)
theorem X.if_lt_f {k : xk} {sc : xsc} {pc : Nat} {lv : Nat → Option Value} {st : List Value} {μ : xM} {Q : Option Value → xM → Prop} {x : Int32} {off : Int} {tgt : Nat} (d : decode k.2.1 pc = .ok (.ifCond .lt off, 3)) (ht : (pc : Int) + off = (tgt : Int)) (h : ¬ (x < 0)) (kk : X k sc (pc + 3) lv st μ Q) : X k sc pc lv (.int x :: st) μ Q := by
  refine X.pure (fun p l e R s m args below meth c g hS H locs cells slots ls Z hH hl kk => ?_) kk
  exact lv_if_lt hS.1 hS.2.1 d ht (fun q => absurd q h) (fun _ => kk ls hl)
theorem X.if_lt {k : xk} {sc : xsc} {pc : Nat} {lv : Nat → Option Value} {st : List Value} {μ : xM} {Q : Option Value → xM → Prop} {x : Int32} {off : Int} {tgt : Nat} (d : decode k.2.1 pc = .ok (.ifCond .lt off, 3)) (ht : (pc : Int) + off = (tgt : Int)) (kt : (x < 0) → X k sc tgt lv st μ Q) (kf : ¬ (x < 0) → X k sc (pc + 3) lv st μ Q) : X k sc pc lv (.int x :: st) μ Q := by
  by_cases h : (x < 0)
  · exact X.if_lt_t d ht h (kt h)
  · exact X.if_lt_f d ht h (kf h)
theorem X.icmp_lt_t {k : xk} {sc : xsc} {pc : Nat} {lv : Nat → Option Value} {st : List Value} {μ : xM} {Q : Option Value → xM → Prop} {x y : Int32} {off : Int} {tgt : Nat} (d : decode k.2.1 pc = .ok (.if_icmp .lt off, 3)) (ht : (pc : Int) + off = (tgt : Int)) (h : (x < y)) (kk : X k sc (tgt) lv st μ Q) : X k sc pc lv (.int y :: .int x :: st) μ Q := by
  refine X.pure (fun p l e R s m args below meth c g hS H locs cells slots ls Z hH hl kk => ?_) kk
  exact lv_icmp_lt hS.1 hS.2.1 d ht (fun _ => kk ls hl) (fun q => absurd h q)
theorem X.icmp_lt_f {k : xk} {sc : xsc} {pc : Nat} {lv : Nat → Option Value} {st : List Value} {μ : xM} {Q : Option Value → xM → Prop} {x y : Int32} {off : Int} {tgt : Nat} (d : decode k.2.1 pc = .ok (.if_icmp .lt off, 3)) (ht : (pc : Int) + off = (tgt : Int)) (h : ¬ (x < y)) (kk : X k sc (pc + 3) lv st μ Q) : X k sc pc lv (.int y :: .int x :: st) μ Q := by
  refine X.pure (fun p l e R s m args below meth c g hS H locs cells slots ls Z hH hl kk => ?_) kk
  exact lv_icmp_lt hS.1 hS.2.1 d ht (fun q => absurd q h) (fun _ => kk ls hl)
theorem X.icmp_lt {k : xk} {sc : xsc} {pc : Nat} {lv : Nat → Option Value} {st : List Value} {μ : xM} {Q : Option Value → xM → Prop} {x y : Int32} {off : Int} {tgt : Nat} (d : decode k.2.1 pc = .ok (.if_icmp .lt off, 3)) (ht : (pc : Int) + off = (tgt : Int)) (kt : (x < y) → X k sc tgt lv st μ Q) (kf : ¬ (x < y) → X k sc (pc + 3) lv st μ Q) : X k sc pc lv (.int y :: .int x :: st) μ Q := by
  by_cases h : (x < y)
  · exact X.icmp_lt_t d ht h (kt h)
  · exact X.icmp_lt_f d ht h (kf h)
theorem X.if_ge_t {k : xk} {sc : xsc} {pc : Nat} {lv : Nat → Option Value} {st : List Value} {μ : xM} {Q : Option Value → xM → Prop} {x : Int32} {off : Int} {tgt : Nat} (d : decode k.2.1 pc = .ok (.ifCond .ge off, 3)) (ht : (pc : Int) + off = (tgt : Int)) (h : (0 ≤ x)) (kk : X k sc (tgt) lv st μ Q) : X k sc pc lv (.int x :: st) μ Q := by
  refine X.pure (fun p l e R s m args below meth c g hS H locs cells slots ls Z hH hl kk => ?_) kk
  exact lv_if_ge hS.1 hS.2.1 d ht (fun _ => kk ls hl) (fun q => absurd h q)
theorem X.if_ge_f {k : xk} {sc : xsc} {pc : Nat} {lv : Nat → Option Value} {st : List Value} {μ : xM} {Q : Option Value → xM → Prop} {x : Int32} {off : Int} {tgt : Nat} (d : decode k.2.1 pc = .ok (.ifCond .ge off, 3)) (ht : (pc : Int) + off = (tgt : Int)) (h : ¬ (0 ≤ x)) (kk : X k sc (pc + 3) lv st μ Q) : X k sc pc lv (.int x :: st) μ Q := by
  refine X.pure (fun p l e R s m args below meth c g hS H locs cells slots ls Z hH hl kk => ?_) kk
  exact lv_if_ge hS.1 hS.2.1 d ht (fun q => absurd q h) (fun _ => kk ls hl)
theorem X.if_ge {k : xk} {sc : xsc} {pc : Nat} {lv : Nat → Option Value} {st : List Value} {μ : xM} {Q : Option Value → xM → Prop} {x : Int32} {off : Int} {tgt : Nat} (d : decode k.2.1 pc = .ok (.ifCond .ge off, 3)) (ht : (pc : Int) + off = (tgt : Int)) (kt : (0 ≤ x) → X k sc tgt lv st μ Q) (kf : ¬ (0 ≤ x) → X k sc (pc + 3) lv st μ Q) : X k sc pc lv (.int x :: st) μ Q := by
  by_cases h : (0 ≤ x)
  · exact X.if_ge_t d ht h (kt h)
  · exact X.if_ge_f d ht h (kf h)
theorem X.icmp_ge_t {k : xk} {sc : xsc} {pc : Nat} {lv : Nat → Option Value} {st : List Value} {μ : xM} {Q : Option Value → xM → Prop} {x y : Int32} {off : Int} {tgt : Nat} (d : decode k.2.1 pc = .ok (.if_icmp .ge off, 3)) (ht : (pc : Int) + off = (tgt : Int)) (h : (y ≤ x)) (kk : X k sc (tgt) lv st μ Q) : X k sc pc lv (.int y :: .int x :: st) μ Q := by
  refine X.pure (fun p l e R s m args below meth c g hS H locs cells slots ls Z hH hl kk => ?_) kk
  exact lv_icmp_ge hS.1 hS.2.1 d ht (fun _ => kk ls hl) (fun q => absurd h q)
theorem X.icmp_ge_f {k : xk} {sc : xsc} {pc : Nat} {lv : Nat → Option Value} {st : List Value} {μ : xM} {Q : Option Value → xM → Prop} {x y : Int32} {off : Int} {tgt : Nat} (d : decode k.2.1 pc = .ok (.if_icmp .ge off, 3)) (ht : (pc : Int) + off = (tgt : Int)) (h : ¬ (y ≤ x)) (kk : X k sc (pc + 3) lv st μ Q) : X k sc pc lv (.int y :: .int x :: st) μ Q := by
  refine X.pure (fun p l e R s m args below meth c g hS H locs cells slots ls Z hH hl kk => ?_) kk
  exact lv_icmp_ge hS.1 hS.2.1 d ht (fun q => absurd q h) (fun _ => kk ls hl)
theorem X.icmp_ge {k : xk} {sc : xsc} {pc : Nat} {lv : Nat → Option Value} {st : List Value} {μ : xM} {Q : Option Value → xM → Prop} {x y : Int32} {off : Int} {tgt : Nat} (d : decode k.2.1 pc = .ok (.if_icmp .ge off, 3)) (ht : (pc : Int) + off = (tgt : Int)) (kt : (y ≤ x) → X k sc tgt lv st μ Q) (kf : ¬ (y ≤ x) → X k sc (pc + 3) lv st μ Q) : X k sc pc lv (.int y :: .int x :: st) μ Q := by
  by_cases h : (y ≤ x)
  · exact X.icmp_ge_t d ht h (kt h)
  · exact X.icmp_ge_f d ht h (kf h)
theorem X.if_gt_t {k : xk} {sc : xsc} {pc : Nat} {lv : Nat → Option Value} {st : List Value} {μ : xM} {Q : Option Value → xM → Prop} {x : Int32} {off : Int} {tgt : Nat} (d : decode k.2.1 pc = .ok (.ifCond .gt off, 3)) (ht : (pc : Int) + off = (tgt : Int)) (h : (0 < x)) (kk : X k sc (tgt) lv st μ Q) : X k sc pc lv (.int x :: st) μ Q := by
  refine X.pure (fun p l e R s m args below meth c g hS H locs cells slots ls Z hH hl kk => ?_) kk
  exact lv_if_gt hS.1 hS.2.1 d ht (fun _ => kk ls hl) (fun q => absurd h q)
theorem X.if_gt_f {k : xk} {sc : xsc} {pc : Nat} {lv : Nat → Option Value} {st : List Value} {μ : xM} {Q : Option Value → xM → Prop} {x : Int32} {off : Int} {tgt : Nat} (d : decode k.2.1 pc = .ok (.ifCond .gt off, 3)) (ht : (pc : Int) + off = (tgt : Int)) (h : ¬ (0 < x)) (kk : X k sc (pc + 3) lv st μ Q) : X k sc pc lv (.int x :: st) μ Q := by
  refine X.pure (fun p l e R s m args below meth c g hS H locs cells slots ls Z hH hl kk => ?_) kk
  exact lv_if_gt hS.1 hS.2.1 d ht (fun q => absurd q h) (fun _ => kk ls hl)
theorem X.if_gt {k : xk} {sc : xsc} {pc : Nat} {lv : Nat → Option Value} {st : List Value} {μ : xM} {Q : Option Value → xM → Prop} {x : Int32} {off : Int} {tgt : Nat} (d : decode k.2.1 pc = .ok (.ifCond .gt off, 3)) (ht : (pc : Int) + off = (tgt : Int)) (kt : (0 < x) → X k sc tgt lv st μ Q) (kf : ¬ (0 < x) → X k sc (pc + 3) lv st μ Q) : X k sc pc lv (.int x :: st) μ Q := by
  by_cases h : (0 < x)
  · exact X.if_gt_t d ht h (kt h)
  · exact X.if_gt_f d ht h (kf h)
theorem X.icmp_gt_t {k : xk} {sc : xsc} {pc : Nat} {lv : Nat → Option Value} {st : List Value} {μ : xM} {Q : Option Value → xM → Prop} {x y : Int32} {off : Int} {tgt : Nat} (d : decode k.2.1 pc = .ok (.if_icmp .gt off, 3)) (ht : (pc : Int) + off = (tgt : Int)) (h : (y < x)) (kk : X k sc (tgt) lv st μ Q) : X k sc pc lv (.int y :: .int x :: st) μ Q := by
  refine X.pure (fun p l e R s m args below meth c g hS H locs cells slots ls Z hH hl kk => ?_) kk
  exact lv_icmp_gt hS.1 hS.2.1 d ht (fun _ => kk ls hl) (fun q => absurd h q)
theorem X.icmp_gt_f {k : xk} {sc : xsc} {pc : Nat} {lv : Nat → Option Value} {st : List Value} {μ : xM} {Q : Option Value → xM → Prop} {x y : Int32} {off : Int} {tgt : Nat} (d : decode k.2.1 pc = .ok (.if_icmp .gt off, 3)) (ht : (pc : Int) + off = (tgt : Int)) (h : ¬ (y < x)) (kk : X k sc (pc + 3) lv st μ Q) : X k sc pc lv (.int y :: .int x :: st) μ Q := by
  refine X.pure (fun p l e R s m args below meth c g hS H locs cells slots ls Z hH hl kk => ?_) kk
  exact lv_icmp_gt hS.1 hS.2.1 d ht (fun q => absurd q h) (fun _ => kk ls hl)
theorem X.icmp_gt {k : xk} {sc : xsc} {pc : Nat} {lv : Nat → Option Value} {st : List Value} {μ : xM} {Q : Option Value → xM → Prop} {x y : Int32} {off : Int} {tgt : Nat} (d : decode k.2.1 pc = .ok (.if_icmp .gt off, 3)) (ht : (pc : Int) + off = (tgt : Int)) (kt : (y < x) → X k sc tgt lv st μ Q) (kf : ¬ (y < x) → X k sc (pc + 3) lv st μ Q) : X k sc pc lv (.int y :: .int x :: st) μ Q := by
  by_cases h : (y < x)
  · exact X.icmp_gt_t d ht h (kt h)
  · exact X.icmp_gt_f d ht h (kf h)
theorem X.if_le_t {k : xk} {sc : xsc} {pc : Nat} {lv : Nat → Option Value} {st : List Value} {μ : xM} {Q : Option Value → xM → Prop} {x : Int32} {off : Int} {tgt : Nat} (d : decode k.2.1 pc = .ok (.ifCond .le off, 3)) (ht : (pc : Int) + off = (tgt : Int)) (h : (x ≤ 0)) (kk : X k sc (tgt) lv st μ Q) : X k sc pc lv (.int x :: st) μ Q := by
  refine X.pure (fun p l e R s m args below meth c g hS H locs cells slots ls Z hH hl kk => ?_) kk
  exact lv_if_le hS.1 hS.2.1 d ht (fun _ => kk ls hl) (fun q => absurd h q)
theorem X.if_le_f {k : xk} {sc : xsc} {pc : Nat} {lv : Nat → Option Value} {st : List Value} {μ : xM} {Q : Option Value → xM → Prop} {x : Int32} {off : Int} {tgt : Nat} (d : decode k.2.1 pc = .ok (.ifCond .le off, 3)) (ht : (pc : Int) + off = (tgt : Int)) (h : ¬ (x ≤ 0)) (kk : X k sc (pc + 3) lv st μ Q) : X k sc pc lv (.int x :: st) μ Q := by
  refine X.pure (fun p l e R s m args below meth c g hS H locs cells slots ls Z hH hl kk => ?_) kk
  exact lv_if_le hS.1 hS.2.1 d ht (fun q => absurd q h) (fun _ => kk ls hl)
theorem X.if_le {k : xk} {sc : xsc} {pc : Nat} {lv : Nat → Option Value} {st : List Value} {μ : xM} {Q : Option Value → xM → Prop} {x : Int32} {off : Int} {tgt : Nat} (d : decode k.2.1 pc = .ok (.ifCond .le off, 3)) (ht : (pc : Int) + off = (tgt : Int)) (kt : (x ≤ 0) → X k sc tgt lv st μ Q) (kf : ¬ (x ≤ 0) → X k sc (pc + 3) lv st μ Q) : X k sc pc lv (.int x :: st) μ Q := by
  by_cases h : (x ≤ 0)
  · exact X.if_le_t d ht h (kt h)
  · exact X.if_le_f d ht h (kf h)
theorem X.icmp_le_t {k : xk} {sc : xsc} {pc : Nat} {lv : Nat → Option Value} {st : List Value} {μ : xM} {Q : Option Value → xM → Prop} {x y : Int32} {off : Int} {tgt : Nat} (d : decode k.2.1 pc = .ok (.if_icmp .le off, 3)) (ht : (pc : Int) + off = (tgt : Int)) (h : (x ≤ y)) (kk : X k sc (tgt) lv st μ Q) : X k sc pc lv (.int y :: .int x :: st) μ Q := by
  refine X.pure (fun p l e R s m args below meth c g hS H locs cells slots ls Z hH hl kk => ?_) kk
  exact lv_icmp_le hS.1 hS.2.1 d ht (fun _ => kk ls hl) (fun q => absurd h q)
theorem X.icmp_le_f {k : xk} {sc : xsc} {pc : Nat} {lv : Nat → Option Value} {st : List Value} {μ : xM} {Q : Option Value → xM → Prop} {x y : Int32} {off : Int} {tgt : Nat} (d : decode k.2.1 pc = .ok (.if_icmp .le off, 3)) (ht : (pc : Int) + off = (tgt : Int)) (h : ¬ (x ≤ y)) (kk : X k sc (pc + 3) lv st μ Q) : X k sc pc lv (.int y :: .int x :: st) μ Q := by
  refine X.pure (fun p l e R s m args below meth c g hS H locs cells slots ls Z hH hl kk => ?_) kk
  exact lv_icmp_le hS.1 hS.2.1 d ht (fun q => absurd q h) (fun _ => kk ls hl)
theorem X.icmp_le {k : xk} {sc : xsc} {pc : Nat} {lv : Nat → Option Value} {st : List Value} {μ : xM} {Q : Option Value → xM → Prop} {x y : Int32} {off : Int} {tgt : Nat} (d : decode k.2.1 pc = .ok (.if_icmp .le off, 3)) (ht : (pc : Int) + off = (tgt : Int)) (kt : (x ≤ y) → X k sc tgt lv st μ Q) (kf : ¬ (x ≤ y) → X k sc (pc + 3) lv st μ Q) : X k sc pc lv (.int y :: .int x :: st) μ Q := by
  by_cases h : (x ≤ y)
  · exact X.icmp_le_t d ht h (kt h)
  · exact X.icmp_le_f d ht h (kf h)
theorem X.ifnull_r {k : xk} {sc : xsc} {pc : Nat} {lv : Nat → Option Value} {st : List Value} {μ : xM} {Q : Option Value → xM → Prop} {a : Nat} {off : Int} (d : decode k.2.1 pc = .ok (.ifnull off, 3)) (kk : X k sc (pc + 3) lv st μ Q) : X k sc pc lv (.ref a :: st) μ Q := by
  refine X.pure (fun p l e R s m args below meth c g hS H locs cells slots ls Z hH hl kk => ?_) kk
  exact lv_ifnull hS.1 hS.2.1 d (kk ls hl)
theorem X.ifnull_n {k : xk} {sc : xsc} {pc : Nat} {lv : Nat → Option Value} {st : List Value} {μ : xM} {Q : Option Value → xM → Prop} {off : Int} {tgt : Nat} (d : decode k.2.1 pc = .ok (.ifnull off, 3)) (ht : (pc : Int) + off = (tgt : Int)) (kk : X k sc (tgt) lv st μ Q) : X k sc pc lv (.null :: st) μ Q := by
  refine X.pure (fun p l e R s m args below meth c g hS H locs cells slots ls Z hH hl kk => ?_) kk
  exact lv_ifnullN hS.1 hS.2.1 d ht (kk ls hl)
theorem X.ifnonnull_r {k : xk} {sc : xsc} {pc : Nat} {lv : Nat → Option Value} {st : List Value} {μ : xM} {Q : Option Value → xM → Prop} {a : Nat} {off : Int} {tgt : Nat} (d : decode k.2.1 pc = .ok (.ifnonnull off, 3)) (ht : (pc : Int) + off = (tgt : Int)) (kk : X k sc (tgt) lv st μ Q) : X k sc pc lv (.ref a :: st) μ Q := by
  refine X.pure (fun p l e R s m args below meth c g hS H locs cells slots ls Z hH hl kk => ?_) kk
  exact lv_ifnonnull hS.1 hS.2.1 d ht (kk ls hl)
theorem X.ifnonnull_n {k : xk} {sc : xsc} {pc : Nat} {lv : Nat → Option Value} {st : List Value} {μ : xM} {Q : Option Value → xM → Prop} {off : Int} (d : decode k.2.1 pc = .ok (.ifnonnull off, 3)) (kk : X k sc (pc + 3) lv st μ Q) : X k sc pc lv (.null :: st) μ Q := by
  refine X.pure (fun p l e R s m args below meth c g hS H locs cells slots ls Z hH hl kk => ?_) kk
  exact lv_ifnonnullN hS.1 hS.2.1 d (kk ls hl)
theorem X.tabOut {k : xk} {sc : xsc} {pc : Nat} {lv : Nat → Option Value} {st : List Value} {μ : xM} {Q : Option Value → xM → Prop} {dflt lo hi : Int} {offs : Array Int} {len : Nat} {x : Int32} {tgt : Nat} (d : decode k.2.1 pc = .ok (.tableswitch dflt lo hi offs, len)) (h : x.toInt < lo ∨ hi < x.toInt) (ht : (pc : Int) + dflt = (tgt : Int)) (kk : X k sc (tgt) lv st μ Q) : X k sc pc lv (.int x :: st) μ Q := by
  refine X.pure (fun p l e R s m args below meth c g hS H locs cells slots ls Z hH hl kk => ?_) kk
  exact lv_tableOut hS.1 hS.2.1 d h ht (kk ls hl)
theorem X.tabIn {k : xk} {sc : xsc} {pc : Nat} {lv : Nat → Option Value} {st : List Value} {μ : xM} {Q : Option Value → xM → Prop} {dflt lo hi : Int} {offs : Array Int} {len : Nat} {x : Int32} {off : Int} {tgt : Nat} (d : decode k.2.1 pc = .ok (.tableswitch dflt lo hi offs, len)) (h1 : ¬ x.toInt < lo) (h2 : ¬ hi < x.toInt) (ho : offs[(x.toInt - lo).toNat]? = some off) (ht : (pc : Int) + off = (tgt : Int)) (kk : X k sc (tgt) lv st μ Q) : X k sc pc lv (.int x :: st) μ Q := by
  refine X.pure (fun p l e R s m args below meth c g hS H locs cells slots ls Z hH hl kk => ?_) kk
  exact lv_tableIn hS.1 hS.2.1 d h1 h2 ho ht (kk ls hl)
