/-! THE WALK OVER THE GHOST MEMORY: X k sc pc lv st μ Q: method k, at pc, with the locals lv, the operands st and the memory μ, comes to its end with Q of its answer and its memory; Mt k as μ Q: the same of a call -/
def xnest : List (String × Nat × MethodName × String) := [("PatchBay", 48, yX1_init, "PatchBay"), ("PatchBay$Tape", 30, yX4_isPlain, "PatchBay"), ("PatchBay$Channel", 41, yX4_isPlain, "PatchBay"), ("PatchBay$Tape", 41, yX4_takes, "PatchBay"), ("PatchBay$Tape", 49, yX4_fitted, "PatchBay")]
def xK (g : xg) (U : State) : Prop := va_K g.1 vwCl (xtys g) U ∧ (va_AO RX0 U ∧ va_AO RX2 U ∧ va_AO RX3 U ∧ (Cond.arrayOver (.array .int)).before #[] U = true) ∧ ∀ q ∈ xnest, va_Nw (.methodLinkNest q.1 q.2.1 q.2.2.1 q.2.2.2) U
theorem xK.warm {g : xg} {s U : State} (h : xK g s) (hW : s.WarmedH U.vm) : xK g U :=
  ⟨va_K.moved hW.alike h.1, ⟨va_AO.moved hW.alike h.2.1.1, va_AO.moved hW.alike h.2.1.2.1, va_AO.moved hW.alike h.2.1.2.2.1, over_moved hW.alike h.2.1.2.2.2⟩, fun q hq => va_Nw.warmM hW (h.2.2 q hq)⟩
theorem xK.same {g : xg} {s U : State} (h : xK g s) (e : s.vm = U.vm) : xK g U :=
  ⟨va_K.moved (e ▸ Vm.Alike.refl s.vm) h.1, ⟨va_AO.moved (e ▸ Vm.Alike.refl s.vm) h.2.1.1, va_AO.moved (e ▸ Vm.Alike.refl s.vm) h.2.1.2.1, va_AO.moved (e ▸ Vm.Alike.refl s.vm) h.2.1.2.2.1, over_moved (e ▸ Vm.Alike.refl s.vm) h.2.1.2.2.2⟩, fun q hq => va_Nw.same rfl e (h.2.2 q hq)⟩
/-- a method: its name, bytes, locals, answer, frames and words of locals below it -/
abbrev xk : Type := MethodName × ByteArray × Nat × Option FieldType × Nat × Nat
def xws (k : xk) : List Cond := Cond.code k.1 k.2.1 k.2.2.1 k.2.2.2.1 :: xtbl
def xPc (g : xg) (μ : xM) (as : List Value) : Array Value → State → Prop := fun v U => v = (as.map (xv g)).toArray ∧ Rep g μ U.heap ∧ xK g U
def xQc (g : xg) (μ : xM) (r : Option Value) : Array Value → State → Outcome → State → Prop := fun _ st o t => o = .returned (r.map (xv g)) ∧ Rep g μ t.heap ∧ ∀ q : Nat, q < xbase g → t.heap[q]? = st.heap[q]?
def xrm (k : xk) (c n : Nat) : Room := { frames := k.2.2.2.2.1, cells := c, slots := n, locals := k.2.2.2.2.2 }
def Ev (k : xk) (as : List Value) (μ : xM) (r : Option Value) (μ' : xM) : Prop :=
  (mN μ ≤ mN μ' ∧ mS μ ≤ mS μ') ∧ ∀ (l : Launch) (g : xg), Met l k.1 (xws k) (xrm k (mN μ' - mN μ) (mS μ' - mS μ)) (xPc g μ as) (xQc g μ' r) (mN μ' - mN μ) (mS μ' - mS μ) (fun q => xbase g ≤ q)
def Mt (k : xk) (as : List Value) (μ : xM) (Q : Option Value → xM → Prop) : Prop := ∃ r μ', Ev k as μ r μ' ∧ Q r μ'
/-- the script -/
abbrev xsc : Type := Option (Nat × (Nat → Int32))
def xS (k : xk) (sc : xsc) (g : xg) (p : Program) (R : Room) (s : State) (m : MethodId) (args : Array Value) (meth : Method) (c : Code) : Prop :=
  p.tables.exec = Jvm.exec ∧ c.code = k.2.1 ∧ c.maxLocals = k.2.2.1 ∧ s.vm.findClass k.1.cls = some m.cls ∧ (∀ w ∈ xtbl, w.before args s = true) ∧ meth.name = k.1.name ∧ xK g s ∧ k.2.2.2.2.1 ≤ R.frames ∧ k.2.2.2.2.2 ≤ R.locals ∧ xbase g ≤ s.heap.size ∧ ∀ (L : Nat) (xs : Nat → Int32), sc = some (L, xs) → va_X (xb g) L xs s s.heap ∧ xb g < xbase g
def xlv (g : xg) (n : Nat) (lv : Nat → Option Value) (ls : Array Slot) : Prop := ls.size = n ∧ lv_wf ls ∧ ∀ (i : Nat) (v : Value), lv i = some v → ls[i]? = some (.val (xv g v))
def xH (g : xg) (s : State) (μ : xM) (H : Heap) (locs : List Loc) : Prop := Rep g μ H ∧ (∀ q : Nat, q < xbase g → H[q]? = s.heap[q]?) ∧ ∀ q ∈ locs, xbase g ≤ q.base
def xret (ret : Option FieldType) : Instr := match ret with
  | none => .return_
  | some .long => .lreturn
  | some (.object _) => .areturn
  | some (.array _) => .areturn
  | _ => .ireturn
def EvX (k : xk) (sc : xsc) (pc : Nat) (lv : Nat → Option Value) (st : List Value) (μ : xM) (r : Option Value) (μ' : xM) : Prop :=
  (mN μ ≤ mN μ' ∧ mS μ ≤ mS μ') ∧ ∀ (p : Program) (l : Launch) (e : Env) (R : Room) (s : State) (m : MethodId) (args : Array Value) (below : List Frame) (meth : Method) (c : Code) (g : xg), xS k sc g p R s m args meth c →
    ∀ (H : Heap) (locs : List Loc) (cells slots : Nat) (ls : Array Slot) (Z : State → Prop), xH g s μ H locs → cells + (mN μ' - mN μ) ≤ R.cells → slots + (mS μ' - mS μ) ≤ R.slots → xlv g k.2.2.1 lv ls →
      (∀ (H' : Heap) (locs' : List Loc) (pc' : Nat) (ls' : Array Slot), xH g s μ' H' locs' → decode k.2.1 pc' = .ok (xret k.2.2.2.1, 1) → W p l e R s m args below meth c H' locs' (cells + (mN μ' - mN μ)) (slots + (mS μ' - mS μ)) Z (F0 m pc' ls' (r.map (xv g)).toList)) →
      W p l e R s m args below meth c H locs cells slots Z (F0 m pc ls (st.map (xv g)))
def X (k : xk) (sc : xsc) (pc : Nat) (lv : Nat → Option Value) (st : List Value) (μ : xM) (Q : Option Value → xM → Prop) : Prop := ∃ r μ', EvX k sc pc lv st μ r μ' ∧ Q r μ'
/-- one step -/
theorem X.stp {k : xk} {sc : xsc} {pc pc1 : Nat} {lv lv1 : Nat → Option Value} {st st1 : List Value} {μ μ1 : xM} {Q : Option Value → xM → Prop} (hm : mN μ ≤ mN μ1 ∧ mS μ ≤ mS μ1)
    (h : ∀ (p : Program) (l : Launch) (e : Env) (R : Room) (s : State) (m : MethodId) (args : Array Value) (below : List Frame) (meth : Method) (c : Code) (g : xg), xS k sc g p R s m args meth c →
      ∀ (H : Heap) (locs : List Loc) (cells slots : Nat) (ls : Array Slot) (Z : State → Prop), xH g s μ H locs → cells + (mN μ1 - mN μ) ≤ R.cells → slots + (mS μ1 - mS μ) ≤ R.slots → xlv g k.2.2.1 lv ls →
        (∀ (H' : Heap) (locs' : List Loc) (ls' : Array Slot), xH g s μ1 H' locs' → xlv g k.2.2.1 lv1 ls' → W p l e R s m args below meth c H' locs' (cells + (mN μ1 - mN μ)) (slots + (mS μ1 - mS μ)) Z (F0 m pc1 ls' (st1.map (xv g)))) →
        W p l e R s m args below meth c H locs cells slots Z (F0 m pc ls (st.map (xv g))))
    (kk : X k sc pc1 lv1 st1 μ1 Q) : X k sc pc lv st μ Q := by
  obtain ⟨r, μ', ⟨⟨e1, e2⟩, hw⟩, hq⟩ := kk
  refine ⟨r, μ', ⟨⟨Nat.le_trans hm.1 e1, Nat.le_trans hm.2 e2⟩, fun p l e R s m args below meth c g hS H locs cells slots ls Z hH hc hs hl hr => ?_⟩, hq⟩
  have a1 : cells + (mN μ' - mN μ) = cells + (mN μ1 - mN μ) + (mN μ' - mN μ1) := by omega
  have a2 : slots + (mS μ' - mS μ) = slots + (mS μ1 - mS μ) + (mS μ' - mS μ1) := by omega
  refine h p l e R s m args below meth c g hS H locs cells slots ls Z hH (by omega) (by omega) hl (fun H' locs' ls' hH' hl' => ?_)
  refine hw p l e R s m args below meth c g hS H' locs' _ _ ls' Z hH' (by omega) (by omega) hl' (fun H2 locs2 pc2 ls2 hH2 hd => ?_)
  rw [← a1, ← a2]
  exact hr H2 locs2 pc2 ls2 hH2 hd
/-- one step that leaves the memory -/
theorem X.pure {k : xk} {sc : xsc} {pc pc1 : Nat} {lv lv1 : Nat → Option Value} {st st1 : List Value} {μ : xM} {Q : Option Value → xM → Prop}
    (h : ∀ (p : Program) (l : Launch) (e : Env) (R : Room) (s : State) (m : MethodId) (args : Array Value) (below : List Frame) (meth : Method) (c : Code) (g : xg), xS k sc g p R s m args meth c →
      ∀ (H : Heap) (locs : List Loc) (cells slots : Nat) (ls : Array Slot) (Z : State → Prop), xH g s μ H locs → xlv g k.2.2.1 lv ls →
        (∀ (ls' : Array Slot), xlv g k.2.2.1 lv1 ls' → W p l e R s m args below meth c H locs cells slots Z (F0 m pc1 ls' (st1.map (xv g)))) →
        W p l e R s m args below meth c H locs cells slots Z (F0 m pc ls (st.map (xv g))))
    (kk : X k sc pc1 lv1 st1 μ Q) : X k sc pc lv st μ Q := by
  refine X.stp ⟨Nat.le_refl _, Nat.le_refl _⟩ (fun p l e R s m args below meth c g hS H locs cells slots ls Z hH hc hs hl hr => ?_) kk
  refine h p l e R s m args below meth c g hS H locs cells slots ls Z hH hl (fun ls' hl' => ?_)
  have w := hr H locs ls' hH hl'
  rw [Nat.sub_self, Nat.sub_self] at w
  exact w
theorem X.mono {k : xk} {sc : xsc} {pc : Nat} {lv : Nat → Option Value} {st : List Value} {μ : xM} {Q Q' : Option Value → xM → Prop} (h : X k sc pc lv st μ Q) (hq : ∀ r μ', Q r μ' → Q' r μ') : X k sc pc lv st μ Q' := by
  obtain ⟨r, μ', h1, h2⟩ := h
  exact ⟨r, μ', h1, hq _ _ h2⟩
theorem Mt.mono {k : xk} {as : List Value} {μ : xM} {Q Q' : Option Value → xM → Prop} (h : Mt k as μ Q) (hq : ∀ r μ', Q r μ' → Q' r μ') : Mt k as μ Q' := by
  obtain ⟨r, μ', h1, h2⟩ := h
  exact ⟨r, μ', h1, hq _ _ h2⟩
/-- fewer locals -/
theorem X.sub {k : xk} {sc : xsc} {pc : Nat} {lv lv1 : Nat → Option Value} {st : List Value} {μ : xM} {Q : Option Value → xM → Prop} (hl : ∀ i v, lv1 i = some v → lv i = some v) (h : X k sc pc lv1 st μ Q) : X k sc pc lv st μ Q :=
  X.pure (fun p l e R s m args below meth c g hS H locs cells slots ls Z hH hls kk => kk ls ⟨hls.1, hls.2.1, fun i v q => hls.2.2 i v (hl i v q)⟩) h
/-! locals -/
def xl (l : List (Nat × Value)) : Nat → Option Value := fun i => match l with
  | [] => none
  | q :: r => if i = q.1 then some q.2 else xl r i
def xok (l : List (Nat × Value)) (lv : Nat → Option Value) : Prop := match l with
  | [] => True
  | q :: r => lv q.1 = some q.2 ∧ xok r lv
theorem xok_sub {lv : Nat → Option Value} : ∀ (l : List (Nat × Value)), xok l lv → ∀ i v, xl l i = some v → lv i = some v
  | [], _, i, v, h => by simp [xl] at h
  | q :: r, h, i, v, hv => by
    unfold xl at hv
    by_cases e : i = q.1
    · rw [if_pos e] at hv
      rw [e, ← Option.some.inj hv]
      exact h.1
    · rw [if_neg e] at hv
      exact xok_sub r h.2 i v hv
theorem X.at {k : xk} {sc : xsc} {pc : Nat} {lv : Nat → Option Value} {st : List Value} {μ : xM} {Q : Option Value → xM → Prop} (l : List (Nat × Value)) (hl : xok l lv) (h : X k sc pc (xl l) st μ Q) : X k sc pc lv st μ Q := X.sub (xok_sub l hl) h
def up1 (i : Nat) (v : Value) (lv : Nat → Option Value) : Nat → Option Value := fun j => if j = i then some v else match lv j with
  | none => none
  | some w => if j + 1 = i ∧ w.category = 2 then none else some w
def upw (i : Nat) (v : Value) (lv : Nat → Option Value) : Nat → Option Value := fun j => if j = i then some v else if j = i + 1 then none else match lv j with
  | none => none
  | some w => if j + 1 = i ∧ w.category = 2 then none else some w
theorem xcat (g : xg) (v : Value) : (xv g v).category = v.category := by cases v <;> rfl
theorem xlist {g : xg} {n : Nat} {lv : Nat → Option Value} {ls : Array Slot} (h : xlv g n lv ls) : lv_has ls n ((List.range n).filterMap fun i => (lv i).map fun v => (i, xv g v)) := by
  obtain ⟨hs, hw, hl⟩ := h
  refine ⟨hs, hw, fun q hq => ?_⟩
  obtain ⟨i, -, hi⟩ := List.mem_filterMap.mp hq
  cases hv : lv i with
  | none => rw [hv] at hi; cases hi
  | some v => rw [hv] at hi; cases hi; exact hl i v hv
theorem xlist_mem {g : xg} {n : Nat} {lv : Nat → Option Value} {ls : Array Slot} (h : xlv g n lv ls) {j : Nat} {w : Value} (hv : lv j = some w) : (j, xv g w) ∈ ((List.range n).filterMap fun i => (lv i).map fun v => (i, xv g v)) := by
  refine List.mem_filterMap.mpr ⟨j, List.mem_range.mpr ?_, by rw [hv]; rfl⟩
  have := lv_lt (h.2.2 j w hv)
  rw [h.1] at this
  exact this
theorem xstore1 {g : xg} {n i : Nat} {lv : Nat → Option Value} {ls : Array Slot} {v : Value} (h : xlv g n lv ls) (hi : i < n) (hc : v.category = 1) : ∃ ls', storeLocals ls i (xv g v) = some ls' ∧ xlv g n (up1 i v lv) ls' := by
  obtain ⟨ls', e, h2⟩ := lv_store1 (v := xv g v) (xlist h) hi (by rw [xcat]; exact hc)
  refine ⟨ls', e, h2.1, h2.2.1, fun j w hj => ?_⟩
  unfold up1 at hj
  by_cases e1 : j = i
  · rw [if_pos e1] at hj
    rw [e1, ← Option.some.inj hj]
    exact h2.2.2 (i, xv g v) List.mem_cons_self
  · rw [if_neg e1] at hj
    cases hv : lv j with
    | none => rw [hv] at hj; cases hj
    | some u =>
      rw [hv] at hj
      dsimp only at hj
      by_cases e2 : j + 1 = i ∧ u.category = 2
      · rw [if_pos e2] at hj; cases hj
      · rw [if_neg e2] at hj
        cases hj
        refine h2.2.2 (j, xv g w) (List.mem_cons_of_mem _ (List.mem_filter.mpr ⟨xlist_mem h hv, ?_⟩))
        simp only [Bool.and_eq_true, Bool.not_eq_true', beq_eq_false_iff_ne, Bool.and_eq_false_iff, beq_iff_eq]
        refine ⟨e1, ?_⟩
        by_cases e3 : j + 1 = i
        · right; rw [xcat]; exact fun h4 => e2 ⟨e3, h4⟩
        · left; exact e3
theorem xstore2 {g : xg} {n i : Nat} {lv : Nat → Option Value} {ls : Array Slot} {v : Value} (h : xlv g n lv ls) (hi : i + 1 < n) (hc : v.category = 2) : ∃ ls', storeLocals ls i (xv g v) = some ls' ∧ xlv g n (upw i v lv) ls' := by
  obtain ⟨ls', e, h2⟩ := lv_store2 (v := xv g v) (xlist h) hi (by rw [xcat]; exact hc)
  refine ⟨ls', e, h2.1, h2.2.1, fun j w hj => ?_⟩
  unfold upw at hj
  by_cases e1 : j = i
  · rw [if_pos e1] at hj
    rw [e1, ← Option.some.inj hj]
    exact h2.2.2 (i, xv g v) List.mem_cons_self
  · rw [if_neg e1] at hj
    by_cases e0 : j = i + 1
    · rw [if_pos e0] at hj; cases hj
    · rw [if_neg e0] at hj
      cases hv : lv j with
      | none => rw [hv] at hj; cases hj
      | some u =>
        rw [hv] at hj
        dsimp only at hj
        by_cases e2 : j + 1 = i ∧ u.category = 2
        · rw [if_pos e2] at hj; cases hj
        · rw [if_neg e2] at hj
          cases hj
          refine h2.2.2 (j, xv g w) (List.mem_cons_of_mem _ (List.mem_filter.mpr ⟨xlist_mem h hv, ?_⟩))
          simp only [Bool.and_eq_true, Bool.not_eq_true', beq_eq_false_iff_ne, Bool.and_eq_false_iff, beq_iff_eq]
          refine ⟨e1, e0, ?_⟩
          by_cases e3 : j + 1 = i
          · right; rw [xcat]; exact fun h4 => e2 ⟨e3, h4⟩
          · left; exact e3
/-! a method's start and end -/
def xrok (ret : Option FieldType) (r : Option Value) : Prop := match ret, r with
  | none, none => True
  | some .int, some (.int _) => True
  | some .boolean, some (.int v) => v = 0 ∨ v = 1
  | some .long, some (.long _) => True
  | some (.object _), some .null => True
  | some (.object _), some (.ref _) => True
  | _, _ => False
theorem xargs_map (g : xg) : ∀ (as : List Value) (n : Nat), lv_args n (as.map (xv g)) = (lv_args n as).map (fun q => (q.1, xv g q.2))
  | [], n => rfl
  | v :: as, n => by
    show _ = _
    simp only [List.map_cons, lv_args, xcat, xargs_map g as]
theorem xl_mem : ∀ (l : List (Nat × Value)) (i : Nat) (v : Value), xl l i = some v → (i, v) ∈ l
  | [], i, v, h => by simp [xl] at h
  | q :: r, i, v, h => by
    unfold xl at h
    by_cases e : i = q.1
    · rw [if_pos e] at h
      rw [e, ← Option.some.inj h]
      exact List.mem_cons_self
    · rw [if_neg e] at h
      exact List.mem_cons_of_mem _ (xl_mem r i v h)
theorem xsl_map (g : xg) : ∀ (as : List Value), (lg_sl (as.map (xv g))).length = (lg_sl as).length
  | [] => rfl
  | v :: as => by
    have ih := xsl_map g as
    unfold lg_sl at ih ⊢
    simp only [List.map_cons, List.flatMap_cons, List.length_append, ih, xcat]
    split <;> rfl
theorem Mt.enter {k : xk} {as : List Value} {μ : xM} {Q : Option Value → xM → Prop} (hk : plainName k.1.cls = true) (hsl : (lg_sl as).length ≤ k.2.2.1)
    (h : X k none 0 (xl (lv_args 0 as)) [] μ (fun r μ' => xrok k.2.2.2.1 r ∧ Q r μ')) : Mt k as μ Q := by
  obtain ⟨r, μ', ⟨hm, hw⟩, hok, hq⟩ := h
  refine ⟨r, μ', ⟨hm, fun l g => ?_⟩, hq⟩
  refine Met.ofW (cc := k.2.1) (maxL := k.2.2.1) (ret := k.2.2.2.1) hk rfl ?_
  intro p e s m args below meth c s₁ B hml hv
  obtain ⟨rfl, hR, hKs⟩ := hv
  have hr := B.returns
  have hx := B.exec
  have hb := B.bytes
  have hts := atoms_spec (ws := xws k) B.pre
  have hlocks := B.notSynchronized
  rw [lg_entry_eq]
  have hbase : xbase g ≤ s.heap.size := by rw [hR.2.1]; omega
  have hS : xS k none g p (headSpec (xws k) (xrm k (mN μ' - mN μ) (mS μ' - mS μ))).room s m (as.map (xv g)).toArray meth c :=
    ⟨hx, hb, hml, findClass_of_methodNamed B.named, fun w hw => hts w (List.mem_cons_of_mem _ hw), (name_of_methodNamed B.named B.method).1, hKs, Nat.le_refl _, Nat.le_refl _, hbase, fun L xs h => by cases h⟩
  have hent := lv_entry (as.map (xv g)) (n := k.2.2.1) (by rw [xsl_map]; exact hsl)
  refine hw p l e _ s m _ below meth c g hS s.heap [] 0 0 _ _ ⟨hR, fun _ _ => rfl, fun q hq => by cases hq⟩ (by rw [Nat.zero_add]; exact Nat.le_refl _) (by rw [Nat.zero_add]; exact Nat.le_refl _) ⟨hent.1, hent.2.1, fun i v hi => ?_⟩ (fun H' locs' pc' ls' hH' hd => ?_)
  · refine hent.2.2 (i, xv g v) ?_
    rw [xargs_map]
    exact List.mem_map.mpr ⟨(i, v), xl_mem _ i v hi, rfl⟩
  · rw [Nat.zero_add, Nat.zero_add]
    generalize hret : k.2.2.2.1 = ret at hr hd hok
    have hQ : ∀ t : State, t.heap = H' → s.WarmedH t.vm → xQc g μ' r (as.map (xv g)).toArray s (.returned (r.map (xv g))) t := fun t ht _ => ⟨rfl, by rw [ht]; exact hH'.1, fun q hq => by rw [ht]; exact hH'.2.1 q hq⟩
    have hf : ∀ q ∈ locs', (fun q => xbase g ≤ q) q.base := hH'.2.2
    cases ret with
    | none =>
      cases r with
      | some v => exact hok.elim
      | none => exact W.vret hx hb hr hQ hf hd
    | some ty =>
      cases r with
      | none => cases ty <;> exact hok.elim
      | some v =>
        cases ty with
        | int =>
          cases v with
          | int v => exact W.iret hx hb hr hQ hf hd
          | _ => exact hok.elim
        | boolean =>
          cases v with
          | int v => exact W.zret hx hb hr (by rcases hok with rfl | rfl <;> rfl) hQ hf hd
          | _ => exact hok.elim
        | long =>
          cases v with
          | long v => exact W.lret hx hb hr hQ hf hd
          | _ => exact hok.elim
        | object n =>
          cases v with
          | null => exact W.aret hx hb hr (Or.inl ⟨n, rfl⟩) (Or.inl rfl) hQ hf hd
          | ref a => exact W.aret hx hb hr (Or.inl ⟨n, rfl⟩) (Or.inr ⟨_, rfl⟩) hQ hf hd
          | _ => exact hok.elim
        | _ => cases v <;> exact hok.elim
theorem X.ret {k : xk} {sc : xsc} {pc : Nat} {lv : Nat → Option Value} {v : Value} {μ : xM} {Q : Option Value → xM → Prop} (d : decode k.2.1 pc = .ok (xret k.2.2.2.1, 1)) (h : Q (some v) μ) : X k sc pc lv [v] μ Q := by
  refine ⟨some v, μ, ⟨⟨Nat.le_refl _, Nat.le_refl _⟩, fun p l e R s m args below meth c g hS H locs cells slots ls Z hH hc hs hl hr => ?_⟩, h⟩
  have w := hr H locs pc ls hH d
  rw [Nat.sub_self, Nat.sub_self] at w
  exact w
theorem X.retv {k : xk} {sc : xsc} {pc : Nat} {lv : Nat → Option Value} {μ : xM} {Q : Option Value → xM → Prop} (d : decode k.2.1 pc = .ok (xret k.2.2.2.1, 1)) (h : Q none μ) : X k sc pc lv [] μ Q := by
  refine ⟨none, μ, ⟨⟨Nat.le_refl _, Nat.le_refl _⟩, fun p l e R s m args below meth c g hS H locs cells slots ls Z hH hc hs hl hr => ?_⟩, h⟩
  have w := hr H locs pc ls hH d
  rw [Nat.sub_self, Nat.sub_self] at w
  exact w
