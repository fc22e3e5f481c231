/-! new cells -/
def xdef (t : FieldType) : Value := match t with
  | .int => .int 0
  | .boolean => .int 0
  | .long => .long 0
  | _ => .null
theorem xdef_ok : ∀ c, c < 6 → ∀ j, j < xnf c → defaultValue (xty c j) = xdef (xty c j) := by decide +kernel
theorem xfv_new (g : xg) (μ : xM) (c n w j : Nat) : xfv g (sNew μ c n w) (mN μ) c j = xdef (xty c j) := by
  have e1 : mI (sNew μ c n w) (mN μ) j = 0 := if_pos rfl
  have e2 : mJ (sNew μ c n w) (mN μ) j = 0 := if_pos rfl
  have e3 : mR (sNew μ c n w) (mN μ) j = none := if_pos rfl
  unfold xfv xft
  rw [e1, e2, e3]
  cases xty c j <;> rfl
theorem xT_new (μ : xM) (c n w : Nat) : mT (sNew μ c n w) (mN μ) = (c, n) := if_pos rfl
section XN
variable {k : xk} {sc : xsc} {pc : Nat} {lv : Nat → Option Value} {st : List Value} {μ : xM} {Q : Option Value → xM → Prop} {c idx : Nat}
theorem X.new (d : decode k.2.1 pc = .ok (.new idx, 3)) (hc : c < 6) (w1 : Cond.classLink k.1.cls idx (xC c) ∈ xtbl) (w2 : Cond.instantiable (xC c) (xnf c) ∈ xtbl) (w3 : Cond.initialized (xC c) ∈ xtbl)
    (kk : X k sc (pc + 3) lv (.ref (mN μ) :: st) (sNew μ c 0 (xnf c)) Q) : X k sc pc lv st μ Q := by
  refine X.stp (μ1 := sNew μ c 0 (xnf c)) ⟨by rw [mN_sNew]; omega, by rw [mS_sNew]; omega⟩ (fun p l e R s m args below meth c0 g hS H locs cells slots ls Z hH hcl hsl hl kk => ?_) kk
  have eN : mN (sNew μ c 0 (xnf c)) - mN μ = 1 := by rw [mN_sNew]; omega
  have eS : mS (sNew μ c 0 (xnf c)) - mS μ = xnf c := by rw [mS_sNew]; omega
  rw [eN] at hcl
  rw [eS] at hsl
  rw [eN, eS] at kk
  obtain ⟨hclo, hin, hty, hnm⟩ := xcl c hc
  have hts := hS.2.2.2.2.1
  have hKn := hS.2.2.2.2.2.2.1.1.1 c _ hclo
  refine W.newcK hS.1 hS.2.1 hS.2.2.2.1 (hts _ w1) (hts _ w2) (hts _ w3) rfl d hcl hsl hKn.2.1 rfl fun H1 kC hkC e1 z1 o1 => ?_
  have w := kk H1 locs ls ⟨hH.1.push (by omega) z1 o1 ?_, fun q hq => ?_, hH.2.2⟩ hl
  · have e9 : xv g (.ref (mN μ)) = .ref H.size := by show Value.ref (xa g (mN μ)) = _; rw [xa_new hH.1]
    rw [List.map_cons, e9] at w
    exact w
  · rw [xe_obj (xT_new μ c 0 (xnf c)) hc]
    refine ⟨_, hclo, (u_born (xty c) hts hin hKn hkC e1 hty).to (fun j hj => ?_)⟩
    unfold vp_V
    rw [List.getD_eq_getElem?_getD, xfv_get _ _ _ _ _ hj, xfv_new, xdef_ok c hc j hj]
    rfl
  · have h1 := hH.1.2.1
    rw [o1 q (by omega)]
    exact hH.2.1 q hq
theorem xframe {g : xg} {s : State} {H H1 : Heap} {locs : List Loc} (hH : xH g s μ H locs) (o1 : ∀ q : Nat, q < H.size → H1[q]? = H[q]?) : ∀ q : Nat, q < xbase g → H1[q]? = s.heap[q]? := by
  intro q hq
  have h1 := hH.1.2.1
  rw [o1 q (by omega)]
  exact hH.2.1 q hq
theorem X.newI {x : Int32} {n : Nat} (d : decode k.2.1 pc = .ok (.newarray .int, 2)) (w : Cond.arrayClass .int ∈ xtbl) (hx : x = nI n) (hn : n ≤ 100000) (kk : X k sc (pc + 2) lv (.ref (mN μ) :: st) (sNew μ 6 n n) Q) : X k sc pc lv (.int x :: st) μ Q := by
  subst hx
  refine X.stp (μ1 := sNew μ 6 n n) ⟨by rw [mN_sNew]; omega, by rw [mS_sNew]; omega⟩ (fun p l e R s m args below meth c0 g hS H locs cells slots ls Z hH hcl hsl hl kk => ?_) kk
  have eN : mN (sNew μ 6 n n) - mN μ = 1 := by rw [mN_sNew]; omega
  have eS : mS (sNew μ 6 n n) - mS μ = n := by rw [mS_sNew]; omega
  rw [eN] at hcl
  rw [eS] at hsl
  rw [eN, eS] at kk
  refine va_newaK (atype := .int) (N := n) hS.1 hS.2.1 (hS.2.2.2.2.1 _ w) rfl d rfl (nI_pos (by omega)) (nI_clamp (by omega)) (by show n * 4 ≤ _; omega) hcl hsl rfl fun H1 cA e1 z1 o1 hAr hNm => ?_
  have hRA := (hS.2.2.2.2.2.2.1.1.2 0 _ (xtys_at g 0 (by decide))).2
  have hcA : g.2.1 0 = cA := Option.some.inj (hRA.symm.trans hNm)
  have w := kk H1 locs ls ⟨hH.1.push (by omega) z1 o1 ?_, xframe hH o1, hH.2.2⟩ hl
  · have e9 : xv g (.ref (mN μ)) = .ref H.size := by show Value.ref (xa g (mN μ)) = _; rw [xa_new hH.1]
    rw [List.map_cons, e9] at w
    exact w
  · rw [xe_int (xT_new μ 6 n n), hcA]
    show H1[H.size]? = some (vp_cell _ _)
    rw [e1, vp_cell_i]
    congr 2
    funext j
    show Value.int 0 = _
    rw [show mI (sNew μ 6 n n) (mN μ) j = 0 from if_pos rfl]
theorem X.newJ {x : Int32} {n : Nat} (d : decode k.2.1 pc = .ok (.newarray .long, 2)) (w : Cond.arrayClass .long ∈ xtbl) (hx : x = nI n) (hn : n ≤ 100000) (kk : X k sc (pc + 2) lv (.ref (mN μ) :: st) (sNew μ 7 n n) Q) : X k sc pc lv (.int x :: st) μ Q := by
  subst hx
  refine X.stp (μ1 := sNew μ 7 n n) ⟨by rw [mN_sNew]; omega, by rw [mS_sNew]; omega⟩ (fun p l e R s m args below meth c0 g hS H locs cells slots ls Z hH hcl hsl hl kk => ?_) kk
  have eN : mN (sNew μ 7 n n) - mN μ = 1 := by rw [mN_sNew]; omega
  have eS : mS (sNew μ 7 n n) - mS μ = n := by rw [mS_sNew]; omega
  rw [eN] at hcl
  rw [eS] at hsl
  rw [eN, eS] at kk
  refine va_newaK (atype := .long) (N := n) hS.1 hS.2.1 (hS.2.2.2.2.1 _ w) rfl d rfl (nI_pos (by omega)) (nI_clamp (by omega)) (by show n * 8 ≤ _; omega) hcl hsl rfl fun H1 cA e1 z1 o1 hAr hNm => ?_
  have hRA := (hS.2.2.2.2.2.2.1.1.2 1 _ (xtys_at g 1 (by decide))).2
  have hcA : g.2.1 1 = cA := Option.some.inj (hRA.symm.trans hNm)
  have w := kk H1 locs ls ⟨hH.1.push (by omega) z1 o1 ?_, xframe hH o1, hH.2.2⟩ hl
  · have e9 : xv g (.ref (mN μ)) = .ref H.size := by show Value.ref (xa g (mN μ)) = _; rw [xa_new hH.1]
    rw [List.map_cons, e9] at w
    exact w
  · rw [xe_long (xT_new μ 7 n n), hcA]
    show H1[H.size]? = some (vp_cell _ _)
    rw [e1, vp_cell_l]
    congr 2
    funext j
    show Value.long 0 = _
    rw [show mJ (sNew μ 7 n n) (mN μ) j = 0 from if_pos rfl]
theorem X.newZ {x : Int32} {n : Nat} (d : decode k.2.1 pc = .ok (.newarray .boolean, 2)) (w : Cond.arrayClass .boolean ∈ xtbl) (hx : x = nI n) (hn : n ≤ 100000) (kk : X k sc (pc + 2) lv (.ref (mN μ) :: st) (sNew μ 8 n n) Q) : X k sc pc lv (.int x :: st) μ Q := by
  subst hx
  refine X.stp (μ1 := sNew μ 8 n n) ⟨by rw [mN_sNew]; omega, by rw [mS_sNew]; omega⟩ (fun p l e R s m args below meth c0 g hS H locs cells slots ls Z hH hcl hsl hl kk => ?_) kk
  have eN : mN (sNew μ 8 n n) - mN μ = 1 := by rw [mN_sNew]; omega
  have eS : mS (sNew μ 8 n n) - mS μ = n := by rw [mS_sNew]; omega
  rw [eN] at hcl
  rw [eS] at hsl
  rw [eN, eS] at kk
  refine va_newaK (atype := .boolean) (N := n) hS.1 hS.2.1 (hS.2.2.2.2.1 _ w) rfl d rfl (nI_pos (by omega)) (nI_clamp (by omega)) (by show n * 1 ≤ _; omega) hcl hsl rfl fun H1 cA e1 z1 o1 hAr hNm => ?_
  have hRA := (hS.2.2.2.2.2.2.1.1.2 2 _ (xtys_at g 2 (by decide))).2
  have hcA : g.2.1 2 = cA := Option.some.inj (hRA.symm.trans hNm)
  have w := kk H1 locs ls ⟨hH.1.push (by omega) z1 o1 ?_, xframe hH o1, hH.2.2⟩ hl
  · have e9 : xv g (.ref (mN μ)) = .ref H.size := by show Value.ref (xa g (mN μ)) = _; rw [xa_new hH.1]
    rw [List.map_cons, e9] at w
    exact w
  · rw [xe_bool (xT_new μ 8 n n), hcA]
    show H1[H.size]? = some (vp_cell _ _)
    rw [e1, vp_cell_i]
    congr 2
    funext j
    show Value.int 0 = _
    rw [show mI (sNew μ 8 n n) (mN μ) j = 0 from if_pos rfl]
theorem xover {g : xg} {U : State} (h : xK g U) {c : Nat} (h9 : 9 ≤ c) (hc : c < 12) : va_AO (xC (xac c)) U := by
  have : c = 9 ∨ c = 10 ∨ c = 11 := by omega
  rcases this with rfl | rfl | rfl
  · exact h.2.1.1
  · exact h.2.1.2.1
  · exact h.2.1.2.2.1
theorem X.anew {x : Int32} {n : Nat} (d : decode k.2.1 pc = .ok (.anewarray idx, 3)) (h9 : 9 ≤ c ∧ c < 12) (w : Cond.classLink k.1.cls idx (xC (xac c)) ∈ xtbl) (hx : x = nI n) (hn : n ≤ 100000) (kk : X k sc (pc + 3) lv (.ref (mN μ) :: st) (sNew μ c n n) Q) : X k sc pc lv (.int x :: st) μ Q := by
  subst hx
  refine X.stp (μ1 := sNew μ c n n) ⟨by rw [mN_sNew]; omega, by rw [mS_sNew]; omega⟩ (fun p l e R s m args below meth c0 g hS H locs cells slots ls Z hH hcl hsl hl kk => ?_) kk
  have eN : mN (sNew μ c n n) - mN μ = 1 := by rw [mN_sNew]; omega
  have eS : mS (sNew μ c n n) - mS μ = n := by rw [mS_sNew]; omega
  rw [eN] at hcl
  rw [eS] at hsl
  rw [eN, eS] at kk
  have hcm : (nI n).toNatClampNeg = n := nI_clamp (by omega)
  refine W.anew hS.1 hS.2.1 hS.2.2.2.1 (hS.2.2.2.2.1 _ w) (va_AO.use (xover hS.2.2.2.2.2.2.1 h9.1 h9.2)) rfl d rfl (nI_pos (by omega)) (by rw [hcm]; omega) hcl (by rw [hcm]; exact hsl) fun cA kA comp f1 f2 f3 f4 => ?_
  rw [hcm]
  obtain ⟨hx1, hx2⟩ := xac_ok h9.1 h9.2
  have hRA := (hS.2.2.2.2.2.2.1.1.2 (c - 6) _ (xtys_at g (c - 6) (by omega))).2
  dsimp only at hRA
  rw [hx1] at hRA
  obtain ⟨-, -, -, -, -, hnm⟩ := hRA
  have hcA : g.2.1 (c - 6) = cA := Option.some.inj (hnm.symm.trans f1)
  generalize hH1 : H.push ({ cls := cA, slots := Array.replicate n .null, vm := .none } : Cell) = H1
  have z1 : H1.size = H.size + 1 := by rw [← hH1, Array.size_push]
  have e1 : H1[H.size]? = some (arrV cA n (fun _ => .null)) := by rw [← hH1, Array.getElem?_push_size, ← arrV_new]
  have o1 : ∀ q : Nat, q < H.size → H1[q]? = H[q]? := fun q hq => by rw [← hH1, Array.getElem?_push, if_neg (Nat.ne_of_lt hq)]
  have w := kk H1 locs ls ⟨hH.1.push (by omega) z1 o1 ?_, xframe hH o1, hH.2.2⟩ hl
  · have e9 : xv g (.ref (mN μ)) = .ref H.size := by show Value.ref (xa g (mN μ)) = _; rw [xa_new hH.1]
    rw [List.map_cons, e9] at w
    exact w
  · rw [xe_ref (xT_new μ c n n) h9.1, hcA]
    show H1[H.size]? = some (vp_cell _ _)
    rw [e1, vp_cell_q]
    congr 2
    funext j
    show Value.null = _
    rw [show mR (sNew μ c n n) (mN μ) j = none from if_pos rfl]
    rfl
theorem X.objInit {a : Nat} (d : decode k.2.1 pc = .ok (.invokespecial idx, 3)) (w1 : Cond.methodLink k.1.cls idx objectInit ∈ xtbl) (w2 : Cond.instanceMethod objectInit ∈ xtbl) (w3 : Cond.code objectInit ⟨#[0xb1]⟩ 1 none ∈ xtbl) (hk : 1 ≤ k.2.2.2.2.1 ∧ 12 ≤ k.2.2.2.2.2)
    (kk : X k sc (pc + 3) lv [] μ Q) : X k sc pc lv [.ref a] μ Q := by
  refine X.pure (fun p l e R s m args below meth c0 g hS H locs cells slots ls Z hH hl kk => ?_) kk
  have h1 := hS.2.2.2.2.2.2.2.1
  have h2 := hS.2.2.2.2.2.2.2.2.1
  refine W.objInit (a := xa g a) (rest := []) hS.1 hS.2.1 hS.2.2.2.1 (hS.2.2.2.2.1 _ w1) (hS.2.2.2.2.1 _ w2) (hS.2.2.2.2.1 _ w3) rfl (by rw [hS.2.2.1]; exact hl.1) rfl d (by omega) (by show 0 + 0 + 12 ≤ _; omega) ?_
  exact kk ls hl
end XN
/-! calls -/
def xvok (k : xk) : Prop := Cond.code k.1 k.2.1 k.2.2.1 k.2.2.2.1 ∈ xtbl ∧ Cond.initialized k.1.cls ∈ xtbl ∧ (k.1.cls ≠ "java/lang/invoke/MethodHandle" ∧ k.1.cls ≠ "java/lang/invoke/VarHandle")
/-- the room of a call -/
def xrmok (k k' : xk) : Prop := k'.2.2.2.2.1 + 1 ≤ k.2.2.2.2.1 ∧ 8 + (k'.2.2.1 + 11) + k'.2.2.2.2.2 ≤ k.2.2.2.2.2
theorem xgood {k : xk} (h : xvok k) : GoodIn xtbl (xws k) := by
  intro w hw
  unfold xws at hw
  rcases List.mem_cons.mp hw with rfl | h1
  · exact xtbl_good _ h.1
  · exact xtbl_good _ h1
section XCALL
variable {p : Program} {l : Launch} {e : Env} {R : Room} {s : State} {m : MethodId} {args : Array Value} {below : List Frame} {meth : Method} {c0 : Code} {H : Heap} {locs : List Loc} {cells slots : Nat} {Z : State → Prop}
variable {k k' : xk} {sc : xsc} {g : xg} {μ μ1 : xM} {pc n idx : Nat} {ls : Array Slot} {as : List Value}
theorem xcb (hS : xS k sc g p R s m args meth c0) (hv : xvok k') (hr : xrmok k k') (hn : (parseMethodDescriptor k'.1.desc).map (fun d => d.parameters.length) = some n) (w : Cond.methodLink k.1.cls idx k'.1 ∈ xtbl) (mc ms : Nat) :
    CallB R s args k.1.cls idx k'.1 k'.2.1 k'.2.2.1 k'.2.2.2.1 (xws k') (xrm k' mc ms) mc ms n := by
  have hts := hS.2.2.2.2.1
  have h1 := hS.2.2.2.2.2.2.2.1
  have h2 := hS.2.2.2.2.2.2.2.2.1
  have r1 := hr.1
  have r2 := hr.2
  refine ⟨rfl, rfl, by show k'.2.2.2.2.1 + 1 ≤ _; omega, by show 8 + (k'.2.2.1 + 11) + k'.2.2.2.2.2 ≤ _; omega, pay_in hts (xgood hv), List.mem_cons_self, hts _ hv.1, hts _ hv.2.1, hv.2.2, fun sig h => ?_, hts _ w⟩
  rw [h] at hn
  exact (Option.some.inj hn).symm
theorem xcn {host : String} (hS : xS k sc g p R s m args meth c0) (hv : xvok k') (hr : xrmok k k') (hn : (parseMethodDescriptor k'.1.desc).map (fun d => d.parameters.length) = some n) (w : (k.1.cls, idx, k'.1, host) ∈ xnest) (mc ms : Nat) :
    va_CN R s args k.1.cls idx k'.1 host k'.2.1 k'.2.2.1 k'.2.2.2.1 (xws k') (xrm k' mc ms) mc ms n := by
  have hts := hS.2.2.2.2.1
  have h1 := hS.2.2.2.2.2.2.2.1
  have h2 := hS.2.2.2.2.2.2.2.2.1
  have r1 := hr.1
  have r2 := hr.2
  refine ⟨⟨rfl, rfl, by show k'.2.2.2.2.1 + 1 ≤ _; omega, by show 8 + (k'.2.2.1 + 11) + k'.2.2.2.2.2 ≤ _; omega, pay_in hts (xgood hv), List.mem_cons_self⟩, hts _ hv.1, hts _ hv.2.1, hv.2.2, fun sig h => ?_, va_Nw.use rfl (hS.2.2.2.2.2.2.1.2.2 _ w)⟩
  rw [h] at hn
  exact (Option.some.inj hn).symm
theorem xpre (hS : xS k sc g p R s m args meth c0) (hH : xH g s μ H locs) : PreS s H (xPc g μ as) (as.map (xv g)) :=
  ⟨fun a U gf mk q => ⟨q.1, q.2.1, q.2.2.same rfl⟩, fun U hU hW => ⟨rfl, by rw [hU]; exact hH.1, hS.2.2.2.2.2.2.1.warm hW⟩⟩
theorem xrun {r : Option Value} {st st0 : List Value} {a : Array Value} (hH : xH g s μ H locs) (hrun : va_Run p l e R s m args below meth c0 H locs cells slots (mN μ1 - mN μ) (mS μ1 - mS μ) (F0 m pc ls st0) (st.map (xv g)) (xQc g μ1 r a) (fun q => xbase g ≤ q))
    (kk : ∀ (H' : Heap) (locs' : List Loc), xH g s μ1 H' locs' → W p l e R s m args below meth c0 H' locs' (cells + (mN μ1 - mN μ)) (slots + (mS μ1 - mS μ)) Z (F0 m (pc + 3) ls ((r.toList ++ st).map (xv g)))) : W p l e R s m args below meth c0 H locs cells slots Z (F0 m pc ls st0) := by
  intro T hT X
  obtain ⟨v, st₀, t, T', L, h0, X', hL, e1, e2, ⟨hv, hR, hF⟩, go⟩ := hrun T hT X
  have hv2 : v = r.map (xv g) := by injection hv
  subst hv2
  obtain ⟨t2, a1, b1⟩ := kk T'.heap (locs ++ L) ⟨by rw [e1]; exact hR, fun q hq => by rw [e1, hF q hq, h0]; exact hH.2.1 q hq, fun q hq => by
    rcases List.mem_append.mp hq with h | h
    · exact hH.2.2 q h
    · exact hL q h⟩ T' rfl X'
  refine ⟨t2, go t2 ?_, b1⟩
  have e3 : (r.toList ++ st).map (xv g) = (r.map (xv g)).toList ++ st.map (xv g) := by cases r <;> rfl
  rw [e3] at a1
  exact a1
end XCALL
def xcats (st : List Value) : Nat := (st.map fun v => v.category).sum
theorem xcats_map (g : xg) (st : List Value) : (((st.map (xv g)).map fun v => v.category)).sum = xcats st := by
  unfold xcats
  rw [List.map_map]
  congr 1
  exact List.map_congr_left (fun v _ => xcat g v)
section XCALL2
variable {k k' : xk} {sc : xsc} {pc : Nat} {lv : Nat → Option Value} {st as : List Value} {μ : xM} {Q : Option Value → xM → Prop} {a c n idx : Nat}
theorem X.callV (d : decode k.2.1 pc = .ok (.invokevirtual idx, 3)) (hT : mT μ a = (c, n)) (hc : c < 6 ∧ xC c = k'.1.cls) (hv : xvok k') (w1 : Cond.methodLink k.1.cls idx k'.1 ∈ xtbl) (w2 : Cond.instanceMethod k'.1 ∈ xtbl) (w3 : Cond.selects k'.1.cls k'.1 k'.1 ∈ xtbl)
    (hr : xrmok k k') (hn : (parseMethodDescriptor k'.1.desc).map (fun d => d.parameters.length) = some as.length) (hst : xcats st ≤ 8) (hm : Mt k' (.ref a :: as) μ (fun r μ' => X k sc (pc + 3) lv (r.toList ++ st) μ' Q)) : X k sc pc lv (as.reverse ++ .ref a :: st) μ Q := by
  obtain ⟨r, μ1, ⟨hmo, hE⟩, hX⟩ := hm
  refine X.stp hmo (fun p l e R s m args below meth c0 g hS H locs cells slots ls Z hH hcl hsl hl kk => ?_) hX
  have hP := xpre (as := .ref a :: as) hS hH
  obtain ⟨hclo, -⟩ := xcl c hc.1
  have hrec := va_recv (q := (xC c, xT c, xnf c)) (ci := c) (q0 := 0) hS.2.2.2.2.2.2.1.1 (hH.1.one (a := a) (by rw [hT]; show c < 13; omega)) hclo (by rw [xe_obj hT hc.1]; rfl)
  have e4 : (as.reverse ++ .ref a :: st).map (xv g) = (as.map (xv g)).reverse ++ .ref (xa g a) :: st.map (xv g) := by rw [List.map_append, List.map_reverse]; rfl
  rw [e4]
  refine xrun hH (va_runV (C := k'.1.cls) (As := as.map (xv g)) (b := xa g a) (n := as.length) ⟨hS.1, hS.2.1, hS.2.2.1, hS.2.2.2.1, hS.2.2.2.2.1⟩ (hE l g) ⟨xcb hS hv hr hn w1 _ _, hS.2.2.2.2.1 _ w2, hS.2.2.2.2.1 _ w3⟩ ⟨hP.1, by rw [← hc.2]; exact hrec, hP.2⟩ rfl (by rw [List.length_map]) hl.1 rfl (by rw [xcats_map]; show 0 + _ ≤ 8; omega) d ⟨hcl, hsl⟩) (fun H' locs' hH' => kk H' locs' ls hH' hl)
theorem X.callS (d : decode k.2.1 pc = .ok (.invokestatic idx, 3)) (hv : xvok k') (w1 : Cond.methodLink k.1.cls idx k'.1 ∈ xtbl) (w2 : Cond.static k'.1 ∈ xtbl)
    (hr : xrmok k k') (hn : (parseMethodDescriptor k'.1.desc).map (fun d => d.parameters.length) = some as.length) (hst : xcats st ≤ 8) (hm : Mt k' as μ (fun r μ' => X k sc (pc + 3) lv (r.toList ++ st) μ' Q)) : X k sc pc lv (as.reverse ++ st) μ Q := by
  obtain ⟨r, μ1, ⟨hmo, hE⟩, hX⟩ := hm
  refine X.stp hmo (fun p l e R s m args below meth c0 g hS H locs cells slots ls Z hH hcl hsl hl kk => ?_) hX
  have e4 : (as.reverse ++ st).map (xv g) = (as.map (xv g)).reverse ++ st.map (xv g) := by rw [List.map_append, List.map_reverse]
  rw [e4]
  refine xrun hH (va_runS (As := as.map (xv g)) (n := as.length) ⟨hS.1, hS.2.1, hS.2.2.1, hS.2.2.2.1, hS.2.2.2.2.1⟩ (hE l g) ⟨xcb hS hv hr hn w1 _ _, hS.2.2.2.2.1 _ w2⟩ (xpre hS hH) rfl (by rw [List.length_map]) hl.1 rfl (by rw [xcats_map]; show 0 + _ ≤ 8; omega) d ⟨hcl, hsl⟩) (fun H' locs' hH' => kk H' locs' ls hH' hl)
theorem X.callSN {host : String} (d : decode k.2.1 pc = .ok (.invokestatic idx, 3)) (hv : xvok k') (w1 : (k.1.cls, idx, k'.1, host) ∈ xnest) (w2 : Cond.static k'.1 ∈ xtbl)
    (hr : xrmok k k') (hn : (parseMethodDescriptor k'.1.desc).map (fun d => d.parameters.length) = some as.length) (hst : xcats st ≤ 8) (hm : Mt k' as μ (fun r μ' => X k sc (pc + 3) lv (r.toList ++ st) μ' Q)) : X k sc pc lv (as.reverse ++ st) μ Q := by
  obtain ⟨r, μ1, ⟨hmo, hE⟩, hX⟩ := hm
  refine X.stp hmo (fun p l e R s m args below meth c0 g hS H locs cells slots ls Z hH hcl hsl hl kk => ?_) hX
  have e4 : (as.reverse ++ st).map (xv g) = (as.map (xv g)).reverse ++ st.map (xv g) := by rw [List.map_append, List.map_reverse]
  rw [e4]
  refine xrun hH (va_runSN (host := host) (As := as.map (xv g)) (n := as.length) (Ts := xtbl) ⟨hS.1, hS.2.1, hS.2.2.1, hS.2.2.2.1, hS.2.2.2.2.1⟩ (hE l g) ⟨xcn hS hv hr hn w1 _ _, hS.2.2.2.2.1 _ w2, trivial⟩ (xpre hS hH) rfl (by rw [List.length_map]) hl.1 rfl (by rw [xcats_map]; show 0 + _ ≤ 8; omega) d ⟨hcl, hsl⟩) (fun H' locs' hH' => kk H' locs' ls hH' hl)
theorem X.callI (d : decode k.2.1 pc = .ok (.invokespecial idx, 3)) (hk : k'.2.2.2.1 = none ∧ k'.1.name = "<init>") (hv : xvok k') (w1 : Cond.methodLink k.1.cls idx k'.1 ∈ xtbl) (w2 : Cond.instanceMethod k'.1 ∈ xtbl)
    (hr : xrmok k k') (hn : (parseMethodDescriptor k'.1.desc).map (fun d => d.parameters.length) = some as.length) (hst : xcats st ≤ 8) (hm : Mt k' (.ref a :: as) μ (fun r μ' => X k sc (pc + 3) lv (r.toList ++ st) μ' Q)) : X k sc pc lv (as.reverse ++ .ref a :: st) μ Q := by
  obtain ⟨r, μ1, ⟨hmo, hE⟩, hX⟩ := hm
  refine X.stp hmo (fun p l e R s m args below meth c0 g hS H locs cells slots ls Z hH hcl hsl hl kk => ?_) hX
  have hP := xpre (as := .ref a :: as) hS hH
  have e4 : (as.reverse ++ .ref a :: st).map (xv g) = (as.map (xv g)).reverse ++ .ref (xa g a) :: st.map (xv g) := by rw [List.map_append, List.map_reverse]; rfl
  rw [e4]
  have hb := xcb hS hv hr hn w1 (mN μ1 - mN μ) (mS μ1 - mS μ)
  rw [hk.1] at hb
  refine xrun hH (va_runI (As := as.map (xv g)) (b := xa g a) (n := as.length) ⟨hS.1, hS.2.1, hS.2.2.1, hS.2.2.2.1, hS.2.2.2.2.1⟩ (hE l g) ⟨hb, hk.2, hS.2.2.2.2.1 _ w2⟩ hP rfl (by rw [List.length_map]) hl.1 rfl (by rw [xcats_map]; show 0 + _ ≤ 8; omega) d ⟨hcl, hsl⟩) (fun H' locs' hH' => kk H' locs' ls hH' hl)
theorem X.callIN {host : String} (d : decode k.2.1 pc = .ok (.invokespecial idx, 3)) (hk : k'.2.2.2.1 = none ∧ k'.1.name = "<init>") (hv : xvok k') (w1 : (k.1.cls, idx, k'.1, host) ∈ xnest) (w2 : Cond.instanceMethod k'.1 ∈ xtbl)
    (hr : xrmok k k') (hn : (parseMethodDescriptor k'.1.desc).map (fun d => d.parameters.length) = some as.length) (hst : xcats st ≤ 8) (hm : Mt k' (.ref a :: as) μ (fun r μ' => X k sc (pc + 3) lv (r.toList ++ st) μ' Q)) : X k sc pc lv (as.reverse ++ .ref a :: st) μ Q := by
  obtain ⟨r, μ1, ⟨hmo, hE⟩, hX⟩ := hm
  refine X.stp hmo (fun p l e R s m args below meth c0 g hS H locs cells slots ls Z hH hcl hsl hl kk => ?_) hX
  have hP := xpre (as := .ref a :: as) hS hH
  have e4 : (as.reverse ++ .ref a :: st).map (xv g) = (as.map (xv g)).reverse ++ .ref (xa g a) :: st.map (xv g) := by rw [List.map_append, List.map_reverse]; rfl
  rw [e4]
  have hb := xcn hS hv hr hn w1 (mN μ1 - mN μ) (mS μ1 - mS μ)
  rw [hk.1] at hb
  refine xrun hH (va_runIN (host := host) (As := as.map (xv g)) (b := xa g a) (n := as.length) (Ts := xtbl) ⟨hS.1, hS.2.1, hS.2.2.1, hS.2.2.2.1, hS.2.2.2.2.1⟩ (hE l g) ⟨hb, hk.2, hS.2.2.2.2.1 _ w2⟩ hP rfl (by rw [List.length_map]) hl.1 rfl (by rw [xcats_map]; show 0 + _ ≤ 8; omega) d ⟨hcl, hsl⟩) (fun H' locs' hH' => kk H' locs' ls hH' hl)
end XCALL2
