/-! new int[n][w]: the outer array, then its rows -/
def mnaM (μ : xM) (n w : Nat) : xM :=
  (fun b => if b = mN μ then (12, n) else if mN μ < b ∧ b ≤ mN μ + n then (6, w) else mT μ b,
   fun b j => if mN μ ≤ b ∧ b ≤ mN μ + n then 0 else mI μ b j,
   fun b j => if mN μ ≤ b ∧ b ≤ mN μ + n then 0 else mJ μ b j,
   fun b j => if b = mN μ then (if j < n then some (mN μ + 1 + j) else none) else if mN μ < b ∧ b ≤ mN μ + n then none else mR μ b j,
   mN μ + 1 + n, mS μ + n + n * w)
theorem mna_T (μ : xM) (n w b : Nat) : mT (mnaM μ n w) b = if b = mN μ then (12, n) else if mN μ < b ∧ b ≤ mN μ + n then (6, w) else mT μ b := rfl
theorem mna_I (μ : xM) (n w b j : Nat) : mI (mnaM μ n w) b j = if mN μ ≤ b ∧ b ≤ mN μ + n then 0 else mI μ b j := rfl
theorem mna_J (μ : xM) (n w b j : Nat) : mJ (mnaM μ n w) b j = if mN μ ≤ b ∧ b ≤ mN μ + n then 0 else mJ μ b j := rfl
theorem mna_R (μ : xM) (n w b j : Nat) : mR (mnaM μ n w) b j = if b = mN μ then (if j < n then some (mN μ + 1 + j) else none) else if mN μ < b ∧ b ≤ mN μ + n then none else mR μ b j := rfl
theorem mna_N (μ : xM) (n w : Nat) : mN (mnaM μ n w) = mN μ + 1 + n := rfl
theorem mna_S (μ : xM) (n w : Nat) : mS (mnaM μ n w) = mS μ + n + n * w := rfl
theorem mna_old {g : xg} {μ : xM} {n w b : Nat} (h : b < mN μ) : xe g (mnaM μ n w) b = xe g μ b := by
  have e : mR (mnaM μ n w) b = mR μ b := by funext j; rw [mna_R, if_neg (by omega), if_neg (by omega)]
  have e1 : mI (mnaM μ n w) b = mI μ b := by funext j; rw [mna_I, if_neg (by omega)]
  have e3 : mJ (mnaM μ n w) b = mJ μ b := by funext j; rw [mna_J, if_neg (by omega)]
  have e4 : mT (mnaM μ n w) b = mT μ b := by rw [mna_T, if_neg (by omega), if_neg (by omega)]
  unfold xe
  rw [e4, e, e1, e3]
  have e2 : xfv g (mnaM μ n w) b = xfv g μ b := by
    funext c j
    unfold xfv
    rw [e, e1, e3]
  rw [e2]
theorem mna_outer (c : ClassId) (N h0 : Nat) : ∀ i : Nat, Jvm.Free.Multi.outerC c N h0 i = arrV c N (fun j => va_rf (if j < i then some (h0 + 1 + j) else none))
  | 0 => by
    show ({ cls := c, slots := Array.replicate N .null, vm := .none } : Cell) = _
    rw [arrV_new]
    refine congrArg (arrV c N) (funext fun j => ?_)
    simp [va_rf]
  | i + 1 => by
    show (Jvm.Free.Multi.outerC c N h0 i).setSlot i (.ref (h0 + 1 + i)) = _
    rw [mna_outer c N h0 i, arrV_store]
    refine congrArg (arrV c N) (funext fun j => ?_)
    by_cases e : j = i
    · subst e
      simp [updV, va_rf]
    · by_cases h : j < i
      · simp [updV, e, h, Nat.lt_succ_of_lt h]
      · simp [updV, e, h, show ¬ j < i + 1 by omega]
theorem xa_nth {g : xg} {μ : xM} {H : Heap} (h : Rep g μ H) (j : Nat) : xa g (mN μ + 1 + j) = H.size + 1 + j := by
  have h1 := h.1
  have h2 := h.2.1
  unfold xa
  rw [if_neg (by omega)]
  omega
theorem Rep.mna {g : xg} {μ : xM} {H H1 : Heap} {n w : Nat} (h : Rep g μ H) (z : H1.size = H.size + 1 + n) (oq : ∀ q : Nat, q < H.size → H1[q]? = H[q]?)
    (ho : H1[H.size]? = some (arrV (g.2.1 6) n (fun j => va_rf (if j < n then some (H.size + 1 + j) else none)))) (hr : ∀ j : Nat, j < n → H1[H.size + 1 + j]? = some (arrV (g.2.1 0) w (fun _ => .int 0))) : Rep g (mnaM μ n w) H1 := by
  obtain ⟨h1, h2, h3, h4, h5⟩ := id h
  refine ⟨by rw [mna_N]; omega, by rw [mna_N, z, h2]; omega, fun b hb => ?_, fun b b1 b2 => ?_, fun b b1 b2 => ?_⟩
  · rw [mna_N]
    rw [mna_T] at hb
    by_cases e : b = mN μ
    · omega
    · by_cases e2 : mN μ < b ∧ b ≤ mN μ + n
      · omega
      · rw [if_neg e, if_neg e2] at hb
        have := h3 b hb
        omega
  · rw [mna_N] at b2
    rw [mna_T]
    by_cases e : b = mN μ
    · rw [if_pos e]; exact (by decide : 12 < 13)
    · rw [if_neg e]
      by_cases e2 : mN μ < b ∧ b ≤ mN μ + n
      · rw [if_pos e2]; exact (by decide : 6 < 13)
      · rw [if_neg e2]
        exact h4 b b1 (by omega)
  · rw [mna_N] at b2
    by_cases e : b = mN μ
    · subst e
      have hx : mT (mnaM μ n w) (mN μ) = (12, n) := by rw [mna_T, if_pos rfl]
      rw [xe_ref hx (by decide), xa_new h]
      show H1[H.size]? = some (vp_cell _ _)
      rw [vp_cell_q, ho]
      refine congrArg (fun f => some (arrV (g.2.1 6) n f)) (funext fun j => ?_)
      rw [mna_R, if_pos rfl]
      by_cases q : j < n
      · rw [if_pos q, if_pos q, Option.map_some, xa_nth h]
      · rw [if_neg q, if_neg q]; rfl
    · by_cases e2 : mN μ < b ∧ b ≤ mN μ + n
      · obtain ⟨j, rfl⟩ : ∃ j, b = mN μ + 1 + j := ⟨b - (mN μ + 1), by omega⟩
        have hx : mT (mnaM μ n w) (mN μ + 1 + j) = (6, w) := by rw [mna_T, if_neg e, if_pos e2]
        rw [xe_int hx, xa_nth h]
        show H1[H.size + 1 + j]? = some (vp_cell _ _)
        rw [vp_cell_i, hr j (by omega)]
        refine congrArg (fun f => some (arrV (g.2.1 0) w f)) (funext fun i => ?_)
        rw [mna_I, if_pos (by omega)]
      · rw [mna_old (by omega)]
        exact (h5 b b1 (by omega)).kept (oq _ (xa_lt h b1 (by omega)))
theorem X.mna {k : xk} {sc : xsc} {pc : Nat} {lv : Nat → Option Value} {st : List Value} {μ : xM} {Q : Option Value → xM → Prop} {idx n w : Nat} {x y : Int32} (d : decode k.2.1 pc = .ok (.multianewarray idx 2, 4)) (w1 : Cond.classLink k.1.cls idx "[[I" ∈ xtbl) (w2 : Cond.arrayClass .int ∈ xtbl) (hx : x = nI n) (hy : y = nI w) (hn : n ≤ 1000) (hw : w ≤ 1000)
    (kk : X k sc (pc + 4) lv (.ref (mN μ) :: st) (mnaM μ n w) Q) : X k sc pc lv (.int y :: .int x :: st) μ Q := by
  subst hx
  subst hy
  refine X.stp (μ1 := mnaM μ n w) ⟨by rw [mna_N]; omega, by rw [mna_S]; omega⟩ (fun p l e R s m args below meth c0 g hS H locs cells slots ls Z hH hcl hsl hl kk => ?_) kk
  have eN : mN (mnaM μ n w) - mN μ = 1 + n := by rw [mna_N]; omega
  have eS : mS (mnaM μ n w) - mS μ = n + n * w := by rw [mna_S]; omega
  rw [eN] at hcl
  rw [eS] at hsl
  rw [eN, eS] at kk
  have cn : (nI n).toNatClampNeg = n := nI_clamp (by omega)
  have cw : (nI w).toNatClampNeg = w := nI_clamp (by omega)
  have hK := hS.2.2.2.2.2.2.1
  intro T hT Xs
  have hTs : T.heap.size = H.size := by rw [hT]
  obtain ⟨vm₁, cA, comp, -, fA, fC, -, -, X', step⟩ := Xs.multianewarray2F hS.1 (own := k.1.cls) (index := idx) (ty := .int) hS.2.2.2.1 (hS.2.2.2.2.1 _ w1) hK.2.1.2.2.2 (hS.2.2.2.2.1 _ w2) (g := F0 m pc ls ((.int (nI w) :: .int (nI n) :: st).map (xv g))) rfl (by rw [hS.2.1]; exact d) (n := nI n) (k := nI w) (rest := st.map (xv g)) rfl (nI_pos (by omega)) (nI_pos (by omega))
    (by rw [cn]; omega) (by rw [cw]; show w * 4 ≤ _; omega) (by rw [cw]; omega) rfl rfl (by rw [cn]; exact hcl) (by rw [cn, cw]; exact hsl)
  have eA : g.2.1 6 = cA := Option.some.inj ((hK.1.2 6 _ (xtys_at g 6 (by decide))).2.symm.trans fA)
  have eC : g.2.1 0 = comp := Option.some.inj ((hK.1.2 0 _ (xtys_at g 0 (by decide))).2.symm.trans fC)
  rw [cn, cw] at X' step
  generalize hF : Jvm.Free.Multi.fill (T.setVm vm₁) cA comp n w (defaultValue .int) n = F at X' step
  have hTh : (T.setVm vm₁).heap = H := hT
  obtain ⟨f1, f2, -, -⟩ := Jvm.Free.Multi.fill_facts (T.setVm vm₁) cA comp n w (defaultValue .int) n
  rw [hF, hTh] at f1 f2
  have hold : ∀ x : Nat, x < H.size → F.heap[x]? = H[x]? := fun x hx => by
    have := Jvm.Free.Multi.fill_old (T.setVm vm₁) cA comp n w (defaultValue .int) (a := x) (by rw [hTh]; exact hx) n
    rw [hF, hTh] at this
    exact this
  have hrow : ∀ j : Nat, j < n → F.heap[H.size + 1 + j]? = some (arrV comp w (fun _ => .int 0)) := fun j hj => by
    have := Jvm.Free.Multi.fill_inner (T.setVm vm₁) cA comp n w (defaultValue .int) n j hj
    rw [hF, hTh] at this
    rw [this]
    show some ({ cls := comp, slots := Array.replicate w (.int 0), vm := .none } : Cell) = _
    rw [arrV_new]
  rw [mna_outer] at f2
  obtain ⟨t, a1, b1⟩ := kk F.heap locs ls ⟨hH.1.mna f1 hold (by rw [eA]; exact f2) (by rw [eC]; exact hrow), xframe hH hold, hH.2.2⟩ hl F rfl (by rw [← Nat.add_assoc, ← Nat.add_assoc]; exact X')
  refine ⟨t, step t ?_, b1⟩
  have e9 : xv g (.ref (mN μ)) = .ref H.size := by show Value.ref (xa g (mN μ)) = _; rw [xa_new hH.1]
  rw [List.map_cons, e9, ← hTs] at a1
  exact a1
