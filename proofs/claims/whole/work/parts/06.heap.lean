/-! fields, arrays, calls -/
section XH
variable {k : xk} {sc : xsc} {pc : Nat} {lv : Nat → Option Value} {st : List Value} {μ : xM} {Q : Option Value → xM → Prop} {a c n kf idx : Nat}
theorem X.getI (d : decode k.2.1 pc = .ok (.getfield idx, 3)) (hT : mT μ a = (c, n)) (hc : c < 6) (hk : kf < xnf c) (hf : xft c kf = 0) (w : Cond.fieldLink k.1.cls idx (xT c kf).1 (xT c kf).2.1 (xT c kf).2.2.1 ∈ xtbl)
    (kk : X k sc (pc + 3) lv (.int (mI μ a kf) :: st) μ Q) : X k sc pc lv (.ref a :: st) μ Q := by
  refine X.pure (fun p l e R s m args below meth c0 g hS H locs cells slots ls Z hH hl kk => ?_) kk
  obtain ⟨hcl, hin, hty, hnm⟩ := xcl c hc
  exact va_get (D := g.1) (cl := vwCl) (tys := xtys g) (ws := [(xa g a, xe g μ a)]) hS.1 hS.2.1 hS.2.2.2.2.1 hin hS.2.2.2.1 hS.2.2.2.2.2.2.1.1 (hH.1.one (by rw [hT]; show c < 13; omega)) 0 (fs := (List.range (xnf c)).map (xfv g μ a c)) (by rw [xe_obj hT hc]; rfl) hcl kf hk (hS.2.2.2.2.1 _ w) (fun _ h9 => h9) (v := .int (mI μ a kf)) (by rw [xfv_get _ _ _ _ _ hk, xfv_I hf]) d (kk ls hl)
theorem X.getJ (d : decode k.2.1 pc = .ok (.getfield idx, 3)) (hT : mT μ a = (c, n)) (hc : c < 6) (hk : kf < xnf c) (hf : xft c kf = 1) (w : Cond.fieldLink k.1.cls idx (xT c kf).1 (xT c kf).2.1 (xT c kf).2.2.1 ∈ xtbl)
    (kk : X k sc (pc + 3) lv (.long (mJ μ a kf) :: st) μ Q) : X k sc pc lv (.ref a :: st) μ Q := by
  refine X.pure (fun p l e R s m args below meth c0 g hS H locs cells slots ls Z hH hl kk => ?_) kk
  obtain ⟨hcl, hin, hty, hnm⟩ := xcl c hc
  exact va_get (D := g.1) (cl := vwCl) (tys := xtys g) (ws := [(xa g a, xe g μ a)]) hS.1 hS.2.1 hS.2.2.2.2.1 hin hS.2.2.2.1 hS.2.2.2.2.2.2.1.1 (hH.1.one (by rw [hT]; show c < 13; omega)) 0 (fs := (List.range (xnf c)).map (xfv g μ a c)) (by rw [xe_obj hT hc]; rfl) hcl kf hk (hS.2.2.2.2.1 _ w) (fun _ h9 => h9) (v := .long (mJ μ a kf)) (by rw [xfv_get _ _ _ _ _ hk, xfv_J hf]) d (kk ls hl)
theorem X.getR {b : Nat} (d : decode k.2.1 pc = .ok (.getfield idx, 3)) (hT : mT μ a = (c, n)) (hc : c < 6) (hk : kf < xnf c) (hf : xft c kf = 2) (w : Cond.fieldLink k.1.cls idx (xT c kf).1 (xT c kf).2.1 (xT c kf).2.2.1 ∈ xtbl) (hr : mR μ a kf = some b)
    (kk : X k sc (pc + 3) lv (.ref b :: st) μ Q) : X k sc pc lv (.ref a :: st) μ Q := by
  refine X.pure (fun p l e R s m args below meth c0 g hS H locs cells slots ls Z hH hl kk => ?_) kk
  obtain ⟨hcl, hin, hty, hnm⟩ := xcl c hc
  exact va_get (D := g.1) (cl := vwCl) (tys := xtys g) (ws := [(xa g a, xe g μ a)]) hS.1 hS.2.1 hS.2.2.2.2.1 hin hS.2.2.2.1 hS.2.2.2.2.2.2.1.1 (hH.1.one (by rw [hT]; show c < 13; omega)) 0 (fs := (List.range (xnf c)).map (xfv g μ a c)) (by rw [xe_obj hT hc]; rfl) hcl kf hk (hS.2.2.2.2.1 _ w) (fun _ h9 => h9) (v := .ref (xa g b)) (by rw [xfv_get _ _ _ _ _ hk, xfv_R hf, hr]; rfl) d (kk ls hl)
theorem X.getN (d : decode k.2.1 pc = .ok (.getfield idx, 3)) (hT : mT μ a = (c, n)) (hc : c < 6) (hk : kf < xnf c) (hf : xft c kf = 2) (w : Cond.fieldLink k.1.cls idx (xT c kf).1 (xT c kf).2.1 (xT c kf).2.2.1 ∈ xtbl) (hr : mR μ a kf = none)
    (kk : X k sc (pc + 3) lv (.null :: st) μ Q) : X k sc pc lv (.ref a :: st) μ Q := by
  refine X.pure (fun p l e R s m args below meth c0 g hS H locs cells slots ls Z hH hl kk => ?_) kk
  obtain ⟨hcl, hin, hty, hnm⟩ := xcl c hc
  exact va_get (D := g.1) (cl := vwCl) (tys := xtys g) (ws := [(xa g a, xe g μ a)]) hS.1 hS.2.1 hS.2.2.2.2.1 hin hS.2.2.2.1 hS.2.2.2.2.2.2.1.1 (hH.1.one (by rw [hT]; show c < 13; omega)) 0 (fs := (List.range (xnf c)).map (xfv g μ a c)) (by rw [xe_obj hT hc]; rfl) hcl kf hk (hS.2.2.2.2.1 _ w) (fun _ h9 => h9) (v := .null) (by rw [xfv_get _ _ _ _ _ hk, xfv_R hf, hr]; rfl) d (kk ls hl)
/-- what a putfield may write -/
def xfin (k : xk) (c kf : Nat) : Prop := (xT c kf).2.2.2 = false ∨ ((xT c kf).2.2.2 = true ∧ k.1.name = "<init>" ∧ (xT c kf).1 = k.1.cls)
end XH
section XHW
variable {p : Program} {l : Launch} {e : Env} {R : Room} {s : State} {m : MethodId} {args : Array Value} {below : List Frame} {meth : Method} {c0 : Code} {H : Heap} {locs : List Loc} {cells slots : Nat} {Z : State → Prop}
variable {pc : Nat} {ls : Array Slot} {rest : List Value} {k : xk} {sc : xsc} {g : xg} {μ : xM} {a c n kf idx : Nat}
theorem xfr {H1 : Heap} (hH : xH g s μ H locs) (ha : 1 ≤ a) (oq : ∀ q : Nat, q ≠ xa g a → H1[q]? = H[q]?) : ∀ q : Nat, q < xbase g → H1[q]? = s.heap[q]? := by
  intro q hq
  have := xa_ge (g := g) ha
  rw [oq q (by omega)]
  exact hH.2.1 q hq
theorem xlc {i : Nat} (hH : xH g s μ H locs) (ha : 1 ≤ a) : ∀ q ∈ locs ++ [(⟨xa g a, i⟩ : Loc)], xbase g ≤ q.base := by
  intro q hq
  rcases List.mem_append.mp hq with h | h
  · exact hH.2.2 q h
  · rw [List.mem_singleton.mp h]
    exact xa_ge ha
theorem xput {v : Value} (hS : xS k sc g p R s m args meth c0) (hH : xH g s μ H locs) (d : decode k.2.1 pc = .ok (.putfield idx, 3)) (hT : mT μ a = (c, n)) (hc : c < 6) (hk : kf < xnf c) (hfin : xfin k c kf) (hn : narrow (xty c kf) v = v) (hfit : fits (xty c kf) v = true)
    (w : Cond.fieldLink k.1.cls idx (xT c kf).1 (xT c kf).2.1 (xT c kf).2.2.1 ∈ xtbl)
    (kk : ∀ (H1 : Heap) (locs1 : List Loc), H1.size = H.size → (∀ q : Nat, q ≠ xa g a → H1[q]? = H[q]?) → t_OB (xa g a) (g.1.1 c) (xnf c) (g.1.2 c) H1 (updV (xfv g μ a c) kf v) → (∀ q ∈ locs1, xbase g ≤ q.base) → (∀ q : Nat, q < xbase g → H1[q]? = s.heap[q]?) →
      W p l e R s m args below meth c0 H1 locs1 cells slots Z (F0 m (pc + 3) ls rest)) : W p l e R s m args below meth c0 H locs cells slots Z (F0 m pc ls (v :: .ref (xa g a) :: rest)) := by
  obtain ⟨hcl, hin, hty, hnm⟩ := xcl c hc
  have hK : va_K g.1 vwCl (xtys g) s := hS.2.2.2.2.2.2.1.1
  have hts := hS.2.2.2.2.1
  have hap := va_apart (own := k.1.cls) hts hin (xty c) hty hnm hK hcl
  have h13 : (mT μ a).1 < 13 := by rw [hT]; show c < 13; omega
  have hat := hH.1.at h13
  rw [xe_obj hT hc] at hat
  obtain ⟨r, h1, cell, q1, q2, q3, q4⟩ := hat
  have hr : r = (xC c, xT c, xnf c) := Option.some.inj (h1.symm.trans hcl)
  subst hr
  obtain ⟨hSl, hfc, kC, hkC, hkind⟩ := hK.1 c _ hcl
  obtain ⟨cf, kf', fi, f, hi, hsl⟩ := hSl kf hk
  have ha1 := (hH.1.2.2.1 a h13).1
  have hlay := hts _ (hin _ (u_in_lay hk))
  unfold u_lay at hlay
  have hst := (u_facts hfc hkC (u_lays hts hin hk) hi).1
  have hob : ∀ H' : Heap, H'[xa g a]? = some (cell.setSlot f.slot v) → t_OB (xa g a) (g.1.1 c) (xnf c) (g.1.2 c) H' (updV (xfv g μ a c) kf v) := by
    intro H' e1
    rw [hsl] at e1
    refine t_OB.to (V := updV (vp_V ((List.range (xnf c)).map (xfv g μ a c))) kf v) ⟨_, e1, q2, q3, t_set q4 hap hk v⟩ (fun j hj => ?_)
    unfold updV
    by_cases e : j = kf
    · rw [if_pos e, if_pos e]
    · rw [if_neg e, if_neg e]
      unfold vp_V
      rw [List.getD_eq_getElem?_getD, xfv_get _ _ _ _ _ hj]
      rfl
  rcases hfin with hf | ⟨hf, hini, hdecl⟩
  · rw [if_neg (by rw [hf]; decide)] at hlay
    have h6 := u_store hfc hkC hkind hlay hi (hty kf hk) hn hfit
    exact W.putK hS.1 hS.2.1 (f := f) ⟨hS.2.2.2.1, hts _ w, ⟨_, _, _, hi⟩, hst⟩ (by rw [q2]; exact h6) q1 q3 (by rw [hsl]; exact k2_hasslot (q4 kf hk)) rfl rfl d fun H' e1 e2 e3 => kk H' _ e2 e3 (hob H' e1) (xlc hH ha1) (xfr hH ha1 e3)
  · rw [if_pos hf] at hlay
    have hcf : m.cls = cf := by
      obtain ⟨_, _, c', _, _, _, -, -, hf', -, -, -, hown2, -⟩ := Cond.laysFinal_spec hlay
      have e1 : c' = cf := by have := hi.symm.trans hf'; simp at this; exact this.1.symm
      rw [hdecl] at hown2
      rw [← e1]; exact Option.some.inj (hS.2.2.2.1.symm.trans hown2)
    have h6 := u_fits hfc hkC hkind (Or.inr hlay) hi (hty kf hk) hn hfit
    exact W.putFinK hS.1 hS.2.1 hS.2.2.2.1 (hts _ w) hi hst hcf (hS.2.2.2.2.2.1.trans hini) (by rw [q2]; exact h6) q1 q3 (by rw [hsl]; exact k2_hasslot (q4 kf hk)) rfl rfl d fun H' e1 e2 e3 => kk H' _ e2 e3 (hob H' e1) (xlc hH ha1) (xfr hH ha1 e3)
theorem xobj {μ1 : xM} {H1 : Heap} {kf : Nat} {v : Value} (hT : mT μ1 a = (c, n)) (hc : c < 6) (h : t_OB (xa g a) (g.1.1 c) (xnf c) (g.1.2 c) H1 (updV (xfv g μ a c) kf v)) (hv : ∀ j, xfv g μ1 a c j = updV (xfv g μ a c) kf v j) : va_at g.1 vwCl (xa g a, xe g μ1 a) H1 := by
  rw [xe_obj hT hc]
  refine ⟨_, (xcl c hc).1, h.to (fun j hj => ?_)⟩
  rw [← hv j]
  unfold vp_V
  rw [List.getD_eq_getElem?_getD, xfv_get _ _ _ _ _ hj]
  rfl
end XHW
section XH2
variable {k : xk} {sc : xsc} {pc : Nat} {lv : Nat → Option Value} {st : List Value} {μ : xM} {Q : Option Value → xM → Prop} {a c n kf idx : Nat}
theorem X.putI {x : Int32} (d : decode k.2.1 pc = .ok (.putfield idx, 3)) (hT : mT μ a = (c, n)) (hc : c < 6) (hk : kf < xnf c) (hf : xft c kf = 0) (hfin : xfin k c kf) (hn : narrow (xty c kf) (.int x) = .int x ∧ fits (xty c kf) (.int x) = true)
    (w : Cond.fieldLink k.1.cls idx (xT c kf).1 (xT c kf).2.1 (xT c kf).2.2.1 ∈ xtbl) (kk : X k sc (pc + 3) lv st (sI μ a kf x) Q) : X k sc pc lv (.int x :: .ref a :: st) μ Q := by
  refine X.stp (μ1 := sI μ a kf x) ⟨Nat.le_refl _, Nat.le_refl _⟩ (fun p l e R s m args below meth c0 g hS H locs cells slots ls Z hH hcl hsl hl kk => ?_) kk
  rw [mN_sI, mS_sI, Nat.sub_self, Nat.sub_self] at kk
  refine xput hS hH d hT hc hk hfin hn.1 hn.2 w (fun H1 locs1 e1 e2 e3 e4 e5 => kk H1 locs1 ls ⟨?_, e5, e4⟩ hl)
  exact hH.1.set (by rw [hT]; show c < 13; omega) rfl rfl e1 e2 (xobj (by rw [mT_sI]; exact hT) hc e3 (fun j => xfv_set_I hf j)) (fun b hb => xe_sI hb)
theorem X.putJ {x : Int64} (d : decode k.2.1 pc = .ok (.putfield idx, 3)) (hT : mT μ a = (c, n)) (hc : c < 6) (hk : kf < xnf c) (hf : xft c kf = 1) (hfin : xfin k c kf) (hn : narrow (xty c kf) (.long x) = .long x ∧ fits (xty c kf) (.long x) = true)
    (w : Cond.fieldLink k.1.cls idx (xT c kf).1 (xT c kf).2.1 (xT c kf).2.2.1 ∈ xtbl) (kk : X k sc (pc + 3) lv st (sJ μ a kf x) Q) : X k sc pc lv (.long x :: .ref a :: st) μ Q := by
  refine X.stp (μ1 := sJ μ a kf x) ⟨Nat.le_refl _, Nat.le_refl _⟩ (fun p l e R s m args below meth c0 g hS H locs cells slots ls Z hH hcl hsl hl kk => ?_) kk
  rw [mN_sJ, mS_sJ, Nat.sub_self, Nat.sub_self] at kk
  refine xput hS hH d hT hc hk hfin hn.1 hn.2 w (fun H1 locs1 e1 e2 e3 e4 e5 => kk H1 locs1 ls ⟨?_, e5, e4⟩ hl)
  exact hH.1.set (by rw [hT]; show c < 13; omega) rfl rfl e1 e2 (xobj (by rw [mT_sJ]; exact hT) hc e3 (fun j => xfv_set_J hf j)) (fun b hb => xe_sJ hb)
theorem X.putR {b : Nat} (d : decode k.2.1 pc = .ok (.putfield idx, 3)) (hT : mT μ a = (c, n)) (hc : c < 6) (hk : kf < xnf c) (hf : xft c kf = 2) (hfin : xfin k c kf) (hn : ∀ b : Nat, narrow (xty c kf) (.ref b) = .ref b ∧ fits (xty c kf) (.ref b) = true)
    (w : Cond.fieldLink k.1.cls idx (xT c kf).1 (xT c kf).2.1 (xT c kf).2.2.1 ∈ xtbl) (kk : X k sc (pc + 3) lv st (sR μ a kf (some b)) Q) : X k sc pc lv (.ref b :: .ref a :: st) μ Q := by
  refine X.stp (μ1 := sR μ a kf (some b)) ⟨Nat.le_refl _, Nat.le_refl _⟩ (fun p l e R s m args below meth c0 g hS H locs cells slots ls Z hH hcl hsl hl kk => ?_) kk
  rw [mN_sR, mS_sR, Nat.sub_self, Nat.sub_self] at kk
  refine xput (v := .ref (xa g b)) hS hH d hT hc hk hfin (hn _).1 (hn _).2 w (fun H1 locs1 e1 e2 e3 e4 e5 => kk H1 locs1 ls ⟨?_, e5, e4⟩ hl)
  exact hH.1.set (by rw [hT]; show c < 13; omega) rfl rfl e1 e2 (xobj (by rw [mT_sR]; exact hT) hc e3 (fun j => xfv_set_R hf j)) (fun b hb => xe_sR hb)
theorem X.putN (d : decode k.2.1 pc = .ok (.putfield idx, 3)) (hT : mT μ a = (c, n)) (hc : c < 6) (hk : kf < xnf c) (hf : xft c kf = 2) (hfin : xfin k c kf) (hn : narrow (xty c kf) .null = .null ∧ fits (xty c kf) .null = true)
    (w : Cond.fieldLink k.1.cls idx (xT c kf).1 (xT c kf).2.1 (xT c kf).2.2.1 ∈ xtbl) (kk : X k sc (pc + 3) lv st (sR μ a kf none) Q) : X k sc pc lv (.null :: .ref a :: st) μ Q := by
  refine X.stp (μ1 := sR μ a kf none) ⟨Nat.le_refl _, Nat.le_refl _⟩ (fun p l e R s m args below meth c0 g hS H locs cells slots ls Z hH hcl hsl hl kk => ?_) kk
  rw [mN_sR, mS_sR, Nat.sub_self, Nat.sub_self] at kk
  refine xput (v := .null) hS hH d hT hc hk hfin hn.1 hn.2 w (fun H1 locs1 e1 e2 e3 e4 e5 => kk H1 locs1 ls ⟨?_, e5, e4⟩ hl)
  exact hH.1.set (by rw [hT]; show c < 13; omega) rfl rfl e1 e2 (xobj (by rw [mT_sR]; exact hT) hc e3 (fun j => xfv_set_R hf j)) (fun b hb => xe_sR hb)
end XH2
