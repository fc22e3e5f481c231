/-! arrays; new cells -/
theorem xup_I (μ : xM) (a i : Nat) (x : Int32) : (fun j => Value.int (mI (sI μ a i x) a j)) = updV (fun j => .int (mI μ a j)) i (.int x) := by
  funext j
  unfold updV
  by_cases e : j = i
  · rw [if_pos e, e, mI_sI, up2_s]
  · rw [if_neg e, mI_sI, up2_k _ _ e]
theorem xup_J (μ : xM) (a i : Nat) (x : Int64) : (fun j => Value.long (mJ (sJ μ a i x) a j)) = updV (fun j => .long (mJ μ a j)) i (.long x) := by
  funext j
  unfold updV
  by_cases e : j = i
  · rw [if_pos e, e, mJ_sJ, up2_s]
  · rw [if_neg e, mJ_sJ, up2_k _ _ e]
theorem xup_R (g : xg) (μ : xM) (a i : Nat) (x : Option Nat) : (fun j => va_rf ((mR (sR μ a i x) a j).map (xa g))) = updV (fun j => va_rf ((mR μ a j).map (xa g))) i (va_rf (x.map (xa g))) := by
  funext j
  unfold updV
  by_cases e : j = i
  · rw [if_pos e, e, mR_sR, up2_s]
  · rw [if_neg e, mR_sR, up2_k _ _ e]
theorem xin_nI {i n : Nat} (hi : i < n) (hn : n < 2 ^ 31) : ¬ (nI i < 0 ∨ n ≤ (nI i).toNatClampNeg) := nI_in hi hn
section XA
variable {k : xk} {sc : xsc} {pc : Nat} {lv : Nat → Option Value} {st : List Value} {μ : xM} {Q : Option Value → xM → Prop} {a c n i : Nat} {j : Int32}
theorem X.iald (d : decode k.2.1 pc = .ok (.iaload, 1)) (hT : mT μ a = (6, n)) (hj : j = nI i) (hi : i < n) (hn : n < 2 ^ 31) (kk : X k sc (pc + 1) lv (.int (mI μ a i) :: st) μ Q) : X k sc pc lv (.int j :: .ref a :: st) μ Q := by
  subst hj
  refine X.pure (fun p l e R s m args below meth c0 g hS H locs cells slots ls Z hH hl kk => ?_) kk
  have h13 : (mT μ a).1 < 13 := by rw [hT]; show 6 < 13; omega
  have := va_iald (i := nI i) (a := xa g a) (rest := st.map (xv g)) (f := mI μ a) (n := n) hS.1 hS.2.1 hS.2.2.2.2.2.2.1.1 (hH.1.one h13) 0 0 (by rw [xe_int hT]; rfl) (xtys_at g 0 (by decide)) (vp_in_nI hi hn) d (by rw [nI_clamp (by omega)]; exact kk ls hl)
  exact this
theorem X.zald (d : decode k.2.1 pc = .ok (.baload, 1)) (hT : mT μ a = (8, n)) (hj : j = nI i) (hi : i < n) (hn : n < 2 ^ 31) (kk : X k sc (pc + 1) lv (.int (mI μ a i) :: st) μ Q) : X k sc pc lv (.int j :: .ref a :: st) μ Q := by
  subst hj
  refine X.pure (fun p l e R s m args below meth c0 g hS H locs cells slots ls Z hH hl kk => ?_) kk
  have h13 : (mT μ a).1 < 13 := by rw [hT]; show 8 < 13; omega
  have := va_zald (i := nI i) (a := xa g a) (rest := st.map (xv g)) (f := mI μ a) (n := n) hS.1 hS.2.1 hS.2.2.2.2.2.2.1.1 (hH.1.one h13) 0 2 (by rw [xe_bool hT]; rfl) (xtys_at g 2 (by decide)) (vp_in_nI hi hn) d (by rw [nI_clamp (by omega)]; exact kk ls hl)
  exact this
theorem X.lald (d : decode k.2.1 pc = .ok (.laload, 1)) (hT : mT μ a = (7, n)) (hj : j = nI i) (hi : i < n) (hn : n < 2 ^ 31) (kk : X k sc (pc + 1) lv (.long (mJ μ a i) :: st) μ Q) : X k sc pc lv (.int j :: .ref a :: st) μ Q := by
  subst hj
  refine X.pure (fun p l e R s m args below meth c0 g hS H locs cells slots ls Z hH hl kk => ?_) kk
  have h13 : (mT μ a).1 < 13 := by rw [hT]; show 7 < 13; omega
  have := va_lald (i := nI i) (a := xa g a) (rest := st.map (xv g)) (f := mJ μ a) (n := n) hS.1 hS.2.1 hS.2.2.2.2.2.2.1.1 (hH.1.one h13) 0 1 (by rw [xe_long hT]; rfl) (xtys_at g 1 (by decide)) (vp_in_nI hi hn) d (by rw [nI_clamp (by omega)]; exact kk ls hl)
  exact this
theorem xat_ref {c : Nat} (h9 : 9 ≤ c) (hc : c < 13) : (xat (c - 6)).isReference = true := by
  have : c = 9 ∨ c = 10 ∨ c = 11 ∨ c = 12 := by omega
  rcases this with rfl | rfl | rfl | rfl <;> rfl
theorem xaald {p : Program} {l : Launch} {e : Env} {R : Room} {s : State} {m : MethodId} {args : Array Value} {below : List Frame} {meth : Method} {c0 : Code} {H : Heap} {locs : List Loc} {cells slots : Nat} {Z : State → Prop} {ls : Array Slot} {rest : List Value} {g : xg}
    (hS : xS k sc g p R s m args meth c0) (hH : xH g s μ H locs) (d : decode k.2.1 pc = .ok (.aaload, 1)) (hT : mT μ a = (c, n)) (h9 : 9 ≤ c) (hc : c < 13) (hi : i < n) (hn : n < 2 ^ 31)
    (kk : W p l e R s m args below meth c0 H locs cells slots Z (F0 m (pc + 1) ls (va_rf ((mR μ a i).map (xa g)) :: rest))) : W p l e R s m args below meth c0 H locs cells slots Z (F0 m pc ls (.int (nI i) :: .ref (xa g a) :: rest)) := by
  have h13 : (mT μ a).1 < 13 := by rw [hT]; exact hc
  have hat := hH.1.at h13
  rw [xe_ref hT h9] at hat
  have hK := hS.2.2.2.2.2.2.1.1.2 (c - 6) _ (xtys_at g (c - 6) (by omega))
  refine W.aald (v := va_rf ((mR μ a i).map (xa g))) (ty := xat (c - 6)) hS.1 hS.2.1 hat (hK.1 n (fun j => va_rf ((mR μ a j).map (xa g)))) (xat_ref h9 hc) (fun q => by cases q) (by show ¬ (_ < 0 ∨ (arrV _ _ _).slots.size ≤ _); rw [arrV_size]; exact xin_nI hi hn) (by show (arrV _ _ _).slots[_]? = _; rw [nI_clamp (by omega), arrV_read _ _ hi]) rfl rfl d kk
theorem X.aald {b : Nat} (d : decode k.2.1 pc = .ok (.aaload, 1)) (hT : mT μ a = (c, n)) (h9 : 9 ≤ c ∧ c < 13) (hj : j = nI i) (hi : i < n) (hn : n < 2 ^ 31) (hr : mR μ a i = some b) (kk : X k sc (pc + 1) lv (.ref b :: st) μ Q) : X k sc pc lv (.int j :: .ref a :: st) μ Q := by
  subst hj
  refine X.pure (fun p l e R s m args below meth c0 g hS H locs cells slots ls Z hH hl kk => ?_) kk
  refine xaald hS hH d hT h9.1 h9.2 hi hn ?_
  rw [hr]
  exact kk ls hl
theorem X.aaldN (d : decode k.2.1 pc = .ok (.aaload, 1)) (hT : mT μ a = (c, n)) (h9 : 9 ≤ c ∧ c < 13) (hj : j = nI i) (hi : i < n) (hn : n < 2 ^ 31) (hr : mR μ a i = none) (kk : X k sc (pc + 1) lv (.null :: st) μ Q) : X k sc pc lv (.int j :: .ref a :: st) μ Q := by
  subst hj
  refine X.pure (fun p l e R s m args below meth c0 g hS H locs cells slots ls Z hH hl kk => ?_) kk
  refine xaald hS hH d hT h9.1 h9.2 hi hn ?_
  rw [hr]
  exact kk ls hl
theorem X.iast {x : Int32} (d : decode k.2.1 pc = .ok (.iastore, 1)) (hT : mT μ a = (6, n)) (hj : j = nI i) (hi : i < n) (hn : n < 2 ^ 31) (kk : X k sc (pc + 1) lv st (sI μ a i x) Q) : X k sc pc lv (.int x :: .int j :: .ref a :: st) μ Q := by
  subst hj
  refine X.stp (μ1 := sI μ a i x) ⟨Nat.le_refl _, Nat.le_refl _⟩ (fun p l e R s m args below meth c0 g hS H locs cells slots ls Z hH hcl hsl hl kk => ?_) kk
  rw [mN_sI, mS_sI, Nat.sub_self, Nat.sub_self] at kk
  have h13 : (mT μ a).1 < 13 := by rw [hT]; show 6 < 13; omega
  have ha1 := (hH.1.2.2.1 a h13).1
  have hat := hH.1.at h13
  rw [xe_int hT] at hat
  have hK := hS.2.2.2.2.2.2.1.1.2 0 _ (xtys_at g 0 (by decide))
  refine W.iast hS.1 hS.2.1 hat (hK.1 n (fun j => .int (mI μ a j))) (fun q => by cases q) (by show ¬ (_ < 0 ∨ (arrV _ _ _).slots.size ≤ _); rw [arrV_size]; exact xin_nI hi hn) rfl rfl d fun H1 e1 e2 e3 => kk H1 _ ls ⟨?_, xfr hH ha1 e3, xlc hH ha1⟩ hl
  refine hH.1.set h13 rfl rfl e2 e3 ?_ (fun b hb => xe_sI hb)
  rw [xe_int (n := n) (by rw [mT_sI]; exact hT)]
  show H1[xa g a]? = some (vp_cell _ _)
  rw [e1, vp_cell_i, vp_cell_i, arrV_store, nI_clamp (by omega), xup_I]
theorem X.zast {x : Int32} (d : decode k.2.1 pc = .ok (.bastore, 1)) (hT : mT μ a = (8, n)) (hj : j = nI i) (hi : i < n) (hn : n < 2 ^ 31) (hx : x = 0 ∨ x = 1) (kk : X k sc (pc + 1) lv st (sI μ a i x) Q) : X k sc pc lv (.int x :: .int j :: .ref a :: st) μ Q := by
  subst hj
  refine X.stp (μ1 := sI μ a i x) ⟨Nat.le_refl _, Nat.le_refl _⟩ (fun p l e R s m args below meth c0 g hS H locs cells slots ls Z hH hcl hsl hl kk => ?_) kk
  rw [mN_sI, mS_sI, Nat.sub_self, Nat.sub_self] at kk
  have h13 : (mT μ a).1 < 13 := by rw [hT]; show 8 < 13; omega
  have ha1 := (hH.1.2.2.1 a h13).1
  have hat := hH.1.at h13
  rw [xe_bool hT] at hat
  have hK := hS.2.2.2.2.2.2.1.1.2 2 _ (xtys_at g 2 (by decide))
  have hnx : narrow .boolean (.int x) = .int x := by rcases hx with rfl | rfl <;> rfl
  refine W.zast hS.1 hS.2.1 hat (hK.1 n (fun j => .int (mI μ a j))) (fun q => by cases q) (by show ¬ (_ < 0 ∨ (arrV _ _ _).slots.size ≤ _); rw [arrV_size]; exact xin_nI hi hn) rfl rfl d fun H1 e1 e2 e3 => kk H1 _ ls ⟨?_, xfr hH ha1 e3, xlc hH ha1⟩ hl
  refine hH.1.set h13 rfl rfl e2 e3 ?_ (fun b hb => xe_sI hb)
  rw [xe_bool (n := n) (by rw [mT_sI]; exact hT)]
  show H1[xa g a]? = some (vp_cell _ _)
  rw [e1, hnx, vp_cell_i, vp_cell_i, arrV_store, nI_clamp (by omega), xup_I]
theorem X.last {x : Int64} (d : decode k.2.1 pc = .ok (.lastore, 1)) (hT : mT μ a = (7, n)) (hj : j = nI i) (hi : i < n) (hn : n < 2 ^ 31) (kk : X k sc (pc + 1) lv st (sJ μ a i x) Q) : X k sc pc lv (.long x :: .int j :: .ref a :: st) μ Q := by
  subst hj
  refine X.stp (μ1 := sJ μ a i x) ⟨Nat.le_refl _, Nat.le_refl _⟩ (fun p l e R s m args below meth c0 g hS H locs cells slots ls Z hH hcl hsl hl kk => ?_) kk
  rw [mN_sJ, mS_sJ, Nat.sub_self, Nat.sub_self] at kk
  have h13 : (mT μ a).1 < 13 := by rw [hT]; show 7 < 13; omega
  have ha1 := (hH.1.2.2.1 a h13).1
  have hat := hH.1.at h13
  rw [xe_long hT] at hat
  have hK := hS.2.2.2.2.2.2.1.1.2 1 _ (xtys_at g 1 (by decide))
  refine W.last hS.1 hS.2.1 hat (hK.1 n (fun j => .long (mJ μ a j))) (fun q => by cases q) (by show ¬ (_ < 0 ∨ (arrV _ _ _).slots.size ≤ _); rw [arrV_size]; exact xin_nI hi hn) rfl rfl d fun H1 e1 e2 e3 => kk H1 _ ls ⟨?_, xfr hH ha1 e3, xlc hH ha1⟩ hl
  refine hH.1.set h13 rfl rfl e2 e3 ?_ (fun b hb => xe_sJ hb)
  rw [xe_long (n := n) (by rw [mT_sJ]; exact hT)]
  show H1[xa g a]? = some (vp_cell _ _)
  rw [e1, vp_cell_l, vp_cell_l, arrV_store, nI_clamp (by omega), xup_J]
/-- the class that an array of references holds -/
def xac : Nat → Nat := fun c => match c with
  | 9 => 0
  | 10 => 2
  | _ => 3
theorem xac_ok {c : Nat} (h9 : 9 ≤ c) (hc : c < 12) : xat (c - 6) = .object (xC (xac c)) ∧ xac c < 6 := by
  have : c = 9 ∨ c = 10 ∨ c = 11 := by omega
  rcases this with rfl | rfl | rfl <;> exact ⟨rfl, by decide⟩
theorem X.aast {b nb : Nat} (d : decode k.2.1 pc = .ok (.aastore, 1)) (hT : mT μ a = (c, n)) (h9 : 9 ≤ c ∧ c < 12) (hb : mT μ b = (xac c, nb)) (hj : j = nI i) (hi : i < n) (hn : n < 2 ^ 31) (kk : X k sc (pc + 1) lv st (sR μ a i (some b)) Q) : X k sc pc lv (.ref b :: .int j :: .ref a :: st) μ Q := by
  subst hj
  refine X.stp (μ1 := sR μ a i (some b)) ⟨Nat.le_refl _, Nat.le_refl _⟩ (fun p l e R s m args below meth c0 g hS H locs cells slots ls Z hH hcl hsl hl kk => ?_) kk
  rw [mN_sR, mS_sR, Nat.sub_self, Nat.sub_self] at kk
  have h13 : (mT μ a).1 < 13 := by rw [hT]; show c < 13; omega
  have ha1 := (hH.1.2.2.1 a h13).1
  have hat := hH.1.at h13
  rw [xe_ref hT h9.1] at hat
  obtain ⟨hx1, hx2⟩ := xac_ok h9.1 h9.2
  have hbt := hH.1.at (a := b) (by rw [hb]; show xac c < 13; omega)
  rw [xe_obj hb hx2] at hbt
  obtain ⟨r, hr, cellV, g1, g2, g3, -⟩ := hbt
  have hK0 := hS.2.2.2.2.2.2.1.1
  obtain ⟨hcx, -⟩ := xcl (xac c) hx2
  have hcls := (hK0.1 (xac c) _ hcx).2
  have hK := hK0.2 (c - 6) _ (xtys_at g (c - 6) (by omega))
  obtain ⟨hK1, hK2⟩ := hK
  dsimp only at hK2
  rw [hx1] at hK2
  obtain ⟨kA, comp, k1, k2, k3, -⟩ := hK2
  have hcomp : comp = g.1.1 (xac c) := Option.some.inj (k3.symm.trans hcls.1)
  subst hcomp
  obtain ⟨kC, hkC, -⟩ := hcls.2
  refine W.aast hS.1 hS.2.1 hat (fun q h => by cases h) (fun h => by cases h) k1 k2 rfl hkC ⟨fun q => xin_nI hi hn (Or.inl q), by show _ < (arrV _ _ _).slots.size; rw [arrV_size, nI_clamp (by omega)]; exact hi⟩ g1 (fun q h => by rw [g3] at h; cases h) (by rw [g2]; exact hkC) (by rw [g2]; exact va_assign hcls) rfl rfl d fun H1 e1 e2 e3 => kk H1 _ ls ⟨?_, xfr hH ha1 e3, xlc hH ha1⟩ hl
  refine hH.1.set h13 rfl rfl e2 e3 ?_ (fun b hb => xe_sR hb)
  rw [xe_ref (c := c) (n := n) (by rw [mT_sR]; exact hT) h9.1]
  show H1[xa g a]? = some (vp_cell _ _)
  rw [e1, vp_cell_q, vp_cell_q, arrV_store, nI_clamp (by omega), xup_R]
  rfl
theorem X.aastN (d : decode k.2.1 pc = .ok (.aastore, 1)) (hT : mT μ a = (c, n)) (h9 : 9 ≤ c ∧ c < 12) (hj : j = nI i) (hi : i < n) (hn : n < 2 ^ 31) (kk : X k sc (pc + 1) lv st (sR μ a i none) Q) : X k sc pc lv (.null :: .int j :: .ref a :: st) μ Q := by
  subst hj
  refine X.stp (μ1 := sR μ a i none) ⟨Nat.le_refl _, Nat.le_refl _⟩ (fun p l e R s m args below meth c0 g hS H locs cells slots ls Z hH hcl hsl hl kk => ?_) kk
  rw [mN_sR, mS_sR, Nat.sub_self, Nat.sub_self] at kk
  have h13 : (mT μ a).1 < 13 := by rw [hT]; show c < 13; omega
  have ha1 := (hH.1.2.2.1 a h13).1
  have hat := hH.1.at h13
  rw [xe_ref hT h9.1] at hat
  obtain ⟨hx1, hx2⟩ := xac_ok h9.1 h9.2
  have hK := hS.2.2.2.2.2.2.1.1.2 (c - 6) _ (xtys_at g (c - 6) (by omega))
  have hK1 := hK.1
  dsimp only at hK1
  rw [hx1] at hK1
  refine va_WaastN (C := xC (xac c)) hS.1 hS.2.1 hat (hK1 n (fun j => va_rf ((mR μ a j).map (xa g)))) (fun h => by cases h) (by show ¬ (_ < 0 ∨ (arrV _ _ _).slots.size ≤ _); rw [arrV_size]; exact xin_nI hi hn) rfl rfl d fun H1 e1 e2 e3 => kk H1 _ ls ⟨?_, xfr hH ha1 e3, xlc hH ha1⟩ hl
  refine hH.1.set h13 rfl rfl e2 e3 ?_ (fun b hb => xe_sR hb)
  rw [xe_ref (c := c) (n := n) (by rw [mT_sR]; exact hT) h9.1]
  show H1[xa g a]? = some (vp_cell _ _)
  rw [e1, vp_cell_q, vp_cell_q, arrV_store, nI_clamp (by omega), xup_R]
  rfl
theorem X.alen {v : Int32} (d : decode k.2.1 pc = .ok (.arraylength, 1)) (hT : mT μ a = (6, n)) (hv : Int32.ofNat n = v) (kk : X k sc (pc + 1) lv (.int v :: st) μ Q) : X k sc pc lv (.ref a :: st) μ Q := by
  refine X.pure (fun p l e R s m args below meth c0 g hS H locs cells slots ls Z hH hl kk => ?_) kk
  have h13 : (mT μ a).1 < 13 := by rw [hT]; show 6 < 13; omega
  exact va_alen (x := (n, .inl (mI μ a))) (ty := .int) hS.1 hS.2.1 hS.2.2.2.2.2.2.1.1 (hH.1.one h13) 0 0 (by rw [xe_int hT]; rfl) (xtys_at g 0 (by decide)) hv d (kk ls hl)
/-! the script, at 0 -/
theorem X.sld {L : Nat} {xs : Nat → Int32} (d : decode k.2.1 pc = .ok (.iaload, 1)) (hj : j = nI i) (hi : i < L) (hn : L < 2 ^ 31) (kk : X k (some (L, xs)) (pc + 1) lv (.int (xs i) :: st) μ Q) : X k (some (L, xs)) pc lv (.int j :: .ref 0 :: st) μ Q := by
  subst hj
  refine X.pure (fun p l e R s m args below meth c0 g hS H locs cells slots ls Z hH hl kk => ?_) kk
  obtain ⟨hX, hb⟩ := hS.2.2.2.2.2.2.2.2.2.2 L xs rfl
  obtain ⟨scr, h1, h2, h3, h4, h5⟩ := hX
  exact W.iald (v := .int (xs i)) (a := xb g) hS.1 hS.2.1 (by rw [hH.2.1 _ hb]; exact h1) h2 h3 (by rw [h4]; exact vp_in_nI hi hn) (by rw [nI_clamp (by omega)]; exact h5 _ hi) rfl rfl d (kk ls hl)
theorem X.slen {L : Nat} {xs : Nat → Int32} (d : decode k.2.1 pc = .ok (.arraylength, 1)) (kk : X k (some (L, xs)) (pc + 1) lv (.int (nI L) :: st) μ Q) : X k (some (L, xs)) pc lv (.ref 0 :: st) μ Q := by
  refine X.pure (fun p l e R s m args below meth c0 g hS H locs cells slots ls Z hH hl kk => ?_) kk
  obtain ⟨hX, hb⟩ := hS.2.2.2.2.2.2.2.2.2.2 L xs rfl
  obtain ⟨scr, h1, h2, h3, h4, h5⟩ := hX
  exact W.alen (n := nI L) (a := xb g) hS.1 hS.2.1 (by rw [hH.2.1 _ hb]; exact h1) h2 (by rw [h4] <;> rfl) rfl rfl d (kk ls hl)
end XA
