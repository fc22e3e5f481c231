/-! THE GHOST MEMORY: every cell that the law makes, by its number in the order of making (0 is the script); its shape, and what it holds by place -/
abbrev xM : Type := (Nat → Nat × Nat) × (Nat → Nat → Int32) × (Nat → Nat → Int64) × (Nat → Nat → Option Nat) × Nat × Nat
def mT (μ : xM) : Nat → Nat × Nat := μ.1
def mI (μ : xM) : Nat → Nat → Int32 := μ.2.1
def mJ (μ : xM) : Nat → Nat → Int64 := μ.2.2.1
def mR (μ : xM) : Nat → Nat → Option Nat := μ.2.2.2.1
def mN (μ : xM) : Nat := μ.2.2.2.2.1
def mS (μ : xM) : Nat := μ.2.2.2.2.2
def up2 {α : Type} (f : Nat → Nat → α) (a k : Nat) (v : α) : Nat → Nat → α := fun b j => if b = a ∧ j = k then v else f b j
def sI (μ : xM) (a k : Nat) (v : Int32) : xM := (mT μ, up2 (mI μ) a k v, mJ μ, mR μ, mN μ, mS μ)
def sJ (μ : xM) (a k : Nat) (v : Int64) : xM := (mT μ, mI μ, up2 (mJ μ) a k v, mR μ, mN μ, mS μ)
def sR (μ : xM) (a k : Nat) (v : Option Nat) : xM := (mT μ, mI μ, mJ μ, up2 (mR μ) a k v, mN μ, mS μ)
def sNew (μ : xM) (c n w : Nat) : xM := (fun b => if b = mN μ then (c, n) else mT μ b, fun b j => if b = mN μ then 0 else mI μ b j, fun b j => if b = mN μ then 0 else mJ μ b j, fun b j => if b = mN μ then none else mR μ b j, mN μ + 1, mS μ + w)
section MEMS
variable (μ : xM) (a k c n w : Nat) (x : Int32) (y : Int64) (r : Option Nat)
theorem mT_sI : mT (sI μ a k x) = mT μ := rfl
theorem mJ_sI : mJ (sI μ a k x) = mJ μ := rfl
theorem mR_sI : mR (sI μ a k x) = mR μ := rfl
theorem mN_sI : mN (sI μ a k x) = mN μ := rfl
theorem mS_sI : mS (sI μ a k x) = mS μ := rfl
theorem mI_sI : mI (sI μ a k x) = up2 (mI μ) a k x := rfl
theorem mT_sJ : mT (sJ μ a k y) = mT μ := rfl
theorem mI_sJ : mI (sJ μ a k y) = mI μ := rfl
theorem mR_sJ : mR (sJ μ a k y) = mR μ := rfl
theorem mN_sJ : mN (sJ μ a k y) = mN μ := rfl
theorem mS_sJ : mS (sJ μ a k y) = mS μ := rfl
theorem mJ_sJ : mJ (sJ μ a k y) = up2 (mJ μ) a k y := rfl
theorem mT_sR : mT (sR μ a k r) = mT μ := rfl
theorem mI_sR : mI (sR μ a k r) = mI μ := rfl
theorem mJ_sR : mJ (sR μ a k r) = mJ μ := rfl
theorem mN_sR : mN (sR μ a k r) = mN μ := rfl
theorem mS_sR : mS (sR μ a k r) = mS μ := rfl
theorem mR_sR : mR (sR μ a k r) = up2 (mR μ) a k r := rfl
theorem mT_sNew : mT (sNew μ c n w) = fun b => if b = mN μ then (c, n) else mT μ b := rfl
theorem mI_sNew : mI (sNew μ c n w) = fun b j => if b = mN μ then 0 else mI μ b j := rfl
theorem mJ_sNew : mJ (sNew μ c n w) = fun b j => if b = mN μ then 0 else mJ μ b j := rfl
theorem mR_sNew : mR (sNew μ c n w) = fun b j => if b = mN μ then none else mR μ b j := rfl
theorem mN_sNew : mN (sNew μ c n w) = mN μ + 1 := rfl
theorem mS_sNew : mS (sNew μ c n w) = mS μ + w := rfl
end MEMS
theorem up2_s {α : Type} (f : Nat → Nat → α) (a k : Nat) (v : α) : up2 f a k v a k = v := if_pos ⟨rfl, rfl⟩
theorem up2_a {α : Type} (f : Nat → Nat → α) {a k b j : Nat} (v : α) (h : b ≠ a) : up2 f a k v b j = f b j := if_neg (fun q => h q.1)
theorem up2_k {α : Type} (f : Nat → Nat → α) {a k b j : Nat} (v : α) (h : j ≠ k) : up2 f a k v b j = f b j := if_neg (fun q => h q.2)
/-! the classes by number -/
def xC : Nat → String := fun c => match c with
  | 0 => RX0
  | 1 => RX1
  | 2 => RX2
  | 3 => RX3
  | 4 => RX4
  | _ => RX5
def xT : Nat → u_T := fun c => match c with
  | 0 => TX0
  | 1 => TX1
  | 2 => TX2
  | 3 => TX3
  | 4 => TX4
  | _ => TX5
def xnf : Nat → Nat := fun c => match c with
  | 0 => 9
  | 1 => 3
  | 2 => 6
  | 3 => 5
  | 4 => 11
  | _ => 26
def xty : Nat → Nat → FieldType := fun c => match c with
  | 0 => tyX0
  | 1 => tyX1
  | 2 => tyX2
  | 3 => tyX3
  | 4 => tyX4
  | _ => tyX5
/-- how a field is held: 0 ints and booleans, 1 longs, 2 references -/
def xfk (t : FieldType) : Nat := match t with
  | .int => 0
  | .boolean => 0
  | .long => 1
  | _ => 2
def xft (c k : Nat) : Nat := xfk (xty c k)
def xtbl : List Cond := lw_tbl.filter goodWord
theorem xtbl_of {w : Cond} (h : w ∈ lw_tbl) (g : goodWord w = true) : w ∈ xtbl := List.mem_filter.mpr ⟨h, g⟩
theorem xtbl_in {w : Cond} (h : w ∈ xtbl) : w ∈ lw_tbl := (List.mem_filter.mp h).1
theorem xtbl_good : GoodIn xtbl xtbl := fun w h => ⟨h, good_of_word (List.mem_filter.mp h).2⟩
theorem goodWord_lay (C : String) (T : u_T) (k : Nat) : goodWord (u_lay C T k) = true := by
  unfold u_lay
  split <;> rfl
theorem xin_of {C : String} {T : u_T} {N : Nat} (h : ∀ w ∈ u_ws C T N, w ∈ lw_tbl) : ∀ w ∈ u_ws C T N, w ∈ xtbl := by
  intro w hw
  refine xtbl_of (h w hw) ?_
  obtain ⟨k, -, rfl⟩ := List.mem_map.mp hw
  exact goodWord_lay C T k
theorem xcl : ∀ c, c < 6 → vwCl[c]? = some (xC c, xT c, xnf c) ∧ (∀ w ∈ u_ws (xC c) (xT c) (xnf c), w ∈ xtbl) ∧ (∀ k, k < xnf c → parseFieldDescriptor (xT c k).2.2.1 = some (xty c k)) ∧ (∀ a, a < xnf c → ∀ b, b < xnf c → a ≠ b → (xT c a).2.1 ≠ (xT c b).2.1) := by
  intro c hc
  match c, hc with
  | 0, _ => exact ⟨rfl, xin_of inX0, tyX0_ok, nmX0⟩
  | 1, _ => exact ⟨rfl, xin_of inX1, tyX1_ok, nmX1⟩
  | 2, _ => exact ⟨rfl, xin_of inX2, tyX2_ok, nmX2⟩
  | 3, _ => exact ⟨rfl, xin_of inX3, tyX3_ok, nmX3⟩
  | 4, _ => exact ⟨rfl, xin_of inX4, tyX4_ok, nmX4⟩
  | 5, _ => exact ⟨rfl, xin_of inX5, tyX5_ok, nmX5⟩
/-! where the ghost memory lies: the classes' numbers, the arrays' classes, the script's cell, the first cell of the law's own -/
abbrev xg : Type := va_G × (Nat → ClassId) × Nat × Nat
def xb (g : xg) : Nat := g.2.2.1
def xbase (g : xg) : Nat := g.2.2.2
def xa (g : xg) (a : Nat) : Nat := if a = 0 then xb g else xbase g + (a - 1)
def xv (g : xg) (v : Value) : Value := match v with
  | .ref a => .ref (xa g a)
  | w => w
def xat : Nat → FieldType := fun i => match i with
  | 0 => .int
  | 1 => .long
  | 2 => .boolean
  | 3 => .object RX0
  | 4 => .object RX2
  | 5 => .object RX3
  | _ => .array .int
def xtys (g : xg) : List (ClassId × FieldType) := [(g.2.1 0, xat 0), (g.2.1 1, xat 1), (g.2.1 2, xat 2), (g.2.1 3, xat 3), (g.2.1 4, xat 4), (g.2.1 5, xat 5), (g.2.1 6, xat 6)]
theorem xtys_at (g : xg) : ∀ i, i < 7 → (xtys g)[i]? = some (g.2.1 i, xat i) := by
  intro i hi
  match i, hi with
  | 0, _ => rfl
  | 1, _ => rfl
  | 2, _ => rfl
  | 3, _ => rfl
  | 4, _ => rfl
  | 5, _ => rfl
  | 6, _ => rfl
def xfv (g : xg) (μ : xM) (a c k : Nat) : Value := match xft c k with
  | 0 => .int (mI μ a k)
  | 1 => .long (mJ μ a k)
  | _ => va_rf ((mR μ a k).map (xa g))
/-- a cell of shape (c, n): 0 .. 5 an object of class c; 6 int[], 7 long[], 8 boolean[], 9 .. 12 arrays of references -/
def xe (g : xg) (μ : xM) (a : Nat) : va_E :=
  if (mT μ a).1 < 6 then .inr ((mT μ a).1, (List.range (xnf (mT μ a).1)).map (xfv g μ a (mT μ a).1))
  else if (mT μ a).1 = 7 then .inl (g.2.1 1, (mT μ a).2, .inr (.inl (mJ μ a)))
  else if (mT μ a).1 = 6 ∨ (mT μ a).1 = 8 then .inl (g.2.1 ((mT μ a).1 - 6), (mT μ a).2, .inl (mI μ a))
  else .inl (g.2.1 ((mT μ a).1 - 6), (mT μ a).2, .inr (.inr (.inr (.inr (fun j => (mR μ a j).map (xa g))))))
def Rep (g : xg) (μ : xM) (H : Heap) : Prop := 1 ≤ mN μ ∧ H.size = xbase g + (mN μ - 1) ∧ (∀ a, (mT μ a).1 < 13 → 1 ≤ a ∧ a < mN μ) ∧ (∀ a, 1 ≤ a → a < mN μ → (mT μ a).1 < 13) ∧ ∀ a, 1 ≤ a → a < mN μ → va_at g.1 vwCl (xa g a, xe g μ a) H
theorem xe_obj {g : xg} {μ : xM} {a c n : Nat} (h : mT μ a = (c, n)) (hc : c < 6) : xe g μ a = .inr (c, (List.range (xnf c)).map (xfv g μ a c)) := by
  unfold xe
  rw [h]
  exact if_pos hc
theorem xe_int {g : xg} {μ : xM} {a n : Nat} (h : mT μ a = (6, n)) : xe g μ a = .inl (g.2.1 0, n, .inl (mI μ a)) := by
  unfold xe
  rw [h]
  rfl
theorem xe_long {g : xg} {μ : xM} {a n : Nat} (h : mT μ a = (7, n)) : xe g μ a = .inl (g.2.1 1, n, .inr (.inl (mJ μ a))) := by
  unfold xe
  rw [h]
  rfl
theorem xe_bool {g : xg} {μ : xM} {a n : Nat} (h : mT μ a = (8, n)) : xe g μ a = .inl (g.2.1 2, n, .inl (mI μ a)) := by
  unfold xe
  rw [h]
  rfl
theorem xe_ref {g : xg} {μ : xM} {a c n : Nat} (h : mT μ a = (c, n)) (hc : 9 ≤ c) : xe g μ a = .inl (g.2.1 (c - 6), n, .inr (.inr (.inr (.inr (fun j => (mR μ a j).map (xa g)))))) := by
  unfold xe
  rw [h]
  show (if c < 6 then _ else if c = 7 then _ else if c = 6 ∨ c = 8 then _ else _) = _
  rw [if_neg (by omega), if_neg (by omega), if_neg (by omega)]
theorem xfv_get (g : xg) (μ : xM) (a c k : Nat) (hk : k < xnf c) : ((List.range (xnf c)).map (xfv g μ a c))[k]? = some (xfv g μ a c k) := by
  simp [hk]
theorem xfv_I {g : xg} {μ : xM} {a c k : Nat} (h : xft c k = 0) : xfv g μ a c k = .int (mI μ a k) := by unfold xfv; simp only [h]
theorem xfv_J {g : xg} {μ : xM} {a c k : Nat} (h : xft c k = 1) : xfv g μ a c k = .long (mJ μ a k) := by unfold xfv; simp only [h]
theorem xfv_R {g : xg} {μ : xM} {a c k : Nat} (h : xft c k = 2) : xfv g μ a c k = va_rf ((mR μ a k).map (xa g)) := by unfold xfv; simp only [h]
theorem xa_inj {g : xg} {a b : Nat} (ha : 1 ≤ a) (hb : 1 ≤ b) (h : xa g a = xa g b) : a = b := by
  unfold xa at h
  rw [if_neg (by omega), if_neg (by omega)] at h
  omega
theorem xa_ge {g : xg} {a : Nat} (ha : 1 ≤ a) : xbase g ≤ xa g a := by
  unfold xa
  rw [if_neg (by omega)]
  omega
theorem xa_lt {g : xg} {μ : xM} {H : Heap} (h : Rep g μ H) {a : Nat} (h1 : 1 ≤ a) (h2 : a < mN μ) : xa g a < H.size := by
  unfold xa
  rw [if_neg (by omega), h.2.1]
  omega
theorem xa_new {g : xg} {μ : xM} {H : Heap} (h : Rep g μ H) : xa g (mN μ) = H.size := by
  have := h.1
  unfold xa
  rw [if_neg (by omega), h.2.1]
theorem Rep.at {g : xg} {μ : xM} {H : Heap} (h : Rep g μ H) {a : Nat} (hc : (mT μ a).1 < 13) : va_at g.1 vwCl (xa g a, xe g μ a) H := h.2.2.2.2 a (h.2.2.1 a hc).1 (h.2.2.1 a hc).2
theorem Rep.one {g : xg} {μ : xM} {H : Heap} (h : Rep g μ H) {a : Nat} (hc : (mT μ a).1 < 13) : va_P g.1 vwCl [(xa g a, xe g μ a)] H := by
  intro k q hk
  have h0 : k < 1 := (List.getElem?_eq_some_iff.mp hk).1
  rw [show k = 0 by omega] at hk
  cases hk
  exact h.at hc
/-- one cell is written -/
theorem Rep.set {g : xg} {μ μ1 : xM} {H H1 : Heap} {a : Nat} (h : Rep g μ H) (hc : (mT μ a).1 < 13) (eT : mT μ1 = mT μ) (eN : mN μ1 = mN μ) (z : H1.size = H.size) (oq : ∀ q : Nat, q ≠ xa g a → H1[q]? = H[q]?)
    (he : va_at g.1 vwCl (xa g a, xe g μ1 a) H1) (hb : ∀ b, b ≠ a → xe g μ1 b = xe g μ b) : Rep g μ1 H1 := by
  obtain ⟨h1, h2, h3, h4, h5⟩ := id h
  refine ⟨by rw [eN]; exact h1, by rw [eN, z]; exact h2, by rw [eT, eN]; exact h3, by rw [eT, eN]; exact h4, fun b b1 b2 => ?_⟩
  rw [eN] at b2
  by_cases e : b = a
  · rw [e]; exact he
  · rw [hb b e]
    exact (h5 b b1 b2).kept (oq _ (fun q => e (xa_inj b1 (h3 a hc).1 q)))
theorem xe_sI {g : xg} {μ : xM} {a k : Nat} {x : Int32} {b : Nat} (h : b ≠ a) : xe g (sI μ a k x) b = xe g μ b := by
  have e : mI (sI μ a k x) b = mI μ b := by funext j; rw [mI_sI, up2_a _ _ h]
  unfold xe
  rw [mT_sI, mJ_sI, mR_sI, e]
  have e2 : xfv g (sI μ a k x) b = xfv g μ b := by
    funext c j
    unfold xfv
    rw [mJ_sI, mR_sI, e]
  rw [e2]
theorem xe_sJ {g : xg} {μ : xM} {a k : Nat} {x : Int64} {b : Nat} (h : b ≠ a) : xe g (sJ μ a k x) b = xe g μ b := by
  have e : mJ (sJ μ a k x) b = mJ μ b := by funext j; rw [mJ_sJ, up2_a _ _ h]
  unfold xe
  rw [mT_sJ, mI_sJ, mR_sJ, e]
  have e2 : xfv g (sJ μ a k x) b = xfv g μ b := by
    funext c j
    unfold xfv
    rw [mI_sJ, mR_sJ, e]
  rw [e2]
theorem xe_sR {g : xg} {μ : xM} {a k : Nat} {x : Option Nat} {b : Nat} (h : b ≠ a) : xe g (sR μ a k x) b = xe g μ b := by
  have e : mR (sR μ a k x) b = mR μ b := by funext j; rw [mR_sR, up2_a _ _ h]
  unfold xe
  rw [mT_sR, mI_sR, mJ_sR, e]
  have e2 : xfv g (sR μ a k x) b = xfv g μ b := by
    funext c j
    unfold xfv
    rw [mI_sR, mJ_sR, e]
  rw [e2]
theorem xe_sNew {g : xg} {μ : xM} {c n w b : Nat} (h : b ≠ mN μ) : xe g (sNew μ c n w) b = xe g μ b := by
  have e : mR (sNew μ c n w) b = mR μ b := by funext j; exact if_neg h
  have e1 : mI (sNew μ c n w) b = mI μ b := by funext j; exact if_neg h
  have e3 : mJ (sNew μ c n w) b = mJ μ b := by funext j; exact if_neg h
  have e4 : mT (sNew μ c n w) b = mT μ b := if_neg h
  unfold xe
  rw [e4, e, e1, e3]
  have e2 : xfv g (sNew μ c n w) b = xfv g μ b := by
    funext c j
    unfold xfv
    rw [e, e1, e3]
  rw [e2]
/-- one cell is made -/
theorem Rep.push {g : xg} {μ : xM} {H H1 : Heap} {c n w : Nat} (h : Rep g μ H) (hc : c < 13) (z : H1.size = H.size + 1) (oq : ∀ q : Nat, q < H.size → H1[q]? = H[q]?)
    (he : va_at g.1 vwCl (H.size, xe g (sNew μ c n w) (mN μ)) H1) : Rep g (sNew μ c n w) H1 := by
  obtain ⟨h1, h2, h3, h4, h5⟩ := id h
  refine ⟨by rw [mN_sNew]; omega, by rw [mN_sNew, z, h2]; omega, fun b hb => ?_, fun b b1 b2 => ?_, fun b b1 b2 => ?_⟩
  · rw [mN_sNew]
    by_cases e : b = mN μ
    · omega
    · rw [show mT (sNew μ c n w) b = mT μ b from if_neg e] at hb
      have := h3 b hb
      omega
  · rw [mN_sNew] at b2
    by_cases e : b = mN μ
    · rw [show mT (sNew μ c n w) b = (c, n) from if_pos e]; exact hc
    · rw [show mT (sNew μ c n w) b = mT μ b from if_neg e]
      exact h4 b b1 (by omega)
  · rw [mN_sNew] at b2
    by_cases e : b = mN μ
    · rw [e, xa_new h]; exact he
    · rw [xe_sNew e]
      exact (h5 b b1 (by omega)).kept (oq _ (xa_lt h b1 (by omega)))
theorem xfv_set_I {g : xg} {μ : xM} {a c k : Nat} {x : Int32} (h : xft c k = 0) (j : Nat) : xfv g (sI μ a k x) a c j = updV (xfv g μ a c) k (.int x) j := by
  by_cases e : j = k
  · subst e
    rw [xfv_I h, mI_sI, up2_s]
    simp [updV]
  · simp only [updV, if_neg e]
    unfold xfv
    rw [mJ_sI, mR_sI, mI_sI, up2_k _ _ e]
theorem xfv_set_J {g : xg} {μ : xM} {a c k : Nat} {x : Int64} (h : xft c k = 1) (j : Nat) : xfv g (sJ μ a k x) a c j = updV (xfv g μ a c) k (.long x) j := by
  by_cases e : j = k
  · subst e
    rw [xfv_J h, mJ_sJ, up2_s]
    simp [updV]
  · simp only [updV, if_neg e]
    unfold xfv
    rw [mI_sJ, mR_sJ, mJ_sJ, up2_k _ _ e]
theorem xfv_set_R {g : xg} {μ : xM} {a c k : Nat} {x : Option Nat} (h : xft c k = 2) (j : Nat) : xfv g (sR μ a k x) a c j = updV (xfv g μ a c) k (va_rf (x.map (xa g))) j := by
  by_cases e : j = k
  · subst e
    rw [xfv_R h, mR_sR, up2_s]
    simp [updV]
  · simp only [updV, if_neg e]
    unfold xfv
    rw [mI_sR, mJ_sR, mR_sR, up2_k _ _ e]
