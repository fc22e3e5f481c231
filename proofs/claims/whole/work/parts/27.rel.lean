/-! THE CLASS AND THE REFERENCE: Rel r v m f k B: the class's cells in the memory m stand for the reference's cells in v; the reference's own cells in m are those of r -/
def SM (ρ μ : xM) : Prop := (∀ a, 44 ≤ a → a < 66 → mT μ a = mT ρ a ∧ mI μ a = mI ρ a) ∧ mJ μ 48 = mJ ρ 48 ∧ mR μ 44 = mR ρ 44
def tref (ν : xM) (φ : Nat → Nat) (t j : Nat) : Option Nat := if kd ν t = 10 then (if lx (cv ν t j) = 0 then none else some (φ (lx (cv ν t j) - 1))) else none
def TR (ν μ : xM) (φ : Nat → Nat) (t : Nat) : Prop := (66 ≤ φ t ∧ φ t + 3 < mN μ) ∧ (mT μ (φ t) = (3, 0) ∧ mT μ (φ t + 1) = (6, sz ν t) ∧ mT μ (φ t + 2) = (7, sz ν t) ∧ mT μ (φ t + 3) = (11, sz ν t)) ∧
  (mI μ (φ t) 0 = nI (kd ν t) ∧ mI μ (φ t) 1 = nI (sz ν t)) ∧ (mR μ (φ t) 2 = some (φ t + 1) ∧ mR μ (φ t) 3 = some (φ t + 2) ∧ mR μ (φ t) 4 = some (φ t + 3)) ∧
  ∀ j, j < sz ν t → mI μ (φ t + 1) j = nI (cellKindM ν t j) ∧ mJ μ (φ t + 2) j = numM ν t j ∧ mR μ (φ t + 3) j = tref ν φ t j
/-- a tape that a channel or a rack has, or that is kept in hand -/
def lvE (ν : xM) (E : Nat → Prop) (t : Nat) : Prop := liveM ν t ∨ (E t ∧ t < 560)
def RTp (ν μ : xM) (φ : Nat → Nat) (E : Nat → Prop) : Prop := (∀ t, lvE ν E t → TR ν μ φ t) ∧ (∀ t t', lvE ν E t → lvE ν E t' → φ t = φ t' → t = t') ∧
  ∀ c, c < 16 → noTapeM ν c = 0 → kd ν (tp ν c) = 10 → ∀ j, j < sz ν (tp ν c) → lx (cv ν (tp ν c) j) ≠ 0 → kd ν (lx (cv ν (tp ν c) j) - 1) = 4
def CH (ν μ : xM) (φ : Nat → Nat) (c : Nat) : Prop := mI μ (28 + c) 0 = nI c ∧ mR μ (28 + c) 1 = (if noTapeM ν c = 0 then some (φ (tp ν c)) else none) ∧ mI μ (28 + c) 2 = (if mI ν 50 c = -2 then 1 else 0) ∧ mI μ (28 + c) 3 = mI ν 51 c ∧ mI μ (28 + c) 4 = mI ν 52 c ∧ mI μ (28 + c) 5 = mI ν 53 c
def RCh (ν μ : xM) (φ : Nat → Nat) : Prop := ∀ c, c < 16 → CH ν μ φ c
def CR (ν μ : xM) (a k : Nat) : Prop := (66 ≤ a ∧ a < mN μ) ∧ mT μ a = (0, 0) ∧ (mI μ a 0 = nI k ∧ mI μ a 1 = mI ν 54 k ∧ mR μ a 2 = some (28 + cf ν k) ∧ mR μ a 3 = some (28 + ct ν k)) ∧ mI μ a 4 = mI ν 57 k ∧ mI μ a 5 = mI ν 58 k ∧ mI μ a 6 = mI ν 59 k ∧ mI μ a 7 = mI ν 60 k ∧ mI μ a 8 = mI ν 61 k
def RCb (ν μ : xM) (κ : Nat → Nat) : Prop := (∀ k, k < qM ν → mR μ 3 k = some (κ k) ∧ CR ν μ (κ k) k) ∧ (∀ k, qM ν ≤ k → k < 24 → mR μ 3 k = none ∧ mI ν 59 k = 0 ∧ mI ν 60 k = 0 ∧ mI ν 61 k = 0) ∧ (∀ k k', k < qM ν → k' < qM ν → κ k = κ k' → k = k') ∧ ∀ k, k < qM ν → mI ν 57 k = 0 ∨ mI ν 57 k = 1
def RSc (ν μ : xM) : Prop := (mI μ 1 2 = mI ν 44 10 ∧ mI μ 1 3 = mI ν 44 4 ∧ mI μ 1 4 = mI ν 44 19 ∧ mI μ 1 6 = mI ν 44 20 ∧ mI μ 1 8 = mI ν 44 25) ∧ (∀ r, 1 ≤ r → r < 6 → mI μ 25 r = mI ν 65 r) ∧ ∀ i, i < 20 → mI μ (5 + i) 0 = mI ν 62 i ∧ mI μ (5 + i) 1 = mI ν 63 i ∧ mI μ (5 + i) 2 = mI ν 64 i
def OKc (ν : xM) (k : Nat) (v : Int64) : Prop := (8 ≤ k → k < 10 → lx v ≤ gM ν) ∧ (k = 9 → v = 0 ∨ mI ν 49 (lx v) ≠ 0) ∧ (k < 8 → fitM k v = v)
def WFs (ν : xM) : Prop := ∀ t, t < 560 → ∀ j, j < sz ν t → OKc ν (kd ν t) (cv ν t j)
theorem fit_fit (k : Nat) (v : Int64) : fitM k (fitM k v) = fitM k v := fit_fit_n k v
def RWf (ν : xM) (B : Nat) : Prop := WFt ν ∧ WFc ν ∧ WFg ν ∧ (mI ν 44 20 = nI (fM ν) ∧ fM ν ≤ B) ∧ WFs ν
def Rel (ρ ν μ : xM) (φ κ : Nat → Nat) (B : Nat × Nat × Nat × (Nat → Prop)) : Prop := SM ρ μ ∧ ShP μ ∧ RWf ν B.1 ∧ RSc ν μ ∧ RCh ν μ φ ∧ RTp ν μ φ B.2.2.2 ∧ RCb ν μ κ ∧ mN μ ≤ B.2.1 ∧ mS μ ≤ B.2.2.1
/-! sets at one address -/
theorem mI_at {μ : xM} {b k a : Nat} {x : Int32} (h : a ≠ b) : mI (sI μ b k x) a = mI μ a := by funext j; rw [mI_sI, up2_a _ _ h]
theorem mJ_at {μ : xM} {b k a : Nat} {x : Int64} (h : a ≠ b) : mJ (sJ μ b k x) a = mJ μ a := by funext j; rw [mJ_sJ, up2_a _ _ h]
theorem mR_at {μ : xM} {b k a : Nat} {x : Option Nat} (h : a ≠ b) : mR (sR μ b k x) a = mR μ a := by funext j; rw [mR_sR, up2_a _ _ h]
theorem mI_k {μ : xM} {b k j : Nat} {x : Int32} (h : j ≠ k) : mI (sI μ b k x) b j = mI μ b j := by rw [mI_sI, up2_k _ _ h]
theorem mI_s {μ : xM} {b k : Nat} {x : Int32} : mI (sI μ b k x) b k = x := by rw [mI_sI, up2_s]
theorem mJ_s {μ : xM} {b k : Nat} {x : Int64} : mJ (sJ μ b k x) b k = x := by rw [mJ_sJ, up2_s]
theorem mR_s {μ : xM} {b k : Nat} {x : Option Nat} : mR (sR μ b k x) b k = x := by rw [mR_sR, up2_s]
theorem mJ_k {μ : xM} {b k j : Nat} {x : Int64} (h : j ≠ k) : mJ (sJ μ b k x) b j = mJ μ b j := by rw [mJ_sJ, up2_k _ _ h]
theorem mR_k {μ : xM} {b k j : Nat} {x : Option Nat} (h : j ≠ k) : mR (sR μ b k x) b j = mR μ b j := by rw [mR_sR, up2_k _ _ h]
theorem SM.sI {ρ μ : xM} (h : SM ρ μ) {b k : Nat} {x : Int32} (hb : b < 44 ∨ 66 ≤ b) : SM ρ (sI μ b k x) := ⟨fun a h1 h2 => ⟨(h.1 a h1 h2).1, by rw [mI_at (by omega)]; exact (h.1 a h1 h2).2⟩, h.2⟩
theorem SM.sJ {ρ μ : xM} (h : SM ρ μ) {b k : Nat} {x : Int64} (hb : b < 44 ∨ 66 ≤ b) : SM ρ (sJ μ b k x) := ⟨h.1, by rw [mJ_at (by omega)]; exact h.2.1, h.2.2⟩
theorem SM.sR {ρ μ : xM} (h : SM ρ μ) {b k : Nat} {x : Option Nat} (hb : b < 44 ∨ 66 ≤ b) : SM ρ (sR μ b k x) := ⟨h.1, h.2.1, by rw [mR_at (by omega)]; exact h.2.2⟩
theorem ShP.sR {μ : xM} (h : ShP μ) {b k : Nat} {x : Option Nat} (h1 : b ≠ 1) (h2 : b ≠ 2) (h4 : b ≠ 4) : ShP (sR μ b k x) := by
  refine ⟨h.1, fun j hj => ?_, fun c hc => ⟨(h.2.2.1 c hc).1, ?_⟩, fun i hi => ⟨(h.2.2.2.1 i hi).1, ?_⟩, h.2.2.2.2⟩
  · rw [mR_at (by omega)]; exact h.2.1 j hj
  · rw [mR_at (by omega)]; exact (h.2.2.1 c hc).2
  · rw [mR_at (by omega)]; exact (h.2.2.2.1 i hi).2
/-- nothing at 66 and beyond has changed -/
def HiEq (μ μ' : xM) : Prop := (∀ a, 66 ≤ a → mT μ' a = mT μ a ∧ mI μ' a = mI μ a ∧ mJ μ' a = mJ μ a ∧ mR μ' a = mR μ a) ∧ mN μ' = mN μ
theorem HiEq.rf (μ : xM) : HiEq μ μ := ⟨fun _ _ => ⟨rfl, rfl, rfl, rfl⟩, rfl⟩
theorem HiEq.sI {μ μ' : xM} (h : HiEq μ μ') {b k : Nat} {x : Int32} (hb : b < 66) : HiEq μ (sI μ' b k x) := ⟨fun a ha => ⟨(h.1 a ha).1, by rw [mI_at (by omega)]; exact (h.1 a ha).2.1, (h.1 a ha).2.2⟩, h.2⟩
theorem HiEq.sJ {μ μ' : xM} (h : HiEq μ μ') {b k : Nat} {x : Int64} (hb : b < 66) : HiEq μ (sJ μ' b k x) := ⟨fun a ha => ⟨(h.1 a ha).1, (h.1 a ha).2.1, by rw [mJ_at (by omega)]; exact (h.1 a ha).2.2.1, (h.1 a ha).2.2.2⟩, h.2⟩
theorem HiEq.sR {μ μ' : xM} (h : HiEq μ μ') {b k : Nat} {x : Option Nat} (hb : b < 66) : HiEq μ (sR μ' b k x) := ⟨fun a ha => ⟨(h.1 a ha).1, (h.1 a ha).2.1, (h.1 a ha).2.2.1, by rw [mR_at (by omega)]; exact (h.1 a ha).2.2.2⟩, h.2⟩
theorem TR.cg {ν μ μ' : xM} {φ : Nat → Nat} {t : Nat} (h : TR ν μ φ t) (e : ∀ i, i < 4 → mT μ' (φ t + i) = mT μ (φ t + i) ∧ mI μ' (φ t + i) = mI μ (φ t + i) ∧ mJ μ' (φ t + i) = mJ μ (φ t + i) ∧ mR μ' (φ t + i) = mR μ (φ t + i)) (hn : mN μ ≤ mN μ') : TR ν μ' φ t := by
  obtain ⟨⟨a1, a2⟩, ⟨b1, b2, b3, b4⟩, ⟨c1, c2⟩, ⟨d1, d2, d3⟩, h5⟩ := h
  have e0 := e 0 (by decide)
  have e1 := e 1 (by decide)
  have e2 := e 2 (by decide)
  have e3 := e 3 (by decide)
  rw [Nat.add_zero] at e0
  refine ⟨⟨a1, by omega⟩, ⟨by rw [e0.1]; exact b1, by rw [e1.1]; exact b2, by rw [e2.1]; exact b3, by rw [e3.1]; exact b4⟩, ⟨by rw [e0.2.1]; exact c1, by rw [e0.2.1]; exact c2⟩, ⟨by rw [e0.2.2.2]; exact d1, by rw [e0.2.2.2]; exact d2, by rw [e0.2.2.2]; exact d3⟩, fun j hj => ?_⟩
  obtain ⟨f1, f2, f3⟩ := h5 j hj
  exact ⟨by rw [e1.2.1]; exact f1, by rw [e2.2.2.1]; exact f2, by rw [e3.2.2.2]; exact f3⟩
theorem RTp.hi {ν μ μ' : xM} {φ : Nat → Nat} {E : Nat → Prop} (h : RTp ν μ φ E) (e : HiEq μ μ') : RTp ν μ' φ E := by
  refine ⟨fun t ht => (h.1 t ht).cg (fun i _ => e.1 _ ?_) (by rw [e.2]; exact Nat.le_refl _), h.2⟩
  have := (h.1 t ht).1.1
  omega
theorem CR.cg {ν μ μ' : xM} {a k : Nat} (h : CR ν μ a k) (e : mT μ' a = mT μ a ∧ mI μ' a = mI μ a ∧ mR μ' a = mR μ a) (hn : mN μ ≤ mN μ') : CR ν μ' a k := by
  unfold CR
  rw [e.1, e.2.1, e.2.2]
  exact ⟨⟨h.1.1, by have := h.1.2; omega⟩, h.2⟩
theorem RCb.hi {ν μ μ' : xM} {κ : Nat → Nat} (h : RCb ν μ κ) (e : HiEq μ μ') (e3 : mR μ' 3 = mR μ 3) : RCb ν μ' κ := by
  refine ⟨fun k hk => ?_, fun k h1 h2 => by rw [e3]; exact h.2.1 k h1 h2, h.2.2⟩
  obtain ⟨h1, h2⟩ := h.1 k hk
  have ha := e.1 (κ k) h2.1.1
  exact ⟨by rw [e3]; exact h1, h2.cg ⟨ha.1, ha.2.1, ha.2.2.2⟩ (by rw [e.2]; exact Nat.le_refl _)⟩
theorem CH.cg {ν μ μ' : xM} {φ : Nat → Nat} {c : Nat} (h : CH ν μ φ c) (e1 : mI μ' (28 + c) = mI μ (28 + c)) (e2 : mR μ' (28 + c) 1 = mR μ (28 + c) 1) : CH ν μ' φ c := by
  unfold CH
  rw [e1, e2]
  exact h
/-! a refusal is noted -/
theorem Rel.note {ρ ν μ : xM} {φ κ : Nat → Nat} {B : Nat × Nat × Nat × (Nat → Prop)} {r : Nat} (h : Rel ρ ν μ φ κ B) (hr : r < 6) : Rel ρ (metM ν r) (noteP μ r) φ κ B := by
  obtain ⟨h1, h2, h3, h4, h5, h6, h7, h8⟩ := h
  have hi : HiEq μ (noteP μ r) := ((HiEq.rf μ).sI (by decide)).sI (by decide)
  refine ⟨(h1.sI (by decide)).sI (by decide), h2, h3, ?_, fun c hc => (h5 c hc).cg ?_ rfl, h6.hi hi, h7.hi hi rfl, h8⟩
  · obtain ⟨⟨a1, a2, a3, a4, a5⟩, b, c⟩ := h4
    refine ⟨⟨a1, a2, a3, a4, rfl⟩, fun q q1 q2 => ?_, fun i hi => ?_⟩
    · show mI (noteP μ r) 25 q = mI (metM ν r) 65 q
      unfold noteP metM
      by_cases e : q = r
      · subst e
        rw [mI_s, mI_s, if_neg (by omega), if_neg (by omega), b q q1 q2]
      · rw [mI_k e, mI_k e, mI_at (by decide), mI_at (by decide)]
        exact b q q1 q2
    · show mI (noteP μ r) (5 + i) 0 = _ ∧ mI (noteP μ r) (5 + i) 1 = _ ∧ mI (noteP μ r) (5 + i) 2 = _
      unfold noteP
      rw [mI_at (by omega), mI_at (by omega)]
      exact c i hi
  · unfold noteP
    rw [mI_at (by omega), mI_at (by omega)]
/-! a cell on its way -/
def cellP (μ : xM) (h : Nat) (K : Int32) (num : Int64) (r : Option Nat) : xM := sR (sJ (sI μ h 0 K) h 1 num) h 2 r
theorem Rel.cell {ρ ν μ : xM} {φ κ : Nat → Nat} {B : Nat × Nat × Nat × (Nat → Prop)} {h : Nat} (hR : Rel ρ ν μ φ κ B) (hh : h = 26 ∨ h = 27) (K : Int32) (num : Int64) (r : Option Nat) : Rel ρ ν (cellP μ h K num r) φ κ B := by
  obtain ⟨h1, h2, h3, h4, h5, h6, h7, h8⟩ := hR
  have hi : HiEq μ (cellP μ h K num r) := (((HiEq.rf μ).sI (by omega)).sJ (by omega)).sR (by omega)
  have e1 : ∀ a, a ≠ h → mI (cellP μ h K num r) a = mI μ a := fun a ha => mI_at ha
  refine ⟨((h1.sI (by omega)).sJ (by omega)).sR (by omega), ShP.sR (μ := sJ (sI μ h 0 K) h 1 num) h2 (by omega) (by omega) (by omega), h3, ?_, fun c hc => (h5 c hc).cg (e1 _ (by omega)) ?_, h6.hi hi, h7.hi hi ?_, h8⟩
  · obtain ⟨a, b, c⟩ := h4
    refine ⟨?_, fun q q1 q2 => ?_, fun i hi => ?_⟩
    · rw [e1 1 (by omega)]; exact a
    · rw [e1 25 (by omega)]; exact b q q1 q2
    · rw [e1 (5 + i) (by omega)]; exact c i hi
  · show mR (sR _ h 2 r) (28 + c) 1 = _
    rw [mR_at (by omega)]; rfl
  · show mR (sR _ h 2 r) 3 = _
    rw [mR_at (by omega)]; rfl
