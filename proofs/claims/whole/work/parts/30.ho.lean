/-! what a channel has, where its head stands: the relation holds on -/
section RH
variable {ρ ν μ : xM} {φ κ : Nat → Nat} {B : Nat × Nat × Nat × (Nat → Prop)}
theorem nI_nm1 {t : Nat} (h : t < 2 ^ 31) : ¬ nI t = -1 := by
  intro e
  have := congrArg Int32.toInt e
  rw [nI_toInt h, show (-1 : Int32).toInt = -1 by decide] at this
  omega
theorem nI_nm2 {t : Nat} (h : t < 2 ^ 31) : ¬ nI t = -2 := by
  intro e
  have := congrArg Int32.toInt e
  rw [nI_toInt h, show (-2 : Int32).toInt = -2 by decide] at this
  omega
def HoldOK (ν μ : xM) (φ : Nat → Nat) (E : Nat → Prop) (t : Nat) : Prop := t < 560 ∧ TR ν μ φ t ∧ (∀ t', lvE ν E t' → φ t' = φ t → t' = t) ∧ (kd ν t = 10 → ∀ j, j < sz ν t → lx (cv ν t j) ≠ 0 → lvE ν E (lx (cv ν t j) - 1) ∧ kd ν (lx (cv ν t j) - 1) = 4)
theorem hold_c (h : Rel ρ ν μ φ κ B) {c : Nat} (hc : c < 16) (h0 : noTapeM ν c = 0) : HoldOK ν μ φ B.2.2.2 (tp ν c) := by
  have hl := live_c hc h0
  refine ⟨tp_lt h.wt hc h0, h.tr hl, fun t' l e => h.2.2.2.2.2.1.2.1 t' _ l (Or.inl hl) e, fun k10 j hj hx => ⟨Or.inl ⟨c, hc, h0, Or.inr ⟨k10, j, hj, by omega⟩⟩, h.2.2.2.2.2.1.2.2 c hc h0 k10 j hj hx⟩⟩
theorem hold_4 (h : Rel ρ ν μ φ κ B) {t : Nat} (hl : lvE ν B.2.2.2 t) (h4 : kd ν t = 4) : HoldOK ν μ φ B.2.2.2 t :=
  ⟨lvE_lt h.wt hl, h.2.2.2.2.2.1.1 t hl, fun t' l e => h.2.2.2.2.2.1.2.1 t' _ l hl e, fun k10 => by omega⟩
theorem Rel.hold (h : Rel ρ ν μ φ κ B) {c : Nat} (hc : c < 16) {x b : Int32} {r : Option Nat} (hx : (x = -1 ∧ r = none ∧ b = 0) ∨ (x = -2 ∧ r = none ∧ b = 1) ∨ ∃ t, x = nI t ∧ r = some (φ t) ∧ b = 0 ∧ HoldOK ν μ φ B.2.2.2 t) :
    Rel ρ (sI ν 50 c x) (sI (sR μ (28 + c) 1 r) (28 + c) 2 b) φ κ B := by
  obtain ⟨h1, h2, h3, h4, h5, h6, h7, h8⟩ := h
  have e50 : ∀ d, d ≠ c → mI (sI ν 50 c x) 50 d = mI ν 50 d := fun d hd => mI_k hd
  have e50c : mI (sI ν 50 c x) 50 c = x := mI_s
  have nt : ∀ d, d ≠ c → noTapeM (sI ν 50 c x) d = noTapeM ν d := fun d hd => by unfold noTapeM; rw [e50 d hd]
  have et : ∀ d, d ≠ c → tp (sI ν 50 c x) d = tp ν d := fun d hd => by unfold tp; rw [e50 d hd]
  have ntc : noTapeM (sI ν 50 c x) c = if x = -1 then 1 else if x = -2 then 2 else 0 := by unfold noTapeM; rw [e50c]
  have key : noTapeM (sI ν 50 c x) c = 0 → ∃ t, tp (sI ν 50 c x) c = t ∧ x = nI t ∧ r = some (φ t) ∧ b = 0 ∧ HoldOK ν μ φ B.2.2.2 t := by
    intro q
    rw [ntc] at q
    rcases hx with ⟨rfl, -⟩ | ⟨rfl, -⟩ | ⟨t, e1, e2, e3, e4⟩
    · rw [if_pos rfl] at q; omega
    · rw [if_neg (by decide), if_pos rfl] at q; omega
    · refine ⟨t, ?_, e1, e2, e3, e4⟩
      unfold tp
      rw [e50c, e1, nI_clamp (by have := e4.1; omega)]
  have lv : ∀ t', lvE (sI ν 50 c x) B.2.2.2 t' → (lvE ν B.2.2.2 t' ∧ ∀ q, tp (sI ν 50 c x) c = q → noTapeM (sI ν 50 c x) c = 0 → φ t' = φ q → t' = q) ∨ (HoldOK ν μ φ B.2.2.2 t' ∧ noTapeM (sI ν 50 c x) c = 0 ∧ tp (sI ν 50 c x) c = t') := by
    have hE : ∀ t', lvE ν B.2.2.2 t' → (lvE ν B.2.2.2 t' ∧ ∀ q, tp (sI ν 50 c x) c = q → noTapeM (sI ν 50 c x) c = 0 → φ t' = φ q → t' = q) := by
      intro t' hlive
      refine ⟨hlive, fun q q1 q2 q3 => ?_⟩
      obtain ⟨t, e1, -, -, -, e5⟩ := key q2
      rw [e1] at q1
      rw [← q1] at q3 ⊢
      exact e5.2.2.1 t' hlive q3
    intro t' hl0
    rcases hl0 with ⟨d, hd, d0, hl⟩ | hl0
    case inr => exact Or.inl (hE t' (Or.inr hl0))
    by_cases e : d = c
    · subst e
      obtain ⟨t, e1, e2, e3, e4, e5⟩ := key d0
      rcases hl with hl | ⟨k10, k, hk, hl⟩
      · exact Or.inr ⟨by rw [← hl, e1]; exact e5, d0, hl⟩
      · rw [e1] at k10 hk hl
        have k10' : kd ν t = 10 := k10
        have hk' : k < sz ν t := hk
        have hl' : lx (cv ν t k) = t' + 1 := hl
        have hlive := (e5.2.2.2 k10' k hk' (by omega)).1
        rw [show lx (cv ν t k) - 1 = t' by omega] at hlive
        exact Or.inl (hE t' hlive)
    · have d0' := d0
      rw [nt d e] at d0'
      exact Or.inl (hE t' (Or.inl ⟨d, hd, d0', by rw [et d e] at hl; exact hl⟩))
  have hi : HiEq μ (sI (sR μ (28 + c) 1 r) (28 + c) 2 b) := ((HiEq.rf μ).sR (by omega)).sI (by omega)
  have hTR : ∀ t', TR ν μ φ t' → TR (sI ν 50 c x) (sI (sR μ (28 + c) 1 r) (28 + c) 2 b) φ t' := by
    intro t' q
    have q2 : TR (sI ν 50 c x) μ φ t' := q
    exact q2.cg (fun i _ => hi.1 _ (by have := q.1.1; omega)) (by rw [hi.2]; exact Nat.le_refl _)
  refine ⟨(h1.sR (by omega)).sI (by omega), ?_, ⟨⟨fun d hd d0 => ?_, h3.1.2⟩, h3.2⟩, ?_, fun d hd => ?_, ⟨fun t' ht' => ?_, fun t1 t2 l1 l2 e => ?_, fun d hd d0 => ?_⟩, h7.hi hi ?_, h8⟩
  · exact ShP.sR (μ := μ) h2 (by omega) (by omega) (by omega)
  · by_cases e : d = c
    · subst e
      obtain ⟨t, e1, e2, -, -, e5⟩ := key d0
      rw [e1, e50c]
      exact ⟨e5.1, e2⟩
    · rw [nt d e] at d0
      rw [et d e, e50 d e]
      exact h3.1.1 d hd d0
  · obtain ⟨a1, a2, a3⟩ := h4
    refine ⟨?_, fun q q1 q2 => ?_, fun q q1 => ?_⟩
    · rw [mI_at (by omega)]; exact a1
    · rw [mI_at (by omega)]; exact a2 q q1 q2
    · rw [mI_at (by omega)]; exact a3 q q1
  · by_cases e : d = c
    · subst e
      obtain ⟨a0, a1, a2, a3, a4, a5⟩ := h5 d hd
      refine ⟨by rw [mI_k (by decide)]; exact a0, ?_, ?_, by rw [mI_k (by decide)]; exact a3, by rw [mI_k (by decide)]; exact a4, by rw [mI_k (by decide)]; exact a5⟩
      · show mR (sR μ (28 + d) 1 r) (28 + d) 1 = _
        rw [mR_s]
        rcases hx with ⟨rfl, e2, -⟩ | ⟨rfl, e2, -⟩ | ⟨t, e1, e2, e3, e4⟩
        · rw [e2, if_neg (by rw [ntc, if_pos rfl]; decide)]
        · rw [e2, if_neg (by rw [ntc, if_neg (by decide), if_pos rfl]; decide)]
        · have lt := e4.1
          have z : noTapeM (sI ν 50 d x) d = 0 := by rw [ntc, e1, if_neg (nI_nm1 (by omega)), if_neg (nI_nm2 (by omega))]
          obtain ⟨t2, q1, q2, -⟩ := key z
          have : t2 = t := by rw [← q1]; unfold tp; rw [e50c, e1, nI_clamp (by omega)]
          rw [if_pos z, e2, q1, this]
      · rw [mI_s, e50c]
        rcases hx with ⟨rfl, -, e3⟩ | ⟨rfl, -, e3⟩ | ⟨t, e1, -, e3, e4⟩
        · rw [e3, if_neg (by decide)]
        · rw [e3, if_pos rfl]
        · have lt := e4.1
          rw [e3, e1, if_neg (nI_nm2 (by omega))]
    · have w : CH ν (sI (sR μ (28 + c) 1 r) (28 + c) 2 b) φ d := (h5 d hd).cg (mI_at (by omega)) (by show mR (sR μ (28 + c) 1 r) (28 + d) 1 = _; rw [mR_at (by omega)])
      unfold CH
      rw [nt d e, et d e, e50 d e]
      exact w
  · rcases lv t' ht' with ⟨q, -⟩ | ⟨q, -⟩
    · exact hTR t' (h6.1 t' q)
    · exact hTR t' q.2.1
  · rcases lv t1 l1 with ⟨q1, p1⟩ | ⟨q1, p1, p1'⟩
    · rcases lv t2 l2 with ⟨q2, -⟩ | ⟨-, p2, p2'⟩
      · exact h6.2.1 t1 t2 q1 q2 e
      · exact p1 t2 p2' p2 e
    · rcases lv t2 l2 with ⟨-, p2⟩ | ⟨-, -, p2'⟩
      · exact (p2 t1 p1' p1 e.symm).symm
      · rw [← p1', ← p2']
  · by_cases e : d = c
    · subst e
      obtain ⟨t, e1, -, -, -, e5⟩ := key d0
      rw [e1]
      exact fun k10 j hj hx => (e5.2.2.2 k10 j hj hx).2
    · rw [nt d e] at d0
      rw [et d e]
      exact h6.2.2 d hd d0
  · show mR (sR μ (28 + c) 1 r) 3 = _
    rw [mR_at (by omega)]
/-- a head, a step, a loop -/
theorem Rel.dial (h : Rel ρ ν μ φ κ B) {c k : Nat} (hc : c < 16) {x : Int32} (hk : k = 3 ∨ k = 4 ∨ k = 5) : Rel ρ (sI ν (48 + k) c x) (sI μ (28 + c) k x) φ κ B := by
  obtain ⟨h1, h2, h3, h4, h5, h6, h7, h8⟩ := h
  have hi : HiEq μ (sI μ (28 + c) k x) := (HiEq.rf μ).sI (by omega)
  have e1 : ∀ a, a ≠ 48 + k → mI (sI ν (48 + k) c x) a = mI ν a := fun a ha => mI_at ha
  have h6' := h6.hi hi
  have h7' := h7.hi hi rfl
  have h4' : RSc ν (sI μ (28 + c) k x) := by
    obtain ⟨a1, a2, a3⟩ := h4
    refine ⟨?_, fun q q1 q2 => ?_, fun q q1 => ?_⟩
    · rw [mI_at (by omega)]; exact a1
    · rw [mI_at (by omega)]; exact a2 q q1 q2
    · rw [mI_at (by omega)]; exact a3 q q1
  have h5' : ∀ d, d < 16 → CH (sI ν (48 + k) c x) (sI μ (28 + c) k x) φ d := by
    intro d hd
    obtain ⟨a0, a1, a2, a3, a4, a5⟩ := h5 d hd
    have f : ∀ j, j ≠ k → mI (sI μ (28 + c) k x) (28 + d) j = mI μ (28 + d) j := fun j hj => by
      by_cases e : 28 + d = 28 + c
      · rw [e, mI_k hj]
      · rw [mI_at e]
    have g : mI (sI μ (28 + c) k x) (28 + d) k = mI (sI ν (48 + k) c x) (48 + k) d ∨ mI μ (28 + d) k ≠ mI ν (48 + k) d := by
      by_cases e : d = c
      · subst e; exact Or.inl (by rw [mI_s, mI_s])
      · rw [mI_at (by omega), mI_k e]
        by_cases q : mI μ (28 + d) k = mI ν (48 + k) d
        · exact Or.inl q
        · exact Or.inr q
    rcases hk with rfl | rfl | rfl
    · exact ⟨by rw [f 0 (by decide)]; exact a0, a1, by rw [f 2 (by decide)]; exact a2, g.elim id (fun q => absurd a3 q), by rw [f 4 (by decide)]; exact a4, by rw [f 5 (by decide)]; exact a5⟩
    · exact ⟨by rw [f 0 (by decide)]; exact a0, a1, by rw [f 2 (by decide)]; exact a2, by rw [f 3 (by decide)]; exact a3, g.elim id (fun q => absurd a4 q), by rw [f 5 (by decide)]; exact a5⟩
    · exact ⟨by rw [f 0 (by decide)]; exact a0, a1, by rw [f 2 (by decide)]; exact a2, by rw [f 3 (by decide)]; exact a3, by rw [f 4 (by decide)]; exact a4, g.elim id (fun q => absurd a5 q)⟩
  rcases hk with rfl | rfl | rfl
  · exact ⟨h1.sI (by omega), h2, h3, h4', h5', h6', h7', h8⟩
  · exact ⟨h1.sI (by omega), h2, h3, h4', h5', h6', h7', h8⟩
  · exact ⟨h1.sI (by omega), h2, h3, h4', h5', h6', h7', h8⟩
end RH
