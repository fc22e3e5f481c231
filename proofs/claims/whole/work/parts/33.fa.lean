/-! faults, cables' books, the hour: the relation holds on -/
section RF
variable {ρ ν μ : xM} {φ κ : Nat → Nat} {B : Nat × Nat × Nat × (Nat → Prop)}
theorem fmod_nI {a n : Nat} (ha : a < 2 ^ 31) (hn : n < 2 ^ 31) (h0 : 0 < n) : fmodM (nI a) (nI n) = nI (a % n) := by
  have hs := rem_sign (x := nI a) (n := nI n) (by rw [nI_toInt hn]; omega)
  unfold fmodM
  rw [if_pos (hs.1 (by rw [nI_toInt ha]; omega))]
  refine Int32.toInt_inj.mp ?_
  rw [rem_toInt, nI_toInt ha, nI_toInt hn, nI_toInt (Nat.lt_of_le_of_lt (Nat.mod_le a n) ha)]
  rfl
def failP (μ : xM) (k : Nat) (who : Int32) (h : Nat) : xM := meetP (sI (sI (sI (sI μ (5 + k) 0 (mI μ 1 4)) (5 + k) 1 who) (5 + k) 2 (nI h)) 1 6 (mI μ 1 6 + 1)) h
theorem Rel.fm (h : Rel ρ ν μ φ κ B) : mI ν 44 20 = nI (fM ν) ∧ fM ν ≤ B.1 := h.2.2.1.2.2.2.1
theorem fail_fM (h : Rel ρ ν μ φ κ B) (hB : B.1 < 2 ^ 30) {who : Int32} {r : Nat} : mI (failM ν who r) 44 20 = nI (fM ν + 1) ∧ fM (failM ν who r) = fM ν + 1 := by
  have e : mI (failM ν who r) 44 20 = nI (fM ν + 1) := by
    show mI (sI (sI (sI (sI (sI ν 62 _ _) 63 _ who) 64 _ _) 44 20 _) 65 r _) 44 20 = _
    rw [mI_at (by decide), mI_s, h.fm.1, nI_1]
  refine ⟨e, ?_⟩
  unfold fM at e ⊢
  rw [e, nI_clamp (by have := h.fm.2; unfold fM at this; omega)]
theorem Rel.fail (h : Rel ρ ν μ φ κ B) (hB : B.1 < 2 ^ 30) {who : Int32} {r : Nat} (h0 : r ≠ 0) (hr : r < 6) : Rel ρ (failM ν who r) (failP μ (fM ν % 20) who r) φ κ (B.1 + 1, B.2) := by
  obtain ⟨f1, f2⟩ := fail_fM h hB (who := who) (r := r)
  have hf := h.fm.2
  have k20 : fM ν % 20 < 20 := Nat.mod_lt _ (by decide)
  obtain ⟨h1, h2, h3, h4, h5, h6, h7, h8⟩ := h
  have em : failP μ (fM ν % 20) who r = sI (sI (sI (sI (sI μ (5 + fM ν % 20) 0 (mI μ 1 4)) (5 + fM ν % 20) 1 who) (5 + fM ν % 20) 2 (nI r)) 1 6 (mI μ 1 6 + 1)) 25 r (mI μ 25 r + 1) := by
    unfold failP
    rw [meetP_pos _ h0, mI_at (by decide), mI_at (by omega), mI_at (by omega), mI_at (by omega)]
  have ev : failM ν who r = sI (sI (sI (sI (sI ν 62 (fM ν % 20) (mI ν 44 19)) 63 (fM ν % 20) who) 64 (fM ν % 20) (nI r)) 44 20 (mI ν 44 20 + 1)) 65 r (mI ν 65 r + 1) := rfl
  rw [em]
  have hi : HiEq μ (sI (sI (sI (sI (sI μ (5 + fM ν % 20) 0 (mI μ 1 4)) (5 + fM ν % 20) 1 who) (5 + fM ν % 20) 2 (nI r)) 1 6 (mI μ 1 6 + 1)) 25 r (mI μ 25 r + 1)) := (((((HiEq.rf μ).sI (by omega)).sI (by omega)).sI (by omega)).sI (by omega)).sI (by omega)
  have o1 : ∀ a, a ≠ 25 → a ≠ 1 → a ≠ 5 + fM ν % 20 → mI (sI (sI (sI (sI (sI μ (5 + fM ν % 20) 0 (mI μ 1 4)) (5 + fM ν % 20) 1 who) (5 + fM ν % 20) 2 (nI r)) 1 6 (mI μ 1 6 + 1)) 25 r (mI μ 25 r + 1)) a = mI μ a := fun a a1 a2 a3 => by
    rw [mI_at a1, mI_at a2, mI_at a3, mI_at a3, mI_at a3]
  have o2 : ∀ a, a ≠ 62 → a ≠ 63 → a ≠ 64 → a ≠ 44 → a ≠ 65 → mI (failM ν who r) a = mI ν a := fun a a1 a2 a3 a4 a5 => by
    rw [ev, mI_at a5, mI_at a4, mI_at a3, mI_at a2, mI_at a1]
  have o44 : ∀ j, j ≠ 20 → mI (failM ν who r) 44 j = mI ν 44 j := fun j hj => by
    rw [ev, mI_at (by decide), mI_k hj, mI_at (by decide), mI_at (by decide), mI_at (by decide)]
  refine ⟨((((h1.sI (by omega)).sI (by omega)).sI (by omega)).sI (by omega)).sI (by omega), h2, ⟨h3.1, h3.2.1, h3.2.2.1, ⟨by rw [f1, f2], by show _ ≤ B.1 + 1; rw [f2]; omega⟩, h3.2.2.2.2⟩, ?_, fun c hc => (h5 c hc).cg (o1 _ (by omega) (by omega) (by omega)) rfl, h6.hi hi, h7.hi hi rfl, h8⟩
  obtain ⟨⟨a1, a2, a3, a4, a5⟩, b, c⟩ := h4
  refine ⟨⟨?_, ?_, ?_, ?_, ?_⟩, fun q q1 q2 => ?_, fun i hi => ?_⟩
  · rw [o44 10 (by decide), ← a1, mI_at (by decide), mI_k (by decide), mI_at (by omega), mI_at (by omega), mI_at (by omega)]
  · rw [o44 4 (by decide), ← a2, mI_at (by decide), mI_k (by decide), mI_at (by omega), mI_at (by omega), mI_at (by omega)]
  · rw [o44 19 (by decide), ← a3, mI_at (by decide), mI_k (by decide), mI_at (by omega), mI_at (by omega), mI_at (by omega)]
  · rw [ev, mI_at (a := 44) (b := 65) (by decide), mI_s, ← a4, mI_at (by decide), mI_s]
  · rw [o44 25 (by decide), ← a5, mI_at (by decide), mI_k (by decide), mI_at (by omega), mI_at (by omega), mI_at (by omega)]
  · have z : ∀ j, mI (sI (sI (sI (sI ν 62 (fM ν % 20) (mI ν 44 19)) 63 (fM ν % 20) who) 64 (fM ν % 20) (nI r)) 44 20 (mI ν 44 20 + 1)) 65 j = mI ν 65 j := fun j => by rw [mI_at (by decide), mI_at (by decide), mI_at (by decide), mI_at (by decide)]
    have z2 : ∀ j, mI (sI (sI (sI (sI μ (5 + fM ν % 20) 0 (mI μ 1 4)) (5 + fM ν % 20) 1 who) (5 + fM ν % 20) 2 (nI r)) 1 6 (mI μ 1 6 + 1)) 25 j = mI μ 25 j := fun j => by rw [mI_at (by decide), mI_at (by omega), mI_at (by omega), mI_at (by omega)]
    rw [ev]
    by_cases e : q = r
    · subst e
      rw [mI_s, mI_s, b q q1 q2]
    · rw [mI_k e, mI_k e, z, z2]
      exact b q q1 q2
  · obtain ⟨c0, c1, c2⟩ := c i hi
    rw [mI_at (by omega), mI_at (by omega)]
    by_cases e : i = fM ν % 20
    · subst e
      refine ⟨?_, ?_, ?_⟩
      · rw [mI_k (by decide), mI_k (by decide), mI_s, a3, ev, mI_at (by decide), mI_at (by decide), mI_at (by decide), mI_at (by decide), mI_s]
      · rw [mI_k (by decide), mI_s, ev, mI_at (by decide), mI_at (by decide), mI_at (by decide), mI_s]
      · rw [mI_s, ev, mI_at (by decide), mI_at (by decide), mI_s]
    · rw [mI_at (by omega), mI_at (by omega), mI_at (by omega), ev]
      refine ⟨?_, ?_, ?_⟩
      · rw [mI_at (by decide), mI_at (by decide), mI_at (by decide), mI_at (by decide), mI_k e]; exact c0
      · rw [mI_at (by decide), mI_at (by decide), mI_at (by decide), mI_k e, mI_at (by decide)]; exact c1
      · rw [mI_at (by decide), mI_at (by decide), mI_k e, mI_at (by decide), mI_at (by decide)]; exact c2
theorem Rel.cb (h : Rel ρ ν μ φ κ B) {k : Nat} (hk : k < qM ν) : mR μ 3 k = some (κ k) ∧ CR ν μ (κ k) k := h.2.2.2.2.2.2.1.1 k hk
theorem Rel.q24 (h : Rel ρ ν μ φ κ B) : qM ν ≤ 24 := h.wc.1.2
theorem cb_tr {a k t : Nat} (h : CR ν μ a k) (h' : TR ν μ φ t) {i : Nat} (hi : i < 4) : φ t + i ≠ a := by
  intro e
  have h1 := congrArg Prod.fst h.2.1
  rw [← e] at h1
  obtain ⟨-, ⟨b0, b1, b2, b3⟩, -⟩ := h'
  match i, hi with
  | 0, _ => rw [Nat.add_zero, b0] at h1; exact absurd h1 (by show ¬ (3 : Nat) = 0; decide)
  | 1, _ => rw [b1] at h1; exact absurd h1 (by show ¬ (6 : Nat) = 0; decide)
  | 2, _ => rw [b2] at h1; exact absurd h1 (by show ¬ (7 : Nat) = 0; decide)
  | 3, _ => rw [b3] at h1; exact absurd h1 (by show ¬ (11 : Nat) = 0; decide)
/-- a cable's own number is set -/
theorem Rel.cab (h : Rel ρ ν μ φ κ B) {k f : Nat} (hk : k < qM ν) {x : Int32} (hf : (f = 4 ∧ (x = 0 ∨ x = 1)) ∨ f = 5 ∨ f = 6 ∨ f = 7 ∨ f = 8) : Rel ρ (sI ν (53 + f) k x) (sI μ (κ k) f x) φ κ B := by
  have hq := h.q24
  obtain ⟨hb1, hb2⟩ := h.cb hk
  have h66 := hb2.1.1
  obtain ⟨h1, h2, h3, h4, h5, h6, h7, h8⟩ := h
  have hT : ∀ t, TR ν μ φ t → TR ν (sI μ (κ k) f x) φ t := fun t q => q.cg (fun i hi => ⟨rfl, mI_at (cb_tr hb2 q hi), rfl, rfl⟩) (Nat.le_refl _)
  have h4' : RSc ν (sI μ (κ k) f x) := by
    obtain ⟨a1, a2, a3⟩ := h4
    refine ⟨?_, fun q q1 q2 => ?_, fun q q1 => ?_⟩
    · rw [mI_at (by omega)]; exact a1
    · rw [mI_at (by omega)]; exact a2 q q1 q2
    · rw [mI_at (by omega)]; exact a3 q q1
  have h5' : RCh ν (sI μ (κ k) f x) φ := fun c hc => (h5 c hc).cg (mI_at (by omega)) rfl
  have h6' : RTp ν (sI μ (κ k) f x) φ B.2.2.2 := ⟨fun t q => hT t (h6.1 t q), h6.2⟩
  have h7a : ∀ d, d < qM ν → (53 + f ≤ 61 → 57 ≤ 53 + f → mR (sI μ (κ k) f x) 3 d = some (κ d) ∧ CR (sI ν (53 + f) k x) (sI μ (κ k) f x) (κ d) d) := by
    intro d hd l1 l2
    obtain ⟨w1, w2⟩ := h7.1 d hd
    refine ⟨w1, ?_⟩
    by_cases e : d = k
    · subst e
      obtain ⟨b0, b1, ⟨b2, b3, b4, b5⟩, c4, c5, c6, c7, c8⟩ := w2
      have e4 : ∀ g, g ≠ f → mI (sI μ (κ d) f x) (κ d) g = mI μ (κ d) g := fun g hg => mI_k hg
      have e5 : ∀ g, g ≠ f → mI (sI ν (53 + f) d x) (53 + g) d = mI ν (53 + g) d := fun g hg => by rw [mI_at (by omega)]
      have e6 : mI (sI μ (κ d) f x) (κ d) f = mI (sI ν (53 + f) d x) (53 + f) d := by rw [mI_s, mI_s]
      have e7 : ∀ a, a ≠ 53 + f → mI (sI ν (53 + f) d x) a = mI ν a := fun a ha => mI_at ha
      have ef : cf (sI ν (53 + f) d x) d = cf ν d := by unfold cf; rw [e7 55 (by omega)]
      have et : ct (sI ν (53 + f) d x) d = ct ν d := by unfold ct; rw [e7 56 (by omega)]
      have key : ∀ g, mI μ (κ d) g = mI ν (53 + g) d → mI (sI μ (κ d) f x) (κ d) g = mI (sI ν (53 + f) d x) (53 + g) d := fun g hg => by
        by_cases q : g = f
        · subst q; exact e6
        · rw [e4 g q, e5 g q]; exact hg
      refine ⟨b0, b1, ⟨by rw [e4 0 (by omega)]; exact b2, by rw [e4 1 (by omega), e7 54 (by omega)]; exact b3, by rw [ef]; exact b4, by rw [et]; exact b5⟩, key 4 c4, key 5 c5, key 6 c6, key 7 c7, key 8 c8⟩
    · have hne : κ d ≠ κ k := fun q => e (h7.2.2.1 d k hd hk q)
      have w3 := w2.cg (μ' := sI μ (κ k) f x) ⟨rfl, mI_at hne, rfl⟩ (Nat.le_refl _)
      have e7 : ∀ a, mI (sI ν (53 + f) k x) a d = mI ν a d := fun a => by
        by_cases q : a = 53 + f
        · rw [q, mI_k e]
        · rw [mI_at q]
      unfold CR cf ct
      rw [e7, e7, e7, e7, e7, e7, e7, e7]
      exact w3
  have h7b : ∀ d, qM ν ≤ d → d < 24 → mR (sI μ (κ k) f x) 3 d = none ∧ mI (sI ν (53 + f) k x) 59 d = 0 ∧ mI (sI ν (53 + f) k x) 60 d = 0 ∧ mI (sI ν (53 + f) k x) 61 d = 0 := by
    intro d d1 d2
    have e7 : ∀ a, mI (sI ν (53 + f) k x) a d = mI ν a d := fun a => by
      by_cases q : a = 53 + f
      · rw [q, mI_k (by omega)]
      · rw [mI_at q]
    rw [e7, e7, e7]
    exact h7.2.1 d d1 d2
  have h7c : ∀ d, d < qM ν → mI (sI ν (53 + f) k x) 57 d = 0 ∨ mI (sI ν (53 + f) k x) 57 d = 1 := by
    intro d hd
    rcases hf with ⟨rfl, hx⟩ | hf
    · by_cases e : d = k
      · subst e; rw [show 53 + 4 = 57 from rfl, mI_s]; exact hx
      · rw [show 53 + 4 = 57 from rfl, mI_k e]; exact h7.2.2.2 d hd
    · rw [mI_at (by omega)]; exact h7.2.2.2 d hd
  rcases hf with ⟨rfl, -⟩ | rfl | rfl | rfl | rfl <;>
  exact ⟨h1.sI (by omega), h2, h3, h4', h5', h6', ⟨fun d hd => h7a d hd (by decide) (by decide), h7b, h7.2.2.1, h7c⟩, h8⟩
theorem Rel.time (h : Rel ρ ν μ φ κ B) : Rel ρ (timeM ν) (sI μ 1 4 (mI μ 1 4 + 1)) φ κ B := by
  obtain ⟨h1, h2, h3, h4, h5, h6, h7, h8⟩ := h
  have hi : HiEq μ (sI μ 1 4 (mI μ 1 4 + 1)) := (HiEq.rf μ).sI (by omega)
  refine ⟨h1.sI (by omega), h2, h3, ?_, fun c hc => (h5 c hc).cg (mI_at (by omega)) rfl, h6.hi hi, h7.hi hi rfl, h8⟩
  obtain ⟨⟨a1, a2, a3, a4, a5⟩, b, c⟩ := h4
  refine ⟨⟨a1, a2, ?_, a4, a5⟩, b, fun i hi => ?_⟩
  · unfold timeM; rw [mI_s, mI_s, a3]
  · rw [mI_at (by omega)]; exact c i hi
end RF
