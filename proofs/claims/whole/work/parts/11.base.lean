/-! ranges; the reference's own cells -/
def rng (c : Int32) (n : Nat) : Option Nat := if 0 ≤ c.toInt ∧ c.toInt < n then some c.toInt.toNat else none
theorem rng_some {c : Int32} {n i : Nat} (h : rng c n = some i) : c = nI i ∧ i < n := by
  unfold rng at h
  by_cases q : 0 ≤ c.toInt ∧ c.toInt < n
  · rw [if_pos q] at h
    have hi : c.toInt.toNat = i := Option.some.inj h
    have hlt := Int32.toInt_lt c
    have e : c.toInt = i := by omega
    refine ⟨Int32.toInt_inj.mp ?_, by omega⟩
    rw [nI_toInt (by omega)]
    exact e
  · rw [if_neg q] at h; cases h
theorem rng_none {c : Int32} {n : Nat} (h : rng c n = none) : ¬ (0 ≤ c.toInt ∧ c.toInt < n) := by
  unfold rng at h
  by_cases q : 0 ≤ c.toInt ∧ c.toInt < n
  · rw [if_pos q] at h; cases h
  · exact q
theorem rng_nI {n i : Nat} (h : i < n) (hn : n < 2 ^ 31) : rng (nI i) n = some i := by
  unfold rng
  rw [nI_toInt (by omega), if_pos (by omega)]
  rfl
theorem rng_out {n i : Nat} (h : n ≤ i) (hn : i < 2 ^ 31) : rng (nI i) n = none := by
  unfold rng
  rw [nI_toInt (by omega), if_neg (by omega)]
theorem rng_lt {c : Int32} {n i : Nat} (h : rng c n = some i) : i < n := (rng_some h).2
theorem i0 : (0 : Int32).toInt = 0 := by decide
theorem nI_m1 {n : Nat} (hn : n < 2 ^ 30) : (nI n - 1).toInt = (n : Int) - 1 := by
  have := pk_sub_toInt (a := n) (b := 1) hn (by decide)
  exact this
theorem rng_in {c hi : Int32} {n i : Nat} (h : rng c n = some i) (hn : n < 2 ^ 30) (e : hi = nI n - 1) : (0 : Int32) ≤ c ∧ c ≤ hi := by
  obtain ⟨rfl, hi⟩ := rng_some h
  subst e
  rw [Int32.le_iff_toInt_le, Int32.le_iff_toInt_le, nI_m1 hn, nI_toInt (by omega), i0]
  omega
theorem rng_no {c hi : Int32} {n : Nat} (h : rng c n = none) (hn : n < 2 ^ 30) (e : hi = nI n - 1) : ¬ ((0 : Int32) ≤ c ∧ c ≤ hi) := by
  have := rng_none h
  subst e
  rw [Int32.le_iff_toInt_le, Int32.le_iff_toInt_le, nI_m1 hn, i0]
  omega
/-! sets that set nothing -/
theorem up2_self {α : Type} (f : Nat → Nat → α) (a k : Nat) : up2 f a k (f a k) = f := by
  funext b j
  unfold up2
  by_cases h : b = a ∧ j = k
  · rw [if_pos h, h.1, h.2]
  · rw [if_neg h]
theorem sI_self (μ : xM) (a k : Nat) : sI μ a k (mI μ a k) = μ := by
  unfold sI
  rw [up2_self]
  rfl
theorem sJ_self (μ : xM) (a k : Nat) : sJ μ a k (mJ μ a k) = μ := by
  unfold sJ
  rw [up2_self]
  rfl
/-! the reference: its object is 44, its arrays 45 .. 65 -/
def shp : Nat → Nat × Nat := fun a => match a with
  | 44 => (5, 0)
  | 45 => (6, 560)
  | 46 => (6, 560)
  | 47 => (8, 560)
  | 48 => (7, 17920)
  | 49 => (8, 201)
  | 50 => (6, 16)
  | 51 => (6, 16)
  | 52 => (6, 16)
  | 53 => (8, 16)
  | 54 => (6, 24)
  | 55 => (6, 24)
  | 56 => (6, 24)
  | 57 => (8, 24)
  | 58 => (6, 24)
  | 59 => (6, 24)
  | 60 => (6, 24)
  | 61 => (6, 24)
  | 62 => (6, 20)
  | 63 => (6, 20)
  | 64 => (6, 20)
  | _ => (6, 6)
def mfld : Nat → Option Nat := fun k => match k with
  | 0 => some 45
  | 1 => some 46
  | 2 => some 47
  | 3 => some 48
  | 5 => some 49
  | 6 => some 50
  | 7 => some 51
  | 8 => some 52
  | 9 => some 53
  | 11 => some 54
  | 12 => some 55
  | 13 => some 56
  | 14 => some 57
  | 15 => some 58
  | 16 => some 59
  | 17 => some 60
  | 18 => some 61
  | 21 => some 62
  | 22 => some 63
  | 23 => some 64
  | 24 => some 65
  | _ => none
def ShM (μ : xM) : Prop := (∀ a, 44 ≤ a → a < 66 → mT μ a = shp a) ∧ ∀ k, k < 26 → mR μ 44 k = mfld k
