/-! a cell is written: the relation holds on -/
section RL
variable {ρ ν μ : xM} {φ κ : Nat → Nat} {B : Nat × Nat × Nat × (Nat → Prop)}
theorem Rel.ch (h : Rel ρ ν μ φ κ B) {c : Nat} (hc : c < 16) : CH ν μ φ c := h.2.2.2.2.1 c hc
theorem Rel.chT (h : Rel ρ ν μ φ κ B) {c : Nat} (hc : c < 16) (h0 : noTapeM ν c = 0) : mR μ (28 + c) 1 = some (φ (tp ν c)) := by rw [(h.ch hc).2.1, if_pos h0]
theorem Rel.chN (h : Rel ρ ν μ φ κ B) {c : Nat} (hc : c < 16) (h0 : ¬ noTapeM ν c = 0) : mR μ (28 + c) 1 = none := by rw [(h.ch hc).2.1, if_neg h0]
theorem Rel.tr (h : Rel ρ ν μ φ κ B) {t : Nat} (ht : liveM ν t) : TR ν μ φ t := h.2.2.2.2.2.1.1 t (Or.inl ht)
theorem Rel.wt (h : Rel ρ ν μ φ κ B) : WFt ν := h.2.2.1.1
theorem Rel.wc (h : Rel ρ ν μ φ κ B) : WFc ν := h.2.2.1.2.1
theorem Rel.wg (h : Rel ρ ν μ φ κ B) : WFg ν := h.2.2.1.2.2.1
theorem Rel.hand (h : Rel ρ ν μ φ κ B) {x : Nat} (hh : x = 26 ∨ x = 27) : mT μ x = (1, 0) := by rcases hh with rfl | rfl <;> exact h.2.1.1 _ (by decide) (by decide)
theorem live_c {c : Nat} (hc : c < 16) (h0 : noTapeM ν c = 0) : liveM ν (tp ν c) := ⟨c, hc, h0, Or.inl rfl⟩
theorem live_lt (hw : WFt ν) {t : Nat} (h : liveM ν t) : t < 560 := by
  obtain ⟨c, hc, h0, h1⟩ := h
  have ht := (hw.1 c hc h0).1
  rcases h1 with rfl | ⟨h10, k, hk, e⟩
  · exact ht
  · have := (hw.2.2 _ ht (by omega) k hk).2.1
    omega
theorem tp_lt (hw : WFt ν) {c : Nat} (hc : c < 16) (h0 : noTapeM ν c = 0) : tp ν c < 560 := (hw.1 c hc h0).1
theorem sz_le (hw : WFt ν) {t : Nat} (ht : t < 560) : sz ν t ≤ 32 := (hw.2.1 t ht).2.2
theorem kd_le (hw : WFt ν) {t : Nat} (ht : t < 560) : kd ν t ≤ 10 := (hw.2.1 t ht).1.2
theorem lvE_lt {E : Nat → Prop} (hw : WFt ν) {t : Nat} (h : lvE ν E t) : t < 560 := h.elim (live_lt hw) (fun q => q.2)
def CellR (ν : xM) (φ : Nat → Nat) (E : Nat → Prop) (K : Nat) (v num : Int64) (r : Option Nat) : Prop :=
  (K < 8 ∧ num = v ∧ r = none) ∨ ((K = 8 ∨ K = 9) ∧ num = v ∧ r = none ∧ v = lN (lx v) ∧ 1 ≤ lx v ∧ lx v ≤ gM ν ∧ (K = 8 ↔ mI ν 49 (lx v) = 0)) ∨
  (K = 10 ∧ v = lN (lx v) ∧ 1 ≤ lx v ∧ lx v ≤ 560 ∧ num = (mI ν 46 (lx v - 1)).toInt64 ∧ r = some (φ (lx v - 1)) ∧ lvE ν E (lx v - 1) ∧ kd ν (lx v - 1) = 4) ∨ ((K = 11 ∨ K = 12) ∧ v = 0 ∧ num = 0 ∧ r = none)
theorem lN_0 : lN 0 = 0 := rfl
theorem lx_ne {v : Int64} (h : 1 ≤ lx v) : v ≠ 0 := fun e => by rw [e, lx_0] at h; omega
theorem lN_gt {n : Nat} (h : 1 ≤ n) (h2 : n < 2 ^ 31) : 0 < lN n := by rw [← lN_0]; exact (lN_lt (by decide) h2).mpr h
theorem takes_lt {k o : Nat} (h8 : k < 8) (h : takesM k o = true) : o < 8 := by
  unfold takesM at h
  rw [if_neg (by omega)] at h
  by_cases e : k = o
  · omega
  · rw [if_neg e] at h
    by_cases e2 : k = 2
    · rw [if_pos e2] at h
      have : o = 1 := by simpa using h
      omega
    · rw [if_neg e2] at h
      simp at h
      omega
theorem CellR.ok (h : Rel ρ ν μ φ κ B) {K : Nat} {v num : Int64} {r : Option Nat} {E : Nat → Prop} (hc : CellR ν φ E K v num r) : cellOK K v := by
  have hg := h.wg.2
  intro h8
  rcases hc with ⟨a, -⟩ | ⟨a, -, -, e, l1, l2, -⟩ | ⟨a, e, l1, l2, -⟩ | ⟨a, e, -⟩
  · omega
  · exact ⟨e, by omega, fun _ => by omega, fun q => by omega⟩
  · exact ⟨e, l2, fun q => by omega, fun q => by omega⟩
  · subst e
    exact ⟨by rw [lx_0]; rfl, by rw [lx_0]; omega, fun _ => by rw [lx_0]; omega, fun _ => rfl⟩
theorem CellR.okc {K : Nat} {v num : Int64} {r : Option Nat} {E : Nat → Prop} (hcr : CellR ν φ E K v num r) {k : Nat} (ht : takesM k K = true) : OKc ν k (fitM k v) := by
  refine ⟨fun k8 k10 => ?_, fun k9 => ?_, fun _ => fit_fit k v⟩
  · have hK := takes_8 k8 ht
    rw [fit_id k8]
    rcases hcr with ⟨a, -⟩ | ⟨-, -, -, -, -, a, -⟩ | ⟨a, -⟩ | ⟨-, a, -⟩
    · omega
    · exact a
    · omega
    · rw [a, lx_0]; exact Nat.zero_le _
  · have hK := takes_8 (by omega) ht
    rw [fit_id (by omega)]
    rcases hcr with ⟨a, -⟩ | ⟨-, -, -, -, -, -, a⟩ | ⟨a, -⟩ | ⟨-, a, -⟩
    · omega
    · exact Or.inr (fun q => absurd (a.mpr q) (by omega))
    · omega
    · exact Or.inl a
theorem TR.nu {ν ν' μ : xM} {φ φ' : Nat → Nat} {t : Nat} (h : TR ν μ φ t) (ek : kd ν' t = kd ν t) (es : sz ν' t = sz ν t) (ec : ∀ j, j < sz ν t → cellKindM ν' t j = cellKindM ν t j ∧ numM ν' t j = numM ν t j ∧ tref ν' φ' t j = tref ν φ t j) (eφ : φ' t = φ t) : TR ν' μ φ' t := by
  unfold TR
  rw [ek, es, eφ]
  refine ⟨h.1, h.2.1, h.2.2.1, h.2.2.2.1, fun j hj => ?_⟩
  rw [(ec j hj).1, (ec j hj).2.1, (ec j hj).2.2]
  exact h.2.2.2.2 j hj
/-- what a cell is told of, from its number alone -/
theorem cell_cg {ν ν' : xM} {φ : Nat → Nat} {t j : Nat} (e1 : mI ν' = mI ν) (e2 : cv ν' t j = cv ν t j) : cellKindM ν' t j = cellKindM ν t j ∧ numM ν' t j = numM ν t j ∧ tref ν' φ t j = tref ν φ t j := by
  have ek : kd ν' t = kd ν t := by unfold kd; rw [e1]
  refine ⟨?_, ?_, ?_⟩
  · unfold cellKindM; rw [ek, e2, e1]
  · unfold numM; rw [ek, e2, e1]
  · unfold tref; rw [ek, e2]
theorem wr_off {a b j : Nat} {x : Int32} {y : Int64} {r : Option Nat} (h1 : b ≠ a + 1) (h2 : b ≠ a + 2) (h3 : b ≠ a + 3) : mI (wrP μ a j x y r) b = mI μ b ∧ mJ (wrP μ a j x y r) b = mJ μ b ∧ mR (wrP μ a j x y r) b = mR μ b :=
  ⟨mI_at h1, mJ_at h2, mR_at h3⟩
theorem Rel.ws (h : Rel ρ ν μ φ κ B) : WFs ν := h.2.2.1.2.2.2.2
/-- a tape takes what is its own -/
theorem own_takes (h : Rel ρ ν μ φ κ B) {t j : Nat} (ht : t < 560) (hj : j < sz ν t) : takesM (kd ν t) (cellKindM ν t j) = true := by
  have hk := kd_le h.wt ht
  obtain ⟨w1, w2, -⟩ := h.ws t ht j hj
  unfold cellKindM
  by_cases h8 : kd ν t < 8
  · rw [if_pos h8]
    unfold takesM
    rw [if_neg (by omega), if_pos rfl]
  · rw [if_neg h8]
    by_cases hv : cv ν t j = 0
    · rw [if_pos hv]
      unfold takesM
      rw [if_pos (by omega)]
      rfl
    · rw [if_neg hv]
      by_cases h10 : kd ν t = 10
      · rw [if_pos h10, h10]; decide
      · rw [if_neg h10]
        by_cases hs : mI ν 49 (lx (cv ν t j)) = 0
        · rw [if_pos hs]
          have : kd ν t = 8 := by
            rcases (show kd ν t = 8 ∨ kd ν t = 9 by omega) with e | e
            · exact e
            · rcases w2 e with a | a
              · exact absurd a hv
              · exact absurd hs a
          rw [this]; decide
        · rw [if_neg hs]
          rcases (show kd ν t = 8 ∨ kd ν t = 9 by omega) with e | e <;> rw [e] <;> decide
/-- a cell that a channel's tape has, as a cell on its way -/
theorem Rel.cellR (h : Rel ρ ν μ φ κ B) {c : Nat} (hc : c < 16) (h0 : noTapeM ν c = 0) {j : Nat} (hj : j < sz ν (tp ν c)) : CellR ν φ B.2.2.2 (cellKindM ν (tp ν c) j) (cv ν (tp ν c) j) (numM ν (tp ν c) j) (tref ν φ (tp ν c) j) := by
  have ht := tp_lt h.wt hc h0
  have hk := kd_le h.wt ht
  unfold cellKindM numM tref
  by_cases h8 : kd ν (tp ν c) < 8
  · rw [if_pos h8, if_neg (by omega), if_neg (by omega)]
    exact Or.inl ⟨h8, rfl, rfl⟩
  · rw [if_neg h8]
    obtain ⟨e1, e2, e3⟩ := h.wt.2.2 _ ht (by omega) j hj
    by_cases hv : cv ν (tp ν c) j = 0
    · rw [if_pos hv, hv, lx_0]
      refine Or.inr (Or.inr (Or.inr ⟨Or.inl rfl, rfl, ?_, ?_⟩))
      · by_cases h10 : kd ν (tp ν c) = 10
        · rw [if_pos h10, if_neg (by decide)]
        · rw [if_neg h10]
      · by_cases h10 : kd ν (tp ν c) = 10
        · rw [if_pos h10, if_pos rfl]
        · rw [if_neg h10]
    · rw [if_neg hv]
      have l1 : 1 ≤ lx (cv ν (tp ν c) j) := by
        refine Nat.one_le_iff_ne_zero.mpr (fun q => hv ?_)
        rw [e1, q]; rfl
      by_cases h10 : kd ν (tp ν c) = 10
      · rw [if_pos h10, if_pos h10, if_pos h10, if_neg (show ¬ lx (cv ν (tp ν c) j) = 0 by omega), if_pos (show 0 < cv ν (tp ν c) j by rw [e1]; exact lN_gt l1 (by omega))]
        exact Or.inr (Or.inr (Or.inl ⟨rfl, e1, l1, e2, rfl, rfl, Or.inl ⟨c, hc, h0, Or.inr ⟨h10, j, hj, by omega⟩⟩, h.2.2.2.2.2.1.2.2 c hc h0 h10 j hj (by omega)⟩))
      · rw [if_neg h10, if_neg h10, if_neg h10]
        have hg := (h.ws _ ht j hj).1 (by omega) (by omega)
        refine Or.inr (Or.inl ⟨?_, rfl, rfl, e1, l1, hg, ?_⟩)
        · split
          · exact Or.inl rfl
          · exact Or.inr rfl
        · by_cases hs : mI ν 49 (lx (cv ν (tp ν c) j)) = 0
          · rw [if_pos hs]; exact ⟨fun _ => hs, fun _ => rfl⟩
          · rw [if_neg hs]; exact ⟨fun q => absurd q (by decide), fun q => absurd q hs⟩
/-- a tape of its own after a write -/
theorem TR.write {t j K : Nat} {v num : Int64} {r : Option Nat} {E : Nat → Prop} (h : TR ν μ φ t) (hj : j < sz ν t) (hs : sz ν t ≤ 32) (hk : kd ν t ≤ 10) (hcr : CellR ν φ E K v num r) (ht : takesM (kd ν t) K = true) :
    TR (sJ ν 48 (32 * t + j) (fitM (kd ν t) v)) (wrP μ (φ t) j (if kd ν t < 8 then nI (kd ν t) else nI K) (fitM (kd ν t) num) r) φ t := by
  obtain ⟨a1, a2, a3, a4, a5⟩ := h
  refine ⟨a1, a2, ⟨?_, ?_⟩, by rw [(wr_off (by omega) (by omega) (by omega)).2.2]; exact a4, fun i hi => ?_⟩
  · rw [(wr_off (by omega) (by omega) (by omega)).1]; exact a3.1
  · rw [(wr_off (by omega) (by omega) (by omega)).1]; exact a3.2
  · have hi2 : i < sz ν t := hi
    have ei : mI (wrP μ (φ t) j (if kd ν t < 8 then nI (kd ν t) else nI K) (fitM (kd ν t) num) r) (φ t + 1) i = if i = j then (if kd ν t < 8 then nI (kd ν t) else nI K) else mI μ (φ t + 1) i := by
      show up2 _ _ _ _ _ _ = _
      by_cases e : i = j
      · subst e; rw [up2_s, if_pos rfl]
      · rw [up2_k _ _ e, if_neg e]
    have ej : mJ (wrP μ (φ t) j (if kd ν t < 8 then nI (kd ν t) else nI K) (fitM (kd ν t) num) r) (φ t + 2) i = if i = j then fitM (kd ν t) num else mJ μ (φ t + 2) i := by
      show up2 _ _ _ _ _ _ = _
      by_cases e : i = j
      · subst e; rw [up2_s, if_pos rfl]
      · rw [up2_k _ _ e, if_neg e]; rfl
    have er : mR (wrP μ (φ t) j (if kd ν t < 8 then nI (kd ν t) else nI K) (fitM (kd ν t) num) r) (φ t + 3) i = if i = j then r else mR μ (φ t + 3) i := by
      show up2 _ _ _ _ _ _ = _
      by_cases e : i = j
      · subst e; rw [up2_s, if_pos rfl]
      · rw [up2_k _ _ e, if_neg e]; rfl
    rw [ei, ej, er]
    by_cases e : i = j
    · subst e
      rw [if_pos rfl, if_pos rfl, if_pos rfl]
      have ec : cv (sJ ν 48 (32 * t + i) (fitM (kd ν t) v)) t i = fitM (kd ν t) v := by rw [cv_sJ (by omega) (by omega), if_pos ⟨rfl, rfl⟩]
      have ek : kd (sJ ν 48 (32 * t + i) (fitM (kd ν t) v)) t = kd ν t := rfl
      unfold cellKindM numM tref
      rw [ek, ec]
      show _ = nI (if _ then _ else if _ then _ else if _ then _ else if mI ν 49 _ = 0 then _ else _) ∧ _ = (if _ then (if _ then (mI ν 46 _).toInt64 else _) else _) ∧ _
      by_cases h8 : kd ν t < 8
      · have hK := takes_lt h8 ht
        rw [if_pos h8, if_pos h8, if_neg (by omega), if_neg (by omega)]
        rcases hcr with ⟨-, e1, e2⟩ | ⟨a, -⟩ | ⟨a, -⟩ | ⟨a, -⟩
        · rw [e1, e2]; exact ⟨rfl, rfl, rfl⟩
        · omega
        · omega
        · omega
      · rw [if_neg h8, if_neg h8, fit_id (by omega), fit_id (by omega)]
        have hK := takes_8 (by omega) ht
        rcases hcr with ⟨a, -⟩ | ⟨a, e1, e2, e3, l1, l2, b⟩ | ⟨a, e3, l1, l2, e1, e2, -⟩ | ⟨a, e1, e2, e3⟩
        · omega
        · have h10 : ¬ kd ν t = 10 := by omega
          rw [if_neg (lx_ne l1), if_neg h10, if_neg h10, if_neg h10]
          refine ⟨?_, e1, e2⟩
          rcases a with rfl | rfl
          · rw [if_pos (b.mp rfl)]
          · rw [if_neg (fun q => absurd (b.mpr q) (by decide))]
        · have h10 : kd ν t = 10 := by omega
          rw [if_neg (lx_ne l1), if_pos h10, if_pos h10, if_pos h10, if_neg (show ¬ lx v = 0 by omega), if_pos (by rw [e3]; exact lN_gt l1 (by omega)), a]
          exact ⟨rfl, e1, e2⟩
        · subst e1
          rw [if_pos rfl, e2, e3, lx_0]
          refine ⟨by rw [show K = 11 by omega], ?_, ?_⟩
          · split
            · rw [if_neg (by decide)]
            · rfl
          · split <;> rfl
    · rw [if_neg e, if_neg e, if_neg e]
      have ec : cv (sJ ν 48 (32 * t + j) (fitM (kd ν t) v)) t i = cv ν t i := by rw [cv_sJ (by omega) (by omega), if_neg (fun q => e q.2)]
      obtain ⟨c1, c2, c3⟩ := cell_cg (ν := ν) (ν' := sJ ν 48 (32 * t + j) (fitM (kd ν t) v)) (φ := φ) rfl ec
      rw [c1, c2, c3]
      exact a5 i hi2
/-- a live tape is another one at another address -/
theorem tr_off {t t' i : Nat} (h : TR ν μ φ t) (h' : TR ν μ φ t') (ht : φ t = φ t' → t = t') (e : t ≠ t') (hi : i < 4) : φ t + i ≠ φ t' + 1 ∧ φ t + i ≠ φ t' + 2 ∧ φ t + i ≠ φ t' + 3 := by
  obtain ⟨-, ⟨a0, a1, a2, a3⟩, -⟩ := h
  obtain ⟨-, ⟨b0, b1, b2, b3⟩, -⟩ := h'
  have key : ∀ k, k < 4 → 1 ≤ k → φ t + i ≠ φ t' + k := by
    intro k hk k1 q
    have hp : φ t = φ t' ∨ mT μ (φ t + i) ≠ mT μ (φ t' + k) := by
      rcases (show i = k ∨ i ≠ k by omega) with rfl | hik
      · exact Or.inl (by omega)
      · refine Or.inr (fun w => ?_)
        have w1 := congrArg Prod.fst w
        match i, hi, k, hk with
        | 0, _, 1, _ => rw [Nat.add_zero, a0, b1] at w1; exact absurd w1 (by show ¬ (3 : Nat) = 6; decide)
        | 0, _, 2, _ => rw [Nat.add_zero, a0, b2] at w1; exact absurd w1 (by show ¬ (3 : Nat) = 7; decide)
        | 0, _, 3, _ => rw [Nat.add_zero, a0, b3] at w1; exact absurd w1 (by show ¬ (3 : Nat) = 11; decide)
        | 1, _, 2, _ => rw [a1, b2] at w1; exact absurd w1 (by show ¬ (6 : Nat) = 7; decide)
        | 1, _, 3, _ => rw [a1, b3] at w1; exact absurd w1 (by show ¬ (6 : Nat) = 11; decide)
        | 2, _, 1, _ => rw [a2, b1] at w1; exact absurd w1 (by show ¬ (7 : Nat) = 6; decide)
        | 2, _, 3, _ => rw [a2, b3] at w1; exact absurd w1 (by show ¬ (7 : Nat) = 11; decide)
        | 3, _, 1, _ => rw [a3, b1] at w1; exact absurd w1 (by show ¬ (11 : Nat) = 6; decide)
        | 3, _, 2, _ => rw [a3, b2] at w1; exact absurd w1 (by show ¬ (11 : Nat) = 7; decide)
        | 1, _, 1, _ => exact hik rfl
        | 2, _, 2, _ => exact hik rfl
        | 3, _, 3, _ => exact hik rfl
    rcases hp with hp | hp
    · exact e (ht hp)
    · exact hp (by rw [q])
  exact ⟨key 1 (by decide) (by decide), key 2 (by decide) (by decide), key 3 (by decide) (by decide)⟩
theorem cb_off {a k t i : Nat} (h : CR ν μ a k) (h' : TR ν μ φ t) (hi : 1 ≤ i) (h4 : i < 4) : a ≠ φ t + i := by
  intro e
  have h1 := congrArg Prod.fst h.2.1
  rw [e] at h1
  obtain ⟨-, ⟨b0, b1, b2, b3⟩, -⟩ := h'
  match i, hi, h4 with
  | 1, _, _ => rw [b1] at h1; exact absurd h1 (by show ¬ (6 : Nat) = 0; decide)
  | 2, _, _ => rw [b2] at h1; exact absurd h1 (by show ¬ (7 : Nat) = 0; decide)
  | 3, _, _ => rw [b3] at h1; exact absurd h1 (by show ¬ (11 : Nat) = 0; decide)
theorem wr_live (hw : WFt ν) {E : Nat → Prop} {t j K : Nat} {v num : Int64} {r : Option Nat} (ht : t < 560) (hj : j < sz ν t) (hcr : CellR ν φ E K v num r) (hk : takesM (kd ν t) K = true) {t' : Nat} (h : lvE (sJ ν 48 (32 * t + j) (fitM (kd ν t) v)) E t') : lvE ν E t' := by
  refine h.elim (fun h => ?_) Or.inr
  obtain ⟨c, hc, h0, hl⟩ := h
  have h0' : noTapeM ν c = 0 := h0
  refine hl.elim (fun e => Or.inl ⟨c, hc, h0', Or.inl e⟩) (fun hl => ?_)
  obtain ⟨h10, i, hi, e⟩ := hl
  have h10' : kd ν (tp ν c) = 10 := h10
  have hi' : i < sz ν (tp ν c) := hi
  have e' : lx (cv (sJ ν 48 (32 * t + j) (fitM (kd ν t) v)) (tp ν c) i) = t' + 1 := e
  have l1 := sz_le hw ht
  have l2 := sz_le hw (tp_lt hw hc h0')
  rw [cv_sJ (by omega) (by omega)] at e'
  by_cases q : tp ν c = t ∧ i = j
  · rw [if_pos q] at e'
    rw [q.1] at h10'
    rw [fit_id (by omega)] at e'
    have h8 := takes_8 (by omega) hk
    rcases hcr with ⟨a, -⟩ | ⟨a, -⟩ | ⟨-, -, -, -, -, -, a, -⟩ | ⟨-, a, -⟩
    · omega
    · omega
    · rw [show t' = lx v - 1 by omega]; exact a
    · rw [a, lx_0] at e'; omega
  · rw [if_neg q] at e'
    exact Or.inl ⟨c, hc, h0', Or.inr ⟨h10', i, hi', e'⟩⟩
theorem Rel.write (h : Rel ρ ν μ φ κ B) {c K : Nat} {i : Int32} {v num : Int64} {r : Option Nat} (hc : c < 16) (hz : noWriteM ν c i K = 0) (hcr : CellR ν φ B.2.2.2 K v num r) :
    Rel ρ (writesM ν c i K v) (wrP μ (φ (tp ν c)) (ix i) (if kd ν (tp ν c) < 8 then nI (kd ν (tp ν c)) else nI K) (fitM (kd ν (tp ν c)) num) r) φ κ B := by
  have hwr := h.wt.writes hc (hcr.ok h) (i := i)
  obtain ⟨hp, ht⟩ := noWrite_0 hz
  obtain ⟨h0, -, -, hj⟩ := noPlace_0 hp
  have htl := tp_lt h.wt hc h0
  have hlv := live_c hc h0
  have hT := h.tr hlv
  have ls := sz_le h.wt htl
  have hw := h.wt
  obtain ⟨h1, h2, h3, h4, h5, h6, h7, h8⟩ := h
  obtain ⟨g1, g2⟩ := hT.1
  unfold writesM at hwr ⊢
  rw [if_pos hz] at hwr ⊢
  have lv : ∀ t', lvE (sJ ν 48 (32 * tp ν c + ix i) (fitM (kd ν (tp ν c)) v)) B.2.2.2 t' → lvE ν B.2.2.2 t' := fun t' h' => wr_live hw htl hj hcr ht h'
  refine ⟨((h1.sI (by omega)).sJ (by omega)).sR (by omega), ShP.sR (μ := sJ (sI μ _ _ _) _ _ _) h2 (by omega) (by omega) (by omega), ⟨hwr, h3.2.1, h3.2.2.1, h3.2.2.2.1, ?_⟩, ?_, fun d hd => ?_, ⟨fun t' h' => ?_, fun t1 t2 l1 l2 e => h6.2.1 t1 t2 (lv _ l1) (lv _ l2) e, ?_⟩, ⟨fun k hk => ?_, fun k k1 k2 => ?_, h7.2.2⟩, h8⟩
  · intro t' ht' j' hj'
    have l2 := sz_le hw ht'
    have hj2 : j' < sz ν t' := hj'
    rw [cv_sJ (by omega) (by omega)]
    by_cases q : t' = tp ν c ∧ j' = ix i
    · rw [if_pos q, q.1]
      exact hcr.okc ht
    · rw [if_neg q]
      exact h3.2.2.2.2 t' ht' j' hj2
  · refine ⟨?_, fun q q1 q2 => ?_, fun q q1 => ?_⟩
    · rw [(wr_off (by omega) (by omega) (by omega)).1]; exact h4.1
    · rw [(wr_off (by omega) (by omega) (by omega)).1]; exact h4.2.1 q q1 q2
    · rw [(wr_off (by omega) (by omega) (by omega)).1]; exact h4.2.2 q q1
  · have w := wr_off (μ := μ) (a := φ (tp ν c)) (b := 28 + d) (j := ix i) (x := if kd ν (tp ν c) < 8 then nI (kd ν (tp ν c)) else nI K) (y := fitM (kd ν (tp ν c)) num) (r := r) (by omega) (by omega) (by omega)
    exact (h5 d hd).cg w.1 (by rw [w.2.2])
  · by_cases q : t' = tp ν c
    · rw [q]; exact hT.write hj ls (kd_le hw htl) hcr ht
    · have hT' := h6.1 t' (lv t' h')
      refine TR.nu (φ := φ) (ν := ν) (hT'.cg (fun k hk => ?_) (Nat.le_refl _)) rfl rfl (fun j' hj' => ?_) rfl
      · obtain ⟨o1, o2, o3⟩ := tr_off hT' hT (h6.2.1 t' _ (lv t' h') (Or.inl hlv)) q hk
        have w := wr_off (μ := μ) (a := φ (tp ν c)) (b := φ t' + k) (j := ix i) (x := if kd ν (tp ν c) < 8 then nI (kd ν (tp ν c)) else nI K) (y := fitM (kd ν (tp ν c)) num) (r := r) o1 o2 o3
        exact ⟨rfl, w⟩
      · have l2 := sz_le hw (lvE_lt hw (lv t' h'))
        refine cell_cg rfl ?_
        rw [cv_sJ (by omega) (by omega), if_neg (fun w => q w.1)]
  · intro d hd d0 d10 j' hj' hx
    have d10' : kd ν (tp ν d) = 10 := d10
    have hj2 : j' < sz ν (tp ν d) := hj'
    have l2 := sz_le hw (tp_lt hw hd d0)
    show kd ν (lx (cv (sJ ν 48 (32 * tp ν c + ix i) (fitM (kd ν (tp ν c)) v)) (tp ν d) j') - 1) = 4
    have hx' : lx (cv (sJ ν 48 (32 * tp ν c + ix i) (fitM (kd ν (tp ν c)) v)) (tp ν d) j') ≠ 0 := hx
    rw [cv_sJ (by omega) (by omega)] at hx' ⊢
    by_cases q : tp ν d = tp ν c ∧ j' = ix i
    · rw [if_pos q] at hx' ⊢
      rw [q.1] at d10'
      rw [fit_id (by omega)] at hx' ⊢
      have hK := takes_8 (by omega) ht
      rcases hcr with ⟨a, -⟩ | ⟨a, -⟩ | ⟨-, -, -, -, -, -, -, a⟩ | ⟨-, a, -⟩
      · omega
      · omega
      · exact a
      · rw [a, lx_0] at hx'; exact absurd rfl hx'
    · rw [if_neg q] at hx' ⊢
      exact h6.2.2 d hd d0 d10' j' hj2 hx'
  · obtain ⟨b1, b2⟩ := h7.1 k hk
    have w := wr_off (μ := μ) (a := φ (tp ν c)) (b := κ k) (j := ix i) (x := if kd ν (tp ν c) < 8 then nI (kd ν (tp ν c)) else nI K) (y := fitM (kd ν (tp ν c)) num) (r := r) (cb_off b2 hT (by decide) (by decide)) (cb_off b2 hT (by decide) (by decide)) (cb_off b2 hT (by decide) (by decide))
    refine ⟨?_, b2.cg ⟨rfl, w.1, w.2.2⟩ (Nat.le_refl _)⟩
    rw [(wr_off (by omega) (by omega) (by omega)).2.2]; exact b1
  · have b := h7.2.1 k k1 k2
    rw [(wr_off (by omega) (by omega) (by omega)).2.2]; exact b
end RL
