/-! nothing but the reference's own cells has changed -/
def Pq (μ μ' : xM) : Prop := (mT μ' = mT μ ∧ mN μ' = mN μ ∧ mS μ' = mS μ ∧ mR μ' = mR μ) ∧ (∀ a, a < 44 ∨ 66 ≤ a → mI μ' a = mI μ a) ∧ ∀ a, a ≠ 48 → mJ μ' a = mJ μ a
theorem Pq.rf (μ : xM) : Pq μ μ := ⟨⟨rfl, rfl, rfl, rfl⟩, fun _ _ => rfl, fun _ _ => rfl⟩
theorem Pq.tr {a b c : xM} (h : Pq a b) (k : Pq b c) : Pq a c := ⟨⟨k.1.1.trans h.1.1, k.1.2.1.trans h.1.2.1, k.1.2.2.1.trans h.1.2.2.1, k.1.2.2.2.trans h.1.2.2.2⟩, fun x hx => (k.2.1 x hx).trans (h.2.1 x hx), fun x hx => (k.2.2 x hx).trans (h.2.2 x hx)⟩
theorem pq_sI (μ : xM) (a k : Nat) (x : Int32) (h : 44 ≤ a) (h2 : a < 66) : Pq μ (sI μ a k x) := ⟨⟨mT_sI _ _ _ _, mN_sI _ _ _ _, mS_sI _ _ _ _, mR_sI _ _ _ _⟩, fun b hb => mI_at (by omega), fun b _ => by rw [mJ_sI]⟩
theorem pq_sJ (μ : xM) (k : Nat) (x : Int64) : Pq μ (sJ μ 48 k x) := ⟨⟨mT_sJ _ _ _ _, mN_sJ _ _ _ _, mS_sJ _ _ _ _, mR_sJ _ _ _ _⟩, fun b _ => by rw [mI_sJ], fun b hb => mJ_at hb⟩
theorem pq_sB (μ : xM) (w : Nat → Int64) : Pq μ (sB μ w) := ⟨⟨rfl, rfl, rfl, rfl⟩, fun _ _ => rfl, fun b hb => by funext j; exact if_neg hb⟩
theorem pq_sA (μ : xM) (u : Nat → Int32) : Pq μ (sA μ 47 u) := ⟨⟨rfl, rfl, rfl, rfl⟩, fun b hb => by funext j; exact if_neg (by omega), fun _ _ => rfl⟩
theorem Pq.sI' {μ0 μ : xM} (h : Pq μ0 μ) (a k : Nat) (x : Int32) (h1 : 44 ≤ a) (h2 : a < 66) : Pq μ0 (sI μ a k x) := h.tr (pq_sI μ a k x h1 h2)
theorem pq_met (μ : xM) (r : Nat) : Pq μ (metM μ r) := ((Pq.rf μ).sI' _ _ _ (by decide) (by decide)).sI' _ _ _ (by decide) (by decide)
theorem pq_wr (μ : xM) (c : Nat) (i : Int32) (K : Nat) (v : Int64) : Pq μ (writesM μ c i K v) := by
  obtain ⟨w, e⟩ := writes_form μ c i K v
  rw [e]; exact pq_sB μ w
theorem pq_pa (μ : xM) (c : Nat) (i : Int32) (d : Nat) (j : Int32) : Pq μ (passM μ c i d j) := by
  obtain ⟨w, e⟩ := pass_form μ c i d j
  rw [e]; exact pq_sB μ w
theorem pq_car (μ : xM) (k : Nat) : Pq μ (carryM μ k) := by
  obtain ⟨w, e⟩ := carry_form μ k
  rw [e]; exact pq_sB μ w
theorem pq_fail (μ : xM) (who : Int32) (r : Nat) : Pq μ (failM μ who r) :=
  (((((Pq.rf μ).sI' _ _ _ (by decide) (by decide)).sI' _ _ _ (by decide) (by decide)).sI' _ _ _ (by decide) (by decide)).sI' _ _ _ (by decide) (by decide)).sI' _ _ _ (by decide) (by decide)
theorem pq_calm (μ : xM) (k : Nat) (a b : Int32) : Pq μ (calmM μ k a b) := (((Pq.rf μ).sI' _ _ _ (by decide) (by decide)).sI' _ _ _ (by decide) (by decide)).sI' _ _ _ (by decide) (by decide)
theorem pq_strike (μ : xM) (k : Nat) : Pq μ (strikeM μ k) := ((Pq.rf μ).sI' _ _ _ (by decide) (by decide)).sI' _ _ _ (by decide) (by decide)
theorem pq_cab (μ : xM) (k : Nat) : Pq μ (cabM μ k) := by
  unfold cabM
  split
  · exact Pq.rf μ
  · split
    · exact (pq_car μ k).tr (pq_calm _ _ _ _)
    · split
      · exact (pq_car μ k).tr (pq_calm _ _ _ _)
      · exact ((pq_car μ k).tr (pq_fail _ _ _)).tr (pq_strike _ _)
theorem pq_cabs (μ : xM) : ∀ k, Pq μ (cabsM μ k)
  | 0 => Pq.rf μ
  | k + 1 => (pq_cabs μ k).tr (pq_cab _ k)
theorem pq_mv (μ : xM) (c : Nat) : Pq μ (moveM μ c) := by
  unfold moveM
  split
  · exact pq_sI _ _ _ _ (by decide) (by decide)
  · split
    · exact pq_sI _ _ _ _ (by decide) (by decide)
    · exact pq_fail _ _ _
theorem pq_mvs (μ : xM) : ∀ c, Pq μ (mvsM μ c)
  | 0 => Pq.rf μ
  | c + 1 => (pq_mvs μ c).tr (pq_mv _ c)
theorem pq_tick (μ : xM) : Pq μ (tickM μ) := ((pq_sI μ 44 19 _ (by decide) (by decide)).tr (pq_cabs _ _)).tr (pq_mvs _ 16)
theorem pq_tag1 (μ : xM) (s : Int32) : Pq μ (tag1M μ s) := ((Pq.rf μ).sI' _ _ _ (by decide) (by decide)).sI' _ _ _ (by decide) (by decide)
theorem pq_cabN (μ : xM) (k f t : Nat) : Pq μ (cabNewM μ k f t) :=
  ((((((Pq.rf μ).sI' _ _ _ (by decide) (by decide)).sI' _ _ _ (by decide) (by decide)).sI' _ _ _ (by decide) (by decide)).sI' _ _ _ (by decide) (by decide)).sI' _ _ _ (by decide) (by decide)).sI' _ _ _ (by decide) (by decide)
theorem pq_newT (μ : xM) (u : Nat → Int32) (k n : Nat) : Pq μ (newTM μ u k n) := (((pq_sA μ u).sI' _ _ _ (by decide) (by decide)).sI' _ _ _ (by decide) (by decide)).tr (pq_sB _ _)
theorem pq_dub (μ : xM) (u : Nat → Int32) (a b kk : Nat) : Pq μ (dubM μ u a b kk) := (((pq_met μ 0).tr (pq_newT _ _ _ _)).tr (pq_sB _ _)).sI' _ _ _ (by decide) (by decide)
theorem pq_spl {a b : Nat} {i j : Int32} : ∀ (n d : Nat) (μ : xM), Pq μ (spl a b i j n d μ).2.2
  | 0, d, μ => Pq.rf μ
  | n + 1, d, μ => by
    unfold spl
    by_cases q : noPassM μ a (i + nI d) b (j + nI d) = 0
    · rw [if_pos q]; exact (pq_pa μ _ _ _ _).tr (pq_spl n (d + 1) _)
    · rw [if_neg q]; exact pq_pa μ _ _ _ _
theorem ShM.pq {μ μ' : xM} (h : ShM μ) (p : Pq μ μ') : ShM μ' := by
  obtain ⟨⟨e1, e2, e3, e4⟩, -⟩ := p
  refine ⟨fun a a1 a2 => ?_, fun k hk => ?_⟩
  · rw [e1]; exact h.1 a a1 a2
  · rw [e4]; exact h.2 k hk
theorem Rel.cgn {ρ ν ν' μ : xM} {φ κ : Nat → Nat} {B : Nat × Nat × Nat × (Nat → Prop)} (h : Rel ρ ν μ φ κ B) (hv : Vq ν ν') : Rel ρ ν' μ φ κ B := by
  have h1 : Rel ρ (vw ν) μ φ κ B := h
  rw [← hv.eq] at h1
  exact h1
theorem Rel.turn {ρ ν μ μ' : xM} {φ κ : Nat → Nat} {B : Nat × Nat × Nat × (Nat → Prop)} (h : Rel ρ ν μ φ κ B) (hv : Vq ν μ') (hp : Pq μ μ') : Rel μ' μ' μ' φ κ B := by
  obtain ⟨-, h2, h3, h4, h5, h6, h7, h8⟩ := h.cgn hv
  obtain ⟨⟨e1, e2, e3, e4⟩, e5, e6⟩ := hp
  refine ⟨⟨fun _ _ _ => ⟨rfl, rfl⟩, rfl, rfl⟩, ?_, h3, ?_, fun c hc => (h5 c hc).cg (e5 _ (by omega)) (by rw [e4]), ⟨fun t q => (h6.1 t q).cg (fun i _ => ?_) (by rw [e2]; exact Nat.le_refl _), h6.2⟩, ⟨fun k hk => ⟨by rw [e4]; exact (h7.1 k hk).1, (h7.1 k hk).2.cg ⟨by rw [e1], ?_, by rw [e4]⟩ (by rw [e2]; exact Nat.le_refl _)⟩, fun k k1 k2 => by rw [e4]; exact h7.2.1 k k1 k2, h7.2.2⟩, by rw [e2]; exact h8.1, by rw [e3]; exact h8.2⟩
  · unfold ShP
    rw [e1, e4, e2]
    exact h2
  · obtain ⟨a, b, c⟩ := h4
    refine ⟨?_, fun r r1 r2 => ?_, fun i hi => ?_⟩
    · rw [e5 1 (by decide)]; exact a
    · rw [e5 25 (by decide)]; exact b r r1 r2
    · rw [e5 (5 + i) (by omega)]; exact c i hi
  · have l := (h6.1 t q).1.1
    exact ⟨by rw [e1], e5 _ (by omega), e6 _ (by omega), by rw [e4]⟩
  · have l := (h7.1 k hk).2.1.1
    exact e5 _ (by omega)
theorem SM.vq {ρ μ : xM} (h : SM ρ μ) : Vq ρ μ := ⟨fun a a1 a2 _ => (h.1 a a1 a2).2, h.2.1⟩
theorem SM.shm {ρ μ : xM} (h : SM ρ μ) (hM : ShM ρ) : ShM μ := by
  refine ⟨fun a a1 a2 => ?_, fun k hk => ?_⟩
  · rw [(h.1 a a1 a2).1]; exact hM.1 a a1 a2
  · rw [h.2.2]; exact hM.2 k hk
