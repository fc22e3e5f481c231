/-! both sides of a call, first part (laid by wip/whole/mko1.py) -/
def GG (nf nc ns : Nat) (μ : xM) : Prop := ∃ φ κ, Rel μ μ μ φ κ (nf, nc, ns, fun _ => False) ∧ ShM μ
def Oi (k4 k5 : xk) (as : List Value) (G : xM → Prop) (μ : xM) : Prop := Mt k4 (.ref 1 :: as) μ (fun r μ1 => ∃ v : Int32, r = some (.int v) ∧ mT μ1 44 = (5, 0) ∧ Mt k5 (.ref 44 :: as) μ1 (fun r' μ2 => r' = some (.int v) ∧ G μ2))
def Ol (k4 k5 : xk) (as : List Value) (G : xM → Prop) (μ : xM) : Prop := Mt k4 (.ref 1 :: as) μ (fun r μ1 => ∃ v : Int64, r = some (.long v) ∧ mT μ1 44 = (5, 0) ∧ Mt k5 (.ref 44 :: as) μ1 (fun r' μ2 => r' = some (.long v) ∧ G μ2))
theorem Rel.upB {ρ ν μ : xM} {φ κ : Nat → Nat} {E : Nat → Prop} {a b c a' b' c' : Nat} (h : Rel ρ ν μ φ κ (a, b, c, E)) (h1 : a ≤ a') (h2 : b ≤ b') (h3 : c ≤ c') : Rel ρ ν μ φ κ (a', b', c', E) := by
  obtain ⟨g1, g2, ⟨w1, w2, w3, w4, w5⟩, g4, g5, g6, g7, g8⟩ := h
  exact ⟨g1, g2, ⟨w1, w2, w3, ⟨w4.1, Nat.le_trans w4.2 h1⟩, w5⟩, g4, g5, g6, g7, Nat.le_trans g8.1 h2, Nat.le_trans g8.2 h3⟩
theorem GG.of {ρ ν μ μ2 : xM} {φ κ : Nat → Nat} {a b c a' b' c' : Nat} (h : Rel ρ ν μ φ κ (a, b, c, fun _ => False)) (hM : ShM μ) (h1 : a ≤ a') (h2 : b ≤ b') (h3 : c ≤ c') (hv : Vq ν μ2) (hp : Pq μ μ2) : GG a' b' c' μ2 := ⟨φ, κ, (h.turn hv hp).upB h1 h2 h3, hM.pq hp⟩
theorem o_tape_o1 {c k n : Int32} {μ : xM} {φ κ : Nat → Nat} {nf nc ns : Nat} (hR : Rel μ μ μ φ κ (nf, nc, ns, fun _ => False)) (hM : ShM μ) (hc : rng c 16 = none) : Oi kX4_tape kX5_tape [.int (c), .int (k), .int (n)] (GG (nf + 40) (nc + 4) (ns + 101)) μ := by
  refine c_tape_o1 hR hc (fun μ1 hr => ?_)
  have hv := hr.1.vq
  have hM1 := hr.1.shm hM
  have hR1 := hR.cgn hv
  exact ⟨_, rfl, hM1.1 44 (by decide) (by decide), m_tape_o1 hc (⟨by rfl, GG.of hr hM1 (by omega) (by omega) (by omega) hv (Pq.rf _)⟩)⟩
theorem o_tape_o2 {a : Nat} {k n : Int32} {μ : xM} {φ κ : Nat → Nat} {nf nc ns : Nat} (hR : Rel μ μ μ φ κ (nf, nc, ns, fun _ => False)) (hM : ShM μ) (ha : a < 16) (hk : rng k 11 = none) : Oi kX4_tape kX5_tape [.int (nI a), .int (k), .int (n)] (GG (nf + 40) (nc + 4) (ns + 101)) μ := by
  refine c_tape_o2 hR ha hk (fun μ1 hr => ?_)
  have hv := hr.1.vq
  have hM1 := hr.1.shm hM
  have hR1 := hR.cgn hv
  exact ⟨_, rfl, hM1.1 44 (by decide) (by decide), m_tape_o2 ha hk (⟨by rfl, GG.of hr hM1 (by omega) (by omega) (by omega) hv (Pq.rf _)⟩)⟩
theorem o_tape_o3 {a k : Nat} {n : Int32} {μ : xM} {φ κ : Nat → Nat} {nf nc ns : Nat} (hR : Rel μ μ μ φ κ (nf, nc, ns, fun _ => False)) (hM : ShM μ) (ha : a < 16) (hk : k ≤ 10) (hn : 32 < n) : Oi kX4_tape kX5_tape [.int (nI a), .int (nI k), .int (n)] (GG (nf + 40) (nc + 4) (ns + 101)) μ := by
  refine c_tape_o3 hR ha hk hn (fun μ1 hr => ?_)
  have hv := hr.1.vq
  have hM1 := hr.1.shm hM
  have hR1 := hR.cgn hv
  exact ⟨_, rfl, hM1.1 44 (by decide) (by decide), m_tape_o3 ha hk hn (⟨by rfl, GG.of hr hM1 (by omega) (by omega) (by omega) hv (Pq.rf _)⟩)⟩
theorem o_tape_neg {a k : Nat} {n : Int32} {μ : xM} {φ κ : Nat → Nat} {nf nc ns : Nat} (hR : Rel μ μ μ φ κ (nf, nc, ns, fun _ => False)) (hM : ShM μ) (ha : a < 16) (hk : k ≤ 10) (hn : n < 0) : Oi kX4_tape kX5_tape [.int (nI a), .int (nI k), .int (n)] (GG (nf + 40) (nc + 4) (ns + 101)) μ := by
  refine c_tape_neg hR ha hk hn (fun μ1 hr => ?_)
  have hv := hr.1.vq
  have hM1 := hr.1.shm hM
  have hR1 := hR.cgn hv
  exact ⟨_, rfl, hM1.1 44 (by decide) (by decide), m_tape_neg hM1 ha hk hn (⟨by rfl, GG.of hr hM1 (by omega) (by omega) (by omega) (hv.y_met 5) (pq_met _ _)⟩)⟩
theorem o_plug_o {c : Int32} {μ : xM} {φ κ : Nat → Nat} {nf nc ns : Nat} (hR : Rel μ μ μ φ κ (nf, nc, ns, fun _ => False)) (hM : ShM μ) (hc : rng c 16 = none) : Oi kX4_plug kX5_plug [.int (c)] (GG (nf + 40) (nc + 4) (ns + 101)) μ := by
  refine c_plug_o hR hc (fun μ1 hr => ?_)
  have hv := hr.1.vq
  have hM1 := hr.1.shm hM
  have hR1 := hR.cgn hv
  exact ⟨_, rfl, hM1.1 44 (by decide) (by decide), m_plug_o hc (⟨by rfl, GG.of hr hM1 (by omega) (by omega) (by omega) hv (Pq.rf _)⟩)⟩
theorem o_plug_in {a : Nat} {μ : xM} {φ κ : Nat → Nat} {nf nc ns : Nat} (hR : Rel μ μ μ φ κ (nf, nc, ns, fun _ => False)) (hM : ShM μ) (ha : a < 16) : Oi kX4_plug kX5_plug [.int (nI a)] (GG (nf + 40) (nc + 4) (ns + 101)) μ := by
  refine c_plug_in hR ha (fun μ1 hr => ?_)
  have hv := hr.1.vq
  have hM1 := hr.1.shm hM
  have hR1 := hR.cgn hv
  exact ⟨_, rfl, hM1.1 44 (by decide) (by decide), m_plug_in hM1 ha (⟨by rw [hv.y_so], GG.of hr hM1 (by omega) (by omega) (by omega) (hv.y_sI 50 a (-2)) (pq_sI _ _ _ _ (by decide) (by decide))⟩)⟩
theorem o_strip_o {c : Int32} {μ : xM} {φ κ : Nat → Nat} {nf nc ns : Nat} (hR : Rel μ μ μ φ κ (nf, nc, ns, fun _ => False)) (hM : ShM μ) (hc : rng c 16 = none) : Oi kX4_strip kX5_strip [.int (c)] (GG (nf + 40) (nc + 4) (ns + 101)) μ := by
  refine c_strip_o hR hc (fun μ1 hr => ?_)
  have hv := hr.1.vq
  have hM1 := hr.1.shm hM
  have hR1 := hR.cgn hv
  exact ⟨_, rfl, hM1.1 44 (by decide) (by decide), m_strip_o hc (⟨by rfl, GG.of hr hM1 (by omega) (by omega) (by omega) hv (Pq.rf _)⟩)⟩
theorem o_strip_in {a : Nat} {μ : xM} {φ κ : Nat → Nat} {nf nc ns : Nat} (hR : Rel μ μ μ φ κ (nf, nc, ns, fun _ => False)) (hM : ShM μ) (ha : a < 16) : Oi kX4_strip kX5_strip [.int (nI a)] (GG (nf + 40) (nc + 4) (ns + 101)) μ := by
  refine c_strip_in hR ha (fun μ1 hr => ?_)
  have hv := hr.1.vq
  have hM1 := hr.1.shm hM
  have hR1 := hR.cgn hv
  exact ⟨_, rfl, hM1.1 44 (by decide) (by decide), m_strip_in hM1 ha (⟨by rw [hv.y_so], GG.of hr hM1 (by omega) (by omega) (by omega) (hv.y_sI 50 a (-1)) (pq_sI _ _ _ _ (by decide) (by decide))⟩)⟩
theorem o_share_o1 {c d : Int32} {μ : xM} {φ κ : Nat → Nat} {nf nc ns : Nat} (hR : Rel μ μ μ φ κ (nf, nc, ns, fun _ => False)) (hM : ShM μ) (hc : rng c 16 = none) : Oi kX4_share kX5_share [.int (c), .int (d)] (GG (nf + 40) (nc + 4) (ns + 101)) μ := by
  refine c_share_o1 hR hc (fun μ1 hr => ?_)
  have hv := hr.1.vq
  have hM1 := hr.1.shm hM
  have hR1 := hR.cgn hv
  exact ⟨_, rfl, hM1.1 44 (by decide) (by decide), m_share_o1 hc (⟨by rfl, GG.of hr hM1 (by omega) (by omega) (by omega) hv (Pq.rf _)⟩)⟩
theorem o_share_o2 {a : Nat} {d : Int32} {μ : xM} {φ κ : Nat → Nat} {nf nc ns : Nat} (hR : Rel μ μ μ φ κ (nf, nc, ns, fun _ => False)) (hM : ShM μ) (ha : a < 16) (hd : rng d 16 = none) : Oi kX4_share kX5_share [.int (nI a), .int (d)] (GG (nf + 40) (nc + 4) (ns + 101)) μ := by
  refine c_share_o2 hR ha hd (fun μ1 hr => ?_)
  have hv := hr.1.vq
  have hM1 := hr.1.shm hM
  have hR1 := hR.cgn hv
  exact ⟨_, rfl, hM1.1 44 (by decide) (by decide), m_share_o2 ha hd (⟨by rfl, GG.of hr hM1 (by omega) (by omega) (by omega) hv (Pq.rf _)⟩)⟩
theorem o_share_in {a b : Nat} {μ : xM} {φ κ : Nat → Nat} {nf nc ns : Nat} (hR : Rel μ μ μ φ κ (nf, nc, ns, fun _ => False)) (hM : ShM μ) (ha : a < 16) (hb : b < 16) : Oi kX4_share kX5_share [.int (nI a), .int (nI b)] (GG (nf + 40) (nc + 4) (ns + 101)) μ := by
  refine c_share_in hR ha hb (fun μ1 hr => ?_)
  have hv := hr.1.vq
  have hM1 := hr.1.shm hM
  have hR1 := hR.cgn hv
  exact ⟨_, rfl, hM1.1 44 (by decide) (by decide), m_share_in hM1 ha hb (⟨by rw [hv.y_so], GG.of hr hM1 (by omega) (by omega) (by omega) (by rw [hv.y_i 50 b (by decide) (by decide) (by decide)]; exact hv.y_sI 50 a _) (pq_sI _ _ _ _ (by decide) (by decide))⟩)⟩
theorem o_head_o {c p : Int32} {μ : xM} {φ κ : Nat → Nat} {nf nc ns : Nat} (hR : Rel μ μ μ φ κ (nf, nc, ns, fun _ => False)) (hM : ShM μ) (hc : rng c 16 = none) : Oi kX4_head kX5_head [.int (c), .int (p)] (GG (nf + 40) (nc + 4) (ns + 101)) μ := by
  refine c_head_o hR hc (fun μ1 hr => ?_)
  have hv := hr.1.vq
  have hM1 := hr.1.shm hM
  have hR1 := hR.cgn hv
  exact ⟨_, rfl, hM1.1 44 (by decide) (by decide), m_head_o hc (⟨by rfl, GG.of hr hM1 (by omega) (by omega) (by omega) hv (Pq.rf _)⟩)⟩
theorem o_head_in {a : Nat} {p : Int32} {μ : xM} {φ κ : Nat → Nat} {nf nc ns : Nat} (hR : Rel μ μ μ φ κ (nf, nc, ns, fun _ => False)) (hM : ShM μ) (ha : a < 16) : Oi kX4_head kX5_head [.int (nI a), .int (p)] (GG (nf + 40) (nc + 4) (ns + 101)) μ := by
  refine c_head_in hR ha (fun μ1 hr => ?_)
  have hv := hr.1.vq
  have hM1 := hr.1.shm hM
  have hR1 := hR.cgn hv
  exact ⟨_, rfl, hM1.1 44 (by decide) (by decide), m_head_in hM1 ha (⟨by rfl, GG.of hr hM1 (by omega) (by omega) (by omega) (hv.y_sI 51 a p) (pq_sI _ _ _ _ (by decide) (by decide))⟩)⟩
theorem o_step_o1 {c p : Int32} {μ : xM} {φ κ : Nat → Nat} {nf nc ns : Nat} (hR : Rel μ μ μ φ κ (nf, nc, ns, fun _ => False)) (hM : ShM μ) (hc : rng c 16 = none) : Oi kX4_step kX5_step [.int (c), .int (p)] (GG (nf + 40) (nc + 4) (ns + 101)) μ := by
  refine c_step_o1 hR hc (fun μ1 hr => ?_)
  have hv := hr.1.vq
  have hM1 := hr.1.shm hM
  have hR1 := hR.cgn hv
  exact ⟨_, rfl, hM1.1 44 (by decide) (by decide), m_step_o1 hc (⟨by rfl, GG.of hr hM1 (by omega) (by omega) (by omega) hv (Pq.rf _)⟩)⟩
theorem o_step_o2 {a : Nat} {p : Int32} {μ : xM} {φ κ : Nat → Nat} {nf nc ns : Nat} (hR : Rel μ μ μ φ κ (nf, nc, ns, fun _ => False)) (hM : ShM μ) (ha : a < 16) (hp : ¬ (-3 ≤ p ∧ p ≤ 3)) : Oi kX4_step kX5_step [.int (nI a), .int (p)] (GG (nf + 40) (nc + 4) (ns + 101)) μ := by
  refine c_step_o2 hR ha hp (fun μ1 hr => ?_)
  have hv := hr.1.vq
  have hM1 := hr.1.shm hM
  have hR1 := hR.cgn hv
  exact ⟨_, rfl, hM1.1 44 (by decide) (by decide), m_step_o2 ha hp (⟨by rfl, GG.of hr hM1 (by omega) (by omega) (by omega) hv (Pq.rf _)⟩)⟩
theorem o_step_in {a : Nat} {p : Int32} {μ : xM} {φ κ : Nat → Nat} {nf nc ns : Nat} (hR : Rel μ μ μ φ κ (nf, nc, ns, fun _ => False)) (hM : ShM μ) (ha : a < 16) (hp : -3 ≤ p ∧ p ≤ 3) : Oi kX4_step kX5_step [.int (nI a), .int (p)] (GG (nf + 40) (nc + 4) (ns + 101)) μ := by
  refine c_step_in hR ha hp (fun μ1 hr => ?_)
  have hv := hr.1.vq
  have hM1 := hr.1.shm hM
  have hR1 := hR.cgn hv
  exact ⟨_, rfl, hM1.1 44 (by decide) (by decide), m_step_in hM1 ha hp (⟨by rw [hv.y_i 52 a (by decide) (by decide) (by decide)], GG.of hr hM1 (by omega) (by omega) (by omega) (hv.y_sI 52 a p) (pq_sI _ _ _ _ (by decide) (by decide))⟩)⟩
theorem o_loop_o {c b : Int32} {μ : xM} {φ κ : Nat → Nat} {nf nc ns : Nat} (hR : Rel μ μ μ φ κ (nf, nc, ns, fun _ => False)) (hM : ShM μ) (hc : rng c 16 = none) : Oi kX4_loop kX5_loop [.int (c), .int (b)] (GG (nf + 40) (nc + 4) (ns + 101)) μ := by
  refine c_loop_o hR hc (fun μ1 hr => ?_)
  have hv := hr.1.vq
  have hM1 := hr.1.shm hM
  have hR1 := hR.cgn hv
  exact ⟨_, rfl, hM1.1 44 (by decide) (by decide), m_loop_o hc (⟨by rfl, GG.of hr hM1 (by omega) (by omega) (by omega) hv (Pq.rf _)⟩)⟩
theorem o_loop_in {a : Nat} {b : Int32} {μ : xM} {φ κ : Nat → Nat} {nf nc ns : Nat} (hR : Rel μ μ μ φ κ (nf, nc, ns, fun _ => False)) (hM : ShM μ) (ha : a < 16) (hb : b = 0 ∨ b = 1) : Oi kX4_loop kX5_loop [.int (nI a), .int (b)] (GG (nf + 40) (nc + 4) (ns + 101)) μ := by
  refine c_loop_in hR ha hb (fun μ1 hr => ?_)
  have hv := hr.1.vq
  have hM1 := hr.1.shm hM
  have hR1 := hR.cgn hv
  exact ⟨_, rfl, hM1.1 44 (by decide) (by decide), m_loop_in hM1 ha hb (⟨by rw [hv.y_i 53 a (by decide) (by decide) (by decide)], GG.of hr hM1 (by omega) (by omega) (by omega) (hv.y_sI 53 a b) (pq_sI _ _ _ _ (by decide) (by decide))⟩)⟩
theorem o_why_in  {μ : xM} {φ κ : Nat → Nat} {nf nc ns : Nat} (hR : Rel μ μ μ φ κ (nf, nc, ns, fun _ => False)) (hM : ShM μ)  : Oi kX4_why kX5_why [] (GG (nf + 40) (nc + 4) (ns + 101)) μ := by
  refine c_why_in hR  (fun μ1 hr => ?_)
  have hv := hr.1.vq
  have hM1 := hr.1.shm hM
  have hR1 := hR.cgn hv
  exact ⟨_, rfl, hM1.1 44 (by decide) (by decide), m_why_in hM1 (⟨by rw [hv.y_i 44 25 (by decide) (by decide) (by decide)], GG.of hr hM1 (by omega) (by omega) (by omega) hv (Pq.rf _)⟩)⟩
theorem o_of_o1 {c w : Int32} {μ : xM} {φ κ : Nat → Nat} {nf nc ns : Nat} (hR : Rel μ μ μ φ κ (nf, nc, ns, fun _ => False)) (hM : ShM μ) (hc : rng c 16 = none) : Oi kX4_of kX5_of [.int (c), .int (w)] (GG (nf + 40) (nc + 4) (ns + 101)) μ := by
  refine c_of_o1 hR hc (fun μ1 hr => ?_)
  have hv := hr.1.vq
  have hM1 := hr.1.shm hM
  have hR1 := hR.cgn hv
  exact ⟨_, rfl, hM1.1 44 (by decide) (by decide), m_of_o1 hc (⟨by rfl, GG.of hr hM1 (by omega) (by omega) (by omega) hv (Pq.rf _)⟩)⟩
theorem o_of_o2 {a : Nat} {w : Int32} {μ : xM} {φ κ : Nat → Nat} {nf nc ns : Nat} (hR : Rel μ μ μ φ κ (nf, nc, ns, fun _ => False)) (hM : ShM μ) (ha : a < 16) (hw : rng w 4 = none) : Oi kX4_of kX5_of [.int (nI a), .int (w)] (GG (nf + 40) (nc + 4) (ns + 101)) μ := by
  refine c_of_o2 hR ha hw (fun μ1 hr => ?_)
  have hv := hr.1.vq
  have hM1 := hr.1.shm hM
  have hR1 := hR.cgn hv
  exact ⟨_, rfl, hM1.1 44 (by decide) (by decide), m_of_o2 ha hw (⟨by rfl, GG.of hr hM1 (by omega) (by omega) (by omega) hv (Pq.rf _)⟩)⟩
theorem o_of_0 {a : Nat} {μ : xM} {φ κ : Nat → Nat} {nf nc ns : Nat} (hR : Rel μ μ μ φ κ (nf, nc, ns, fun _ => False)) (hM : ShM μ) (ha : a < 16) : Oi kX4_of kX5_of [.int (nI a), .int (0)] (GG (nf + 40) (nc + 4) (ns + 101)) μ := by
  refine c_of_0 hR ha (fun μ1 hr => ?_)
  have hv := hr.1.vq
  have hM1 := hr.1.shm hM
  have hR1 := hR.cgn hv
  exact ⟨_, rfl, hM1.1 44 (by decide) (by decide), m_of_0 hM1 ha (⟨by rw [hv.y_i 51 a (by decide) (by decide) (by decide)], GG.of hr hM1 (by omega) (by omega) (by omega) hv (Pq.rf _)⟩)⟩
theorem o_of_1 {a : Nat} {μ : xM} {φ κ : Nat → Nat} {nf nc ns : Nat} (hR : Rel μ μ μ φ κ (nf, nc, ns, fun _ => False)) (hM : ShM μ) (ha : a < 16) : Oi kX4_of kX5_of [.int (nI a), .int (1)] (GG (nf + 40) (nc + 4) (ns + 101)) μ := by
  refine c_of_1 hR ha (fun μ1 hr => ?_)
  have hv := hr.1.vq
  have hM1 := hr.1.shm hM
  have hR1 := hR.cgn hv
  exact ⟨_, rfl, hM1.1 44 (by decide) (by decide), m_of_1 hM1 ha (⟨by rw [hv.y_i 52 a (by decide) (by decide) (by decide)], GG.of hr hM1 (by omega) (by omega) (by omega) hv (Pq.rf _)⟩)⟩
theorem o_of_2 {a : Nat} {μ : xM} {φ κ : Nat → Nat} {nf nc ns : Nat} (hR : Rel μ μ μ φ κ (nf, nc, ns, fun _ => False)) (hM : ShM μ) (ha : a < 16) : Oi kX4_of kX5_of [.int (nI a), .int (2)] (GG (nf + 40) (nc + 4) (ns + 101)) μ := by
  refine c_of_2 hR ha (fun μ1 hr => ?_)
  have hv := hr.1.vq
  have hM1 := hr.1.shm hM
  have hR1 := hR.cgn hv
  exact ⟨_, rfl, hM1.1 44 (by decide) (by decide), m_of_2 hM1 ha (⟨by rw [hv.y_i 53 a (by decide) (by decide) (by decide)], GG.of hr hM1 (by omega) (by omega) (by omega) hv (Pq.rf _)⟩)⟩
theorem o_of_3 {a : Nat} {μ : xM} {φ κ : Nat → Nat} {nf nc ns : Nat} (hR : Rel μ μ μ φ κ (nf, nc, ns, fun _ => False)) (hM : ShM μ) (ha : a < 16) : Oi kX4_of kX5_of [.int (nI a), .int (3)] (GG (nf + 40) (nc + 4) (ns + 101)) μ := by
  refine c_of_3 hR ha (fun μ1 hr => ?_)
  have hv := hr.1.vq
  have hM1 := hr.1.shm hM
  have hR1 := hR.cgn hv
  exact ⟨_, rfl, hM1.1 44 (by decide) (by decide), m_of_3 hM1 ha (⟨by rw [hv.y_so], GG.of hr hM1 (by omega) (by omega) (by omega) hv (Pq.rf _)⟩)⟩
theorem o_cells_o {c : Int32} {μ : xM} {φ κ : Nat → Nat} {nf nc ns : Nat} (hR : Rel μ μ μ φ κ (nf, nc, ns, fun _ => False)) (hM : ShM μ) (hc : rng c 16 = none) : Oi kX4_cells kX5_cells [.int (c)] (GG (nf + 40) (nc + 4) (ns + 101)) μ := by
  refine c_cells_o hR hc (fun μ1 hr => ?_)
  have hv := hr.1.vq
  have hM1 := hr.1.shm hM
  have hR1 := hR.cgn hv
  exact ⟨_, rfl, hM1.1 44 (by decide) (by decide), m_cells_o hc (⟨by rfl, GG.of hr hM1 (by omega) (by omega) (by omega) hv (Pq.rf _)⟩)⟩
theorem o_cells_r {a : Nat} {μ : xM} {φ κ : Nat → Nat} {nf nc ns : Nat} (hR : Rel μ μ μ φ κ (nf, nc, ns, fun _ => False)) (hM : ShM μ) (ha : a < 16) (h0 : ¬ noTapeM μ a = 0) : Oi kX4_cells kX5_cells [.int (nI a)] (GG (nf + 40) (nc + 4) (ns + 101)) μ := by
  refine c_cells_r hR ha h0 (fun μ1 hr => ?_)
  have hv := hr.1.vq
  have hM1 := hr.1.shm hM
  have hR1 := hR.cgn hv
  exact ⟨_, rfl, hM1.1 44 (by decide) (by decide), m_cells_r hM1 hR1.wt ha (by rw [hv.y_nt]; exact h0) (⟨by rw [hv.y_nt], GG.of hr hM1 (by omega) (by omega) (by omega) (by rw [hv.y_nt]; exact hv.y_met _) (pq_met _ _)⟩)⟩
theorem o_cells_in {a : Nat} {μ : xM} {φ κ : Nat → Nat} {nf nc ns : Nat} (hR : Rel μ μ μ φ κ (nf, nc, ns, fun _ => False)) (hM : ShM μ) (ha : a < 16) (h0 : noTapeM μ a = 0) : Oi kX4_cells kX5_cells [.int (nI a)] (GG (nf + 40) (nc + 4) (ns + 101)) μ := by
  refine c_cells_in hR ha h0 (fun μ1 hr => ?_)
  have hv := hr.1.vq
  have hM1 := hr.1.shm hM
  have hR1 := hR.cgn hv
  exact ⟨_, rfl, hM1.1 44 (by decide) (by decide), m_cells_in hM1 hR1.wt ha (by rw [hv.y_nt]; exact h0) (⟨by rw [hv.y_tp, hv.y_sz], GG.of hr hM1 (by omega) (by omega) (by omega) (hv.y_met _) (pq_met _ _)⟩)⟩
theorem o_kind_o {c i : Int32} {μ : xM} {φ κ : Nat → Nat} {nf nc ns : Nat} (hR : Rel μ μ μ φ κ (nf, nc, ns, fun _ => False)) (hM : ShM μ) (hc : rng c 16 = none) : Oi kX4_kind kX5_kind [.int (c), .int (i)] (GG (nf + 40) (nc + 4) (ns + 101)) μ := by
  refine c_kind_o hR hc (fun μ1 hr => ?_)
  have hv := hr.1.vq
  have hM1 := hr.1.shm hM
  have hR1 := hR.cgn hv
  exact ⟨_, rfl, hM1.1 44 (by decide) (by decide), m_kind_o hc (⟨by rfl, GG.of hr hM1 (by omega) (by omega) (by omega) hv (Pq.rf _)⟩)⟩
theorem o_kind_r {a : Nat} {i : Int32} {μ : xM} {φ κ : Nat → Nat} {nf nc ns : Nat} (hR : Rel μ μ μ φ κ (nf, nc, ns, fun _ => False)) (hM : ShM μ) (ha : a < 16) (hz : ¬ noPlaceM μ a i = 0) : Oi kX4_kind kX5_kind [.int (nI a), .int (i)] (GG (nf + 40) (nc + 4) (ns + 101)) μ := by
  refine c_kind_r hR ha hz (fun μ1 hr => ?_)
  have hv := hr.1.vq
  have hM1 := hr.1.shm hM
  have hR1 := hR.cgn hv
  exact ⟨_, rfl, hM1.1 44 (by decide) (by decide), m_kind_r hM1 hR1.wt ha (by rw [hv.y_np]; exact hz) (⟨by rw [hv.y_np], GG.of hr hM1 (by omega) (by omega) (by omega) (by rw [hv.y_np]; exact hv.y_met _) (pq_met _ _)⟩)⟩
theorem o_kind_in {a : Nat} {i : Int32} {μ : xM} {φ κ : Nat → Nat} {nf nc ns : Nat} (hR : Rel μ μ μ φ κ (nf, nc, ns, fun _ => False)) (hM : ShM μ) (ha : a < 16) (hz : noPlaceM μ a i = 0) : Oi kX4_kind kX5_kind [.int (nI a), .int (i)] (GG (nf + 40) (nc + 4) (ns + 101)) μ := by
  refine c_kind_in hR ha hz (fun μ1 hr => ?_)
  have hv := hr.1.vq
  have hM1 := hr.1.shm hM
  have hR1 := hR.cgn hv
  exact ⟨_, rfl, hM1.1 44 (by decide) (by decide), m_kind_in hM1 hR1.wt ha (by rw [hv.y_np]; exact hz) (⟨by rw [hv.y_tp, hv.y_ck], GG.of hr hM1 (by omega) (by omega) (by omega) (hv.y_met _) (pq_met _ _)⟩)⟩
theorem o_number_o {c i : Int32} {μ : xM} {φ κ : Nat → Nat} {nf nc ns : Nat} (hR : Rel μ μ μ φ κ (nf, nc, ns, fun _ => False)) (hM : ShM μ) (hc : rng c 16 = none) : Ol kX4_number kX5_number [.int (c), .int (i)] (GG (nf + 40) (nc + 4) (ns + 101)) μ := by
  refine c_number_o hR hc (fun μ1 hr => ?_)
  have hv := hr.1.vq
  have hM1 := hr.1.shm hM
  have hR1 := hR.cgn hv
  exact ⟨_, rfl, hM1.1 44 (by decide) (by decide), m_number_o hc (⟨by rfl, GG.of hr hM1 (by omega) (by omega) (by omega) hv (Pq.rf _)⟩)⟩
theorem o_number_r {a : Nat} {i : Int32} {μ : xM} {φ κ : Nat → Nat} {nf nc ns : Nat} (hR : Rel μ μ μ φ κ (nf, nc, ns, fun _ => False)) (hM : ShM μ) (ha : a < 16) (hz : ¬ noPlaceM μ a i = 0) : Ol kX4_number kX5_number [.int (nI a), .int (i)] (GG (nf + 40) (nc + 4) (ns + 101)) μ := by
  refine c_number_r hR ha hz (fun μ1 hr => ?_)
  have hv := hr.1.vq
  have hM1 := hr.1.shm hM
  have hR1 := hR.cgn hv
  exact ⟨_, rfl, hM1.1 44 (by decide) (by decide), m_number_r hM1 hR1.wt ha (by rw [hv.y_np]; exact hz) (⟨by rfl, GG.of hr hM1 (by omega) (by omega) (by omega) (by rw [hv.y_np]; exact hv.y_met _) (pq_met _ _)⟩)⟩
theorem o_number_in {a : Nat} {i : Int32} {μ : xM} {φ κ : Nat → Nat} {nf nc ns : Nat} (hR : Rel μ μ μ φ κ (nf, nc, ns, fun _ => False)) (hM : ShM μ) (ha : a < 16) (hz : noPlaceM μ a i = 0) : Ol kX4_number kX5_number [.int (nI a), .int (i)] (GG (nf + 40) (nc + 4) (ns + 101)) μ := by
  refine c_number_in hR ha hz (fun μ1 hr => ?_)
  have hv := hr.1.vq
  have hM1 := hr.1.shm hM
  have hR1 := hR.cgn hv
  exact ⟨_, rfl, hM1.1 44 (by decide) (by decide), m_number_in hM1 hR1.wt ha (by rw [hv.y_np]; exact hz) (⟨by rw [hv.y_tp, hv.y_nu], GG.of hr hM1 (by omega) (by omega) (by omega) (hv.y_met _) (pq_met _ _)⟩)⟩
theorem o_told_o1 {c w : Int32} {μ : xM} {φ κ : Nat → Nat} {nf nc ns : Nat} (hR : Rel μ μ μ φ κ (nf, nc, ns, fun _ => False)) (hM : ShM μ) (hc : rng c (qM μ) = none) : Oi kX4_told kX5_told [.int (c), .int (w)] (GG (nf + 40) (nc + 4) (ns + 101)) μ := by
  refine c_told_o1 hR hc (fun μ1 hr => ?_)
  have hv := hr.1.vq
  have hM1 := hr.1.shm hM
  have hR1 := hR.cgn hv
  exact ⟨_, rfl, hM1.1 44 (by decide) (by decide), m_told_o1 hM1 hR1.wc (by rw [hv.y_q]; exact hc) (⟨by rfl, GG.of hr hM1 (by omega) (by omega) (by omega) hv (Pq.rf _)⟩)⟩
theorem o_told_o2 {k : Nat} {w : Int32} {μ : xM} {φ κ : Nat → Nat} {nf nc ns : Nat} (hR : Rel μ μ μ φ κ (nf, nc, ns, fun _ => False)) (hM : ShM μ) (hk : k < qM μ) (hw : rng w 8 = none) : Oi kX4_told kX5_told [.int (nI k), .int (w)] (GG (nf + 40) (nc + 4) (ns + 101)) μ := by
  refine c_told_o2 hR hk hw (fun μ1 hr => ?_)
  have hv := hr.1.vq
  have hM1 := hr.1.shm hM
  have hR1 := hR.cgn hv
  exact ⟨_, rfl, hM1.1 44 (by decide) (by decide), m_told_o2 hM1 hR1.wc (by rw [hv.y_q]; exact hk) hw (⟨by rfl, GG.of hr hM1 (by omega) (by omega) (by omega) hv (Pq.rf _)⟩)⟩
theorem o_told_0 {k : Nat} {μ : xM} {φ κ : Nat → Nat} {nf nc ns : Nat} (hR : Rel μ μ μ φ κ (nf, nc, ns, fun _ => False)) (hM : ShM μ) (hk : k < qM μ) : Oi kX4_told kX5_told [.int (nI k), .int (0)] (GG (nf + 40) (nc + 4) (ns + 101)) μ := by
  refine c_told_0 hR hk (fun μ1 hr => ?_)
  have hv := hr.1.vq
  have hM1 := hr.1.shm hM
  have hR1 := hR.cgn hv
  exact ⟨_, rfl, hM1.1 44 (by decide) (by decide), m_told_0 hM1 hR1.wc (by rw [hv.y_q]; exact hk) (⟨by rw [hv.y_i 54 k (by decide) (by decide) (by decide)], GG.of hr hM1 (by omega) (by omega) (by omega) hv (Pq.rf _)⟩)⟩
theorem o_told_1 {k : Nat} {μ : xM} {φ κ : Nat → Nat} {nf nc ns : Nat} (hR : Rel μ μ μ φ κ (nf, nc, ns, fun _ => False)) (hM : ShM μ) (hk : k < qM μ) : Oi kX4_told kX5_told [.int (nI k), .int (1)] (GG (nf + 40) (nc + 4) (ns + 101)) μ := by
  refine c_told_1 hR hk (fun μ1 hr => ?_)
  have hv := hr.1.vq
  have hM1 := hr.1.shm hM
  have hR1 := hR.cgn hv
  exact ⟨_, rfl, hM1.1 44 (by decide) (by decide), m_told_1 hM1 hR1.wc (by rw [hv.y_q]; exact hk) (⟨by rw [hv.y_i 55 k (by decide) (by decide) (by decide)], GG.of hr hM1 (by omega) (by omega) (by omega) hv (Pq.rf _)⟩)⟩
theorem o_told_2 {k : Nat} {μ : xM} {φ κ : Nat → Nat} {nf nc ns : Nat} (hR : Rel μ μ μ φ κ (nf, nc, ns, fun _ => False)) (hM : ShM μ) (hk : k < qM μ) : Oi kX4_told kX5_told [.int (nI k), .int (2)] (GG (nf + 40) (nc + 4) (ns + 101)) μ := by
  refine c_told_2 hR hk (fun μ1 hr => ?_)
  have hv := hr.1.vq
  have hM1 := hr.1.shm hM
  have hR1 := hR.cgn hv
  exact ⟨_, rfl, hM1.1 44 (by decide) (by decide), m_told_2 hM1 hR1.wc (by rw [hv.y_q]; exact hk) (⟨by rw [hv.y_i 56 k (by decide) (by decide) (by decide)], GG.of hr hM1 (by omega) (by omega) (by omega) hv (Pq.rf _)⟩)⟩
theorem o_told_3 {k : Nat} {μ : xM} {φ κ : Nat → Nat} {nf nc ns : Nat} (hR : Rel μ μ μ φ κ (nf, nc, ns, fun _ => False)) (hM : ShM μ) (hk : k < qM μ) : Oi kX4_told kX5_told [.int (nI k), .int (3)] (GG (nf + 40) (nc + 4) (ns + 101)) μ := by
  refine c_told_3 hR hk (fun μ1 hr => ?_)
  have hv := hr.1.vq
  have hM1 := hr.1.shm hM
  have hR1 := hR.cgn hv
  exact ⟨_, rfl, hM1.1 44 (by decide) (by decide), m_told_3 hM1 hR1.wc (by rw [hv.y_q]; exact hk) (⟨by rw [hv.y_i 57 k (by decide) (by decide) (by decide)], GG.of hr hM1 (by omega) (by omega) (by omega) hv (Pq.rf _)⟩)⟩
theorem o_told_4 {k : Nat} {μ : xM} {φ κ : Nat → Nat} {nf nc ns : Nat} (hR : Rel μ μ μ φ κ (nf, nc, ns, fun _ => False)) (hM : ShM μ) (hk : k < qM μ) : Oi kX4_told kX5_told [.int (nI k), .int (4)] (GG (nf + 40) (nc + 4) (ns + 101)) μ := by
  refine c_told_4 hR hk (fun μ1 hr => ?_)
  have hv := hr.1.vq
  have hM1 := hr.1.shm hM
  have hR1 := hR.cgn hv
  exact ⟨_, rfl, hM1.1 44 (by decide) (by decide), m_told_4 hM1 hR1.wc (by rw [hv.y_q]; exact hk) (⟨by rw [hv.y_i 58 k (by decide) (by decide) (by decide)], GG.of hr hM1 (by omega) (by omega) (by omega) hv (Pq.rf _)⟩)⟩
theorem o_told_5 {k : Nat} {μ : xM} {φ κ : Nat → Nat} {nf nc ns : Nat} (hR : Rel μ μ μ φ κ (nf, nc, ns, fun _ => False)) (hM : ShM μ) (hk : k < qM μ) : Oi kX4_told kX5_told [.int (nI k), .int (5)] (GG (nf + 40) (nc + 4) (ns + 101)) μ := by
  refine c_told_5 hR hk (fun μ1 hr => ?_)
  have hv := hr.1.vq
  have hM1 := hr.1.shm hM
  have hR1 := hR.cgn hv
  exact ⟨_, rfl, hM1.1 44 (by decide) (by decide), m_told_5 hM1 hR1.wc (by rw [hv.y_q]; exact hk) (⟨by rw [hv.y_i 59 k (by decide) (by decide) (by decide)], GG.of hr hM1 (by omega) (by omega) (by omega) hv (Pq.rf _)⟩)⟩
theorem o_told_6 {k : Nat} {μ : xM} {φ κ : Nat → Nat} {nf nc ns : Nat} (hR : Rel μ μ μ φ κ (nf, nc, ns, fun _ => False)) (hM : ShM μ) (hk : k < qM μ) : Oi kX4_told kX5_told [.int (nI k), .int (6)] (GG (nf + 40) (nc + 4) (ns + 101)) μ := by
  refine c_told_6 hR hk (fun μ1 hr => ?_)
  have hv := hr.1.vq
  have hM1 := hr.1.shm hM
  have hR1 := hR.cgn hv
  exact ⟨_, rfl, hM1.1 44 (by decide) (by decide), m_told_6 hM1 hR1.wc (by rw [hv.y_q]; exact hk) (⟨by rw [hv.y_i 60 k (by decide) (by decide) (by decide)], GG.of hr hM1 (by omega) (by omega) (by omega) hv (Pq.rf _)⟩)⟩
theorem o_told_7 {k : Nat} {μ : xM} {φ κ : Nat → Nat} {nf nc ns : Nat} (hR : Rel μ μ μ φ κ (nf, nc, ns, fun _ => False)) (hM : ShM μ) (hk : k < qM μ) : Oi kX4_told kX5_told [.int (nI k), .int (7)] (GG (nf + 40) (nc + 4) (ns + 101)) μ := by
  refine c_told_7 hR hk (fun μ1 hr => ?_)
  have hv := hr.1.vq
  have hM1 := hr.1.shm hM
  have hR1 := hR.cgn hv
  exact ⟨_, rfl, hM1.1 44 (by decide) (by decide), m_told_7 hM1 hR1.wc (by rw [hv.y_q]; exact hk) (⟨by rw [hv.y_i 61 k (by decide) (by decide) (by decide)], GG.of hr hM1 (by omega) (by omega) (by omega) hv (Pq.rf _)⟩)⟩
theorem o_patience_o1 {c n : Int32} {μ : xM} {φ κ : Nat → Nat} {nf nc ns : Nat} (hR : Rel μ μ μ φ κ (nf, nc, ns, fun _ => False)) (hM : ShM μ) (hc : rng c (qM μ) = none) : Oi kX4_patience kX5_patience [.int (c), .int (n)] (GG (nf + 40) (nc + 4) (ns + 101)) μ := by
  refine c_patience_o1 hR hc (fun μ1 hr => ?_)
  have hv := hr.1.vq
  have hM1 := hr.1.shm hM
  have hR1 := hR.cgn hv
  exact ⟨_, rfl, hM1.1 44 (by decide) (by decide), m_patience_o1 hM1 hR1.wc (by rw [hv.y_q]; exact hc) (⟨by rfl, GG.of hr hM1 (by omega) (by omega) (by omega) hv (Pq.rf _)⟩)⟩
theorem o_patience_o2 {k : Nat} {n : Int32} {μ : xM} {φ κ : Nat → Nat} {nf nc ns : Nat} (hR : Rel μ μ μ φ κ (nf, nc, ns, fun _ => False)) (hM : ShM μ) (hk : k < qM μ) (hn : ¬ (1 ≤ n ∧ n ≤ 9)) : Oi kX4_patience kX5_patience [.int (nI k), .int (n)] (GG (nf + 40) (nc + 4) (ns + 101)) μ := by
  refine c_patience_o2 hR hk hn (fun μ1 hr => ?_)
  have hv := hr.1.vq
  have hM1 := hr.1.shm hM
  have hR1 := hR.cgn hv
  exact ⟨_, rfl, hM1.1 44 (by decide) (by decide), m_patience_o2 hM1 hR1.wc (by rw [hv.y_q]; exact hk) hn (⟨by rfl, GG.of hr hM1 (by omega) (by omega) (by omega) hv (Pq.rf _)⟩)⟩
theorem o_patience_in {k : Nat} {n : Int32} {μ : xM} {φ κ : Nat → Nat} {nf nc ns : Nat} (hR : Rel μ μ μ φ κ (nf, nc, ns, fun _ => False)) (hM : ShM μ) (hk : k < qM μ) (hn : 1 ≤ n ∧ n ≤ 9) : Oi kX4_patience kX5_patience [.int (nI k), .int (n)] (GG (nf + 40) (nc + 4) (ns + 101)) μ := by
  refine c_patience_in hR hk hn (fun μ1 hr => ?_)
  have hv := hr.1.vq
  have hM1 := hr.1.shm hM
  have hR1 := hR.cgn hv
  exact ⟨_, rfl, hM1.1 44 (by decide) (by decide), m_patience_in hM1 hR1.wc (by rw [hv.y_q]; exact hk) hn (⟨by rw [hv.y_i 58 k (by decide) (by decide) (by decide)], GG.of hr hM1 (by omega) (by omega) (by omega) (hv.y_sI 58 k n) (pq_sI _ _ _ _ (by decide) (by decide))⟩)⟩
theorem o_pull_o {c : Int32} {μ : xM} {φ κ : Nat → Nat} {nf nc ns : Nat} (hR : Rel μ μ μ φ κ (nf, nc, ns, fun _ => False)) (hM : ShM μ) (hc : rng c (qM μ) = none) : Oi kX4_pull kX5_pull [.int (c)] (GG (nf + 40) (nc + 4) (ns + 101)) μ := by
  refine c_pull_o hR hc (fun μ1 hr => ?_)
  have hv := hr.1.vq
  have hM1 := hr.1.shm hM
  have hR1 := hR.cgn hv
  exact ⟨_, rfl, hM1.1 44 (by decide) (by decide), m_pull_o hM1 hR1.wc (by rw [hv.y_q]; exact hc) (⟨by rfl, GG.of hr hM1 (by omega) (by omega) (by omega) hv (Pq.rf _)⟩)⟩
theorem o_pull_in {k : Nat} {μ : xM} {φ κ : Nat → Nat} {nf nc ns : Nat} (hR : Rel μ μ μ φ κ (nf, nc, ns, fun _ => False)) (hM : ShM μ) (hk : k < qM μ) : Oi kX4_pull kX5_pull [.int (nI k)] (GG (nf + 40) (nc + 4) (ns + 101)) μ := by
  refine c_pull_in hR hk (fun μ1 hr => ?_)
  have hv := hr.1.vq
  have hM1 := hr.1.shm hM
  have hR1 := hR.cgn hv
  exact ⟨_, rfl, hM1.1 44 (by decide) (by decide), m_pull_in hM1 hR1.wc (by rw [hv.y_q]; exact hk) (⟨by rw [hv.y_i 57 k (by decide) (by decide) (by decide)], GG.of hr hM1 (by omega) (by omega) (by omega) (hv.y_sI 57 k 0) (pq_sI _ _ _ _ (by decide) (by decide))⟩)⟩
theorem o_plugIn_o {c : Int32} {μ : xM} {φ κ : Nat → Nat} {nf nc ns : Nat} (hR : Rel μ μ μ φ κ (nf, nc, ns, fun _ => False)) (hM : ShM μ) (hc : rng c (qM μ) = none) : Oi kX4_plugIn kX5_plugIn [.int (c)] (GG (nf + 40) (nc + 4) (ns + 101)) μ := by
  refine c_plugIn_o hR hc (fun μ1 hr => ?_)
  have hv := hr.1.vq
  have hM1 := hr.1.shm hM
  have hR1 := hR.cgn hv
  exact ⟨_, rfl, hM1.1 44 (by decide) (by decide), m_plugIn_o hM1 hR1.wc (by rw [hv.y_q]; exact hc) (⟨by rfl, GG.of hr hM1 (by omega) (by omega) (by omega) hv (Pq.rf _)⟩)⟩
theorem o_plugIn_in {k : Nat} {μ : xM} {φ κ : Nat → Nat} {nf nc ns : Nat} (hR : Rel μ μ μ φ κ (nf, nc, ns, fun _ => False)) (hM : ShM μ) (hk : k < qM μ) : Oi kX4_plugIn kX5_plugIn [.int (nI k)] (GG (nf + 40) (nc + 4) (ns + 101)) μ := by
  refine c_plugIn_in hR hk (fun μ1 hr => ?_)
  have hv := hr.1.vq
  have hM1 := hr.1.shm hM
  have hR1 := hR.cgn hv
  exact ⟨_, rfl, hM1.1 44 (by decide) (by decide), m_plugIn_in hM1 hR1.wc (by rw [hv.y_q]; exact hk) (⟨by rw [hv.y_i 57 k (by decide) (by decide) (by decide)], GG.of hr hM1 (by omega) (by omega) (by omega) ((hv.y_sI 57 k 1).y_sI 59 k 0) ((pq_sI _ _ _ _ (by decide) (by decide)).tr (pq_sI _ _ _ _ (by decide) (by decide)))⟩)⟩
theorem o_fault_o1 {i w : Int32} {μ : xM} {φ κ : Nat → Nat} {nf nc ns : Nat} (hR : Rel μ μ μ φ κ (nf, nc, ns, fun _ => False)) (hM : ShM μ) (hf : nf + 40 < 2 ^ 30) (hi : rng i 20 = none) : Oi kX4_fault kX5_fault [.int (i), .int (w)] (GG (nf + 40) (nc + 4) (ns + 101)) μ := by
  refine c_fault_o1 hR (Nat.lt_of_le_of_lt hR.fm.2 (show nf < 2 ^ 30 by omega)) hi (fun μ1 hr => ?_)
  have hv := hr.1.vq
  have hM1 := hr.1.shm hM
  have hR1 := hR.cgn hv
  exact ⟨_, rfl, hM1.1 44 (by decide) (by decide), m_fault_o1 hi (⟨by rfl, GG.of hr hM1 (by omega) (by omega) (by omega) hv (Pq.rf _)⟩)⟩
theorem o_fault_o2 {i : Nat} {w : Int32} {μ : xM} {φ κ : Nat → Nat} {nf nc ns : Nat} (hR : Rel μ μ μ φ κ (nf, nc, ns, fun _ => False)) (hM : ShM μ) (hf : nf + 40 < 2 ^ 30) (hi : i < 20) (hn : fM μ ≤ i) : Oi kX4_fault kX5_fault [.int (nI i), .int (w)] (GG (nf + 40) (nc + 4) (ns + 101)) μ := by
  refine c_fault_o2 hR (Nat.lt_of_le_of_lt hR.fm.2 (show nf < 2 ^ 30 by omega)) hi hn (fun μ1 hr => ?_)
  have hv := hr.1.vq
  have hM1 := hr.1.shm hM
  have hR1 := hR.cgn hv
  exact ⟨_, rfl, hM1.1 44 (by decide) (by decide), m_fault_o2 hM1 ⟨hR1.fm.1, Nat.lt_of_le_of_lt hR1.fm.2 (show nf < 2 ^ 30 by omega)⟩ hi (by rw [hv.y_f]; exact hn) (⟨by rfl, GG.of hr hM1 (by omega) (by omega) (by omega) hv (Pq.rf _)⟩)⟩
theorem o_fault_o3 {i : Nat} {w : Int32} {μ : xM} {φ κ : Nat → Nat} {nf nc ns : Nat} (hR : Rel μ μ μ φ κ (nf, nc, ns, fun _ => False)) (hM : ShM μ) (hf : nf + 40 < 2 ^ 30) (hi : i < 20) (hn : i < fM μ) (hw : rng w 3 = none) : Oi kX4_fault kX5_fault [.int (nI i), .int (w)] (GG (nf + 40) (nc + 4) (ns + 101)) μ := by
  refine c_fault_o3 hR (Nat.lt_of_le_of_lt hR.fm.2 (show nf < 2 ^ 30 by omega)) hi hn hw (fun μ1 hr => ?_)
  have hv := hr.1.vq
  have hM1 := hr.1.shm hM
  have hR1 := hR.cgn hv
  exact ⟨_, rfl, hM1.1 44 (by decide) (by decide), m_fault_o3 hM1 ⟨hR1.fm.1, Nat.lt_of_le_of_lt hR1.fm.2 (show nf < 2 ^ 30 by omega)⟩ hi (by rw [hv.y_f]; exact hn) hw (⟨by rfl, GG.of hr hM1 (by omega) (by omega) (by omega) hv (Pq.rf _)⟩)⟩
theorem o_fault_0 {i : Nat} {μ : xM} {φ κ : Nat → Nat} {nf nc ns : Nat} (hR : Rel μ μ μ φ κ (nf, nc, ns, fun _ => False)) (hM : ShM μ) (hf : nf + 40 < 2 ^ 30) (hi : i < 20) (hn : i < fM μ) : Oi kX4_fault kX5_fault [.int (nI i), .int (0)] (GG (nf + 40) (nc + 4) (ns + 101)) μ := by
  refine c_fault_0 hR (Nat.lt_of_le_of_lt hR.fm.2 (show nf < 2 ^ 30 by omega)) hi hn (fun μ1 hr => ?_)
  have hv := hr.1.vq
  have hM1 := hr.1.shm hM
  have hR1 := hR.cgn hv
  exact ⟨_, rfl, hM1.1 44 (by decide) (by decide), m_fault_0 hM1 ⟨hR1.fm.1, Nat.lt_of_le_of_lt hR1.fm.2 (show nf < 2 ^ 30 by omega)⟩ hi (by rw [hv.y_f]; exact hn) (⟨by rw [hv.y_f, hv.y_i 62 _ (by decide) (by decide) (by decide)], GG.of hr hM1 (by omega) (by omega) (by omega) hv (Pq.rf _)⟩)⟩
theorem o_fault_1 {i : Nat} {μ : xM} {φ κ : Nat → Nat} {nf nc ns : Nat} (hR : Rel μ μ μ φ κ (nf, nc, ns, fun _ => False)) (hM : ShM μ) (hf : nf + 40 < 2 ^ 30) (hi : i < 20) (hn : i < fM μ) : Oi kX4_fault kX5_fault [.int (nI i), .int (1)] (GG (nf + 40) (nc + 4) (ns + 101)) μ := by
  refine c_fault_1 hR (Nat.lt_of_le_of_lt hR.fm.2 (show nf < 2 ^ 30 by omega)) hi hn (fun μ1 hr => ?_)
  have hv := hr.1.vq
  have hM1 := hr.1.shm hM
  have hR1 := hR.cgn hv
  exact ⟨_, rfl, hM1.1 44 (by decide) (by decide), m_fault_1 hM1 ⟨hR1.fm.1, Nat.lt_of_le_of_lt hR1.fm.2 (show nf < 2 ^ 30 by omega)⟩ hi (by rw [hv.y_f]; exact hn) (⟨by rw [hv.y_f, hv.y_i 63 _ (by decide) (by decide) (by decide)], GG.of hr hM1 (by omega) (by omega) (by omega) hv (Pq.rf _)⟩)⟩
theorem o_fault_2 {i : Nat} {μ : xM} {φ κ : Nat → Nat} {nf nc ns : Nat} (hR : Rel μ μ μ φ κ (nf, nc, ns, fun _ => False)) (hM : ShM μ) (hf : nf + 40 < 2 ^ 30) (hi : i < 20) (hn : i < fM μ) : Oi kX4_fault kX5_fault [.int (nI i), .int (2)] (GG (nf + 40) (nc + 4) (ns + 101)) μ := by
  refine c_fault_2 hR (Nat.lt_of_le_of_lt hR.fm.2 (show nf < 2 ^ 30 by omega)) hi hn (fun μ1 hr => ?_)
  have hv := hr.1.vq
  have hM1 := hr.1.shm hM
  have hR1 := hR.cgn hv
  exact ⟨_, rfl, hM1.1 44 (by decide) (by decide), m_fault_2 hM1 ⟨hR1.fm.1, Nat.lt_of_le_of_lt hR1.fm.2 (show nf < 2 ^ 30 by omega)⟩ hi (by rw [hv.y_f]; exact hn) (⟨by rw [hv.y_f, hv.y_i 64 _ (by decide) (by decide) (by decide)], GG.of hr hM1 (by omega) (by omega) (by omega) hv (Pq.rf _)⟩)⟩
theorem o_count_o {w : Int32} {μ : xM} {φ κ : Nat → Nat} {nf nc ns : Nat} (hR : Rel μ μ μ φ κ (nf, nc, ns, fun _ => False)) (hM : ShM μ) (hw : rng w 8 = none) : Oi kX4_count kX5_count [.int (w)] (GG (nf + 40) (nc + 4) (ns + 101)) μ := by
  refine c_count_o hR hw (fun μ1 hr => ?_)
  have hv := hr.1.vq
  have hM1 := hr.1.shm hM
  have hR1 := hR.cgn hv
  exact ⟨_, rfl, hM1.1 44 (by decide) (by decide), m_count_o hw (⟨by rfl, GG.of hr hM1 (by omega) (by omega) (by omega) hv (Pq.rf _)⟩)⟩
theorem o_count_0  {μ : xM} {φ κ : Nat → Nat} {nf nc ns : Nat} (hR : Rel μ μ μ φ κ (nf, nc, ns, fun _ => False)) (hM : ShM μ)  : Oi kX4_count kX5_count [.int (0)] (GG (nf + 40) (nc + 4) (ns + 101)) μ := by
  refine c_count_0 hR  (fun μ1 hr => ?_)
  have hv := hr.1.vq
  have hM1 := hr.1.shm hM
  have hR1 := hR.cgn hv
  exact ⟨_, rfl, hM1.1 44 (by decide) (by decide), m_count_0 hM1 (⟨by rw [hv.y_i 44 10 (by decide) (by decide) (by decide)], GG.of hr hM1 (by omega) (by omega) (by omega) hv (Pq.rf _)⟩)⟩
theorem o_count_1  {μ : xM} {φ κ : Nat → Nat} {nf nc ns : Nat} (hR : Rel μ μ μ φ κ (nf, nc, ns, fun _ => False)) (hM : ShM μ)  : Oi kX4_count kX5_count [.int (1)] (GG (nf + 40) (nc + 4) (ns + 101)) μ := by
  refine c_count_1 hR  (fun μ1 hr => ?_)
  have hv := hr.1.vq
  have hM1 := hr.1.shm hM
  have hR1 := hR.cgn hv
  exact ⟨_, rfl, hM1.1 44 (by decide) (by decide), m_count_1 hM1 (⟨by rw [hv.y_i 44 19 (by decide) (by decide) (by decide)], GG.of hr hM1 (by omega) (by omega) (by omega) hv (Pq.rf _)⟩)⟩
theorem o_count_2  {μ : xM} {φ κ : Nat → Nat} {nf nc ns : Nat} (hR : Rel μ μ μ φ κ (nf, nc, ns, fun _ => False)) (hM : ShM μ)  : Oi kX4_count kX5_count [.int (2)] (GG (nf + 40) (nc + 4) (ns + 101)) μ := by
  refine c_count_2 hR  (fun μ1 hr => ?_)
  have hv := hr.1.vq
  have hM1 := hr.1.shm hM
  have hR1 := hR.cgn hv
  exact ⟨_, rfl, hM1.1 44 (by decide) (by decide), m_count_2 hM1 (⟨by rw [hv.y_i 44 20 (by decide) (by decide) (by decide)], GG.of hr hM1 (by omega) (by omega) (by omega) hv (Pq.rf _)⟩)⟩
theorem o_count_3  {μ : xM} {φ κ : Nat → Nat} {nf nc ns : Nat} (hR : Rel μ μ μ φ κ (nf, nc, ns, fun _ => False)) (hM : ShM μ)  : Oi kX4_count kX5_count [.int (3)] (GG (nf + 40) (nc + 4) (ns + 101)) μ := by
  refine c_count_3 hR  (fun μ1 hr => ?_)
  have hv := hr.1.vq
  have hM1 := hr.1.shm hM
  have hR1 := hR.cgn hv
  exact ⟨_, rfl, hM1.1 44 (by decide) (by decide), m_count_3 hM1 (⟨by rw [hv.y_i 65 1 (by decide) (by decide) (by decide)], GG.of hr hM1 (by omega) (by omega) (by omega) hv (Pq.rf _)⟩)⟩
theorem o_count_4  {μ : xM} {φ κ : Nat → Nat} {nf nc ns : Nat} (hR : Rel μ μ μ φ κ (nf, nc, ns, fun _ => False)) (hM : ShM μ)  : Oi kX4_count kX5_count [.int (4)] (GG (nf + 40) (nc + 4) (ns + 101)) μ := by
  refine c_count_4 hR  (fun μ1 hr => ?_)
  have hv := hr.1.vq
  have hM1 := hr.1.shm hM
  have hR1 := hR.cgn hv
  exact ⟨_, rfl, hM1.1 44 (by decide) (by decide), m_count_4 hM1 (⟨by rw [hv.y_i 65 2 (by decide) (by decide) (by decide)], GG.of hr hM1 (by omega) (by omega) (by omega) hv (Pq.rf _)⟩)⟩
theorem o_count_5  {μ : xM} {φ κ : Nat → Nat} {nf nc ns : Nat} (hR : Rel μ μ μ φ κ (nf, nc, ns, fun _ => False)) (hM : ShM μ)  : Oi kX4_count kX5_count [.int (5)] (GG (nf + 40) (nc + 4) (ns + 101)) μ := by
  refine c_count_5 hR  (fun μ1 hr => ?_)
  have hv := hr.1.vq
  have hM1 := hr.1.shm hM
  have hR1 := hR.cgn hv
  exact ⟨_, rfl, hM1.1 44 (by decide) (by decide), m_count_5 hM1 (⟨by rw [hv.y_i 65 3 (by decide) (by decide) (by decide)], GG.of hr hM1 (by omega) (by omega) (by omega) hv (Pq.rf _)⟩)⟩
theorem o_count_6  {μ : xM} {φ κ : Nat → Nat} {nf nc ns : Nat} (hR : Rel μ μ μ φ κ (nf, nc, ns, fun _ => False)) (hM : ShM μ)  : Oi kX4_count kX5_count [.int (6)] (GG (nf + 40) (nc + 4) (ns + 101)) μ := by
  refine c_count_6 hR  (fun μ1 hr => ?_)
  have hv := hr.1.vq
  have hM1 := hr.1.shm hM
  have hR1 := hR.cgn hv
  exact ⟨_, rfl, hM1.1 44 (by decide) (by decide), m_count_6 hM1 (⟨by rw [hv.y_i 65 4 (by decide) (by decide) (by decide)], GG.of hr hM1 (by omega) (by omega) (by omega) hv (Pq.rf _)⟩)⟩
theorem o_count_7  {μ : xM} {φ κ : Nat → Nat} {nf nc ns : Nat} (hR : Rel μ μ μ φ κ (nf, nc, ns, fun _ => False)) (hM : ShM μ)  : Oi kX4_count kX5_count [.int (7)] (GG (nf + 40) (nc + 4) (ns + 101)) μ := by
  refine c_count_7 hR  (fun μ1 hr => ?_)
  have hv := hr.1.vq
  have hM1 := hr.1.shm hM
  have hR1 := hR.cgn hv
  exact ⟨_, rfl, hM1.1 44 (by decide) (by decide), m_count_7 hM1 (⟨by rw [hv.y_i 65 5 (by decide) (by decide) (by decide)], GG.of hr hM1 (by omega) (by omega) (by omega) hv (Pq.rf _)⟩)⟩
