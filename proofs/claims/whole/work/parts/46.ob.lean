/-! both sides of a call, second part (laid by wip/whole/mko2.py) -/
theorem o_tick_in  {μ : xM} {φ κ : Nat → Nat} {nf nc ns : Nat} (hR : Rel μ μ μ φ κ (nf, nc, ns, fun _ => False)) (hM : ShM μ) (hf : nf + 40 < 2 ^ 30) : Oi kX4_tick kX5_tick [] (GG (nf + 40) (nc + 4) (ns + 101)) μ := by
  refine c_tick hR hf (fun μ1 hr => ?_)
  have hv := hr.1.vq
  have hM1 := hr.1.shm hM
  have hR1 := hR.cgn hv
  exact ⟨_, rfl, hM1.1 44 (by decide) (by decide), m_tick (B := nf) ⟨hM1, hR1.wt, hR1.wc, hR1.fm.1, hR1.fm.2⟩ hf (⟨by rw [hv.y_q, hv.y_time.y_cnts], GG.of hr hM1 (by omega) (by omega) (by omega) hv.y_tick (pq_tick _)⟩)⟩
theorem o_splice_o1 {c d : Int32} {i j n : Int32} {μ : xM} {φ κ : Nat → Nat} {nf nc ns : Nat} (hR : Rel μ μ μ φ κ (nf, nc, ns, fun _ => False)) (hM : ShM μ) (hc : rng c 16 = none) : Oi kX4_splice kX5_splice [.int (c), .int (i), .int (d), .int (j), .int (n)] (GG (nf + 40) (nc + 4) (ns + 101)) μ := by
  refine c_splice_o1 hR hc (fun μ1 hr => ?_)
  have hv := hr.1.vq
  have hM1 := hr.1.shm hM
  have hR1 := hR.cgn hv
  exact ⟨_, rfl, hM1.1 44 (by decide) (by decide), m_splice_o1 hc (⟨by rfl, GG.of hr hM1 (by omega) (by omega) (by omega) hv (Pq.rf _)⟩)⟩
theorem o_splice_o2 {a : Nat} {d : Int32} {i j n : Int32} {μ : xM} {φ κ : Nat → Nat} {nf nc ns : Nat} (hR : Rel μ μ μ φ κ (nf, nc, ns, fun _ => False)) (hM : ShM μ) (ha : a < 16) (hd : rng d 16 = none) : Oi kX4_splice kX5_splice [.int (nI a), .int (i), .int (d), .int (j), .int (n)] (GG (nf + 40) (nc + 4) (ns + 101)) μ := by
  refine c_splice_o2 hR ha hd (fun μ1 hr => ?_)
  have hv := hr.1.vq
  have hM1 := hr.1.shm hM
  have hR1 := hR.cgn hv
  exact ⟨_, rfl, hM1.1 44 (by decide) (by decide), m_splice_o2 ha hd (⟨by rfl, GG.of hr hM1 (by omega) (by omega) (by omega) hv (Pq.rf _)⟩)⟩
theorem o_match_o1 {c d : Int32} {μ : xM} {φ κ : Nat → Nat} {nf nc ns : Nat} (hR : Rel μ μ μ φ κ (nf, nc, ns, fun _ => False)) (hM : ShM μ) (hc : rng c 16 = none) : Oi kX4_match kX5_match [.int (c), .int (d)] (GG (nf + 40) (nc + 4) (ns + 101)) μ := by
  refine c_match_o1 hR hc (fun μ1 hr => ?_)
  have hv := hr.1.vq
  have hM1 := hr.1.shm hM
  have hR1 := hR.cgn hv
  exact ⟨_, rfl, hM1.1 44 (by decide) (by decide), m_match_o1 hc (⟨by rfl, GG.of hr hM1 (by omega) (by omega) (by omega) hv (Pq.rf _)⟩)⟩
theorem o_match_o2 {a : Nat} {d : Int32} {μ : xM} {φ κ : Nat → Nat} {nf nc ns : Nat} (hR : Rel μ μ μ φ κ (nf, nc, ns, fun _ => False)) (hM : ShM μ) (ha : a < 16) (hd : rng d 16 = none) : Oi kX4_match kX5_match [.int (nI a), .int (d)] (GG (nf + 40) (nc + 4) (ns + 101)) μ := by
  refine c_match_o2 hR ha hd (fun μ1 hr => ?_)
  have hv := hr.1.vq
  have hM1 := hr.1.shm hM
  have hR1 := hR.cgn hv
  exact ⟨_, rfl, hM1.1 44 (by decide) (by decide), m_match_o2 ha hd (⟨by rfl, GG.of hr hM1 (by omega) (by omega) (by omega) hv (Pq.rf _)⟩)⟩
theorem o_rack_o1 {c d : Int32} {i : Int32} {μ : xM} {φ κ : Nat → Nat} {nf nc ns : Nat} (hR : Rel μ μ μ φ κ (nf, nc, ns, fun _ => False)) (hM : ShM μ) (hc : rng c 16 = none) : Oi kX4_rack kX5_rack [.int (c), .int (i), .int (d)] (GG (nf + 40) (nc + 4) (ns + 101)) μ := by
  refine c_rack_o1 hR hc (fun μ1 hr => ?_)
  have hv := hr.1.vq
  have hM1 := hr.1.shm hM
  have hR1 := hR.cgn hv
  exact ⟨_, rfl, hM1.1 44 (by decide) (by decide), m_rack_o1 hc (⟨by rfl, GG.of hr hM1 (by omega) (by omega) (by omega) hv (Pq.rf _)⟩)⟩
theorem o_rack_o2 {a : Nat} {d : Int32} {i : Int32} {μ : xM} {φ κ : Nat → Nat} {nf nc ns : Nat} (hR : Rel μ μ μ φ κ (nf, nc, ns, fun _ => False)) (hM : ShM μ) (ha : a < 16) (hd : rng d 16 = none) : Oi kX4_rack kX5_rack [.int (nI a), .int (i), .int (d)] (GG (nf + 40) (nc + 4) (ns + 101)) μ := by
  refine c_rack_o2 hR ha hd (fun μ1 hr => ?_)
  have hv := hr.1.vq
  have hM1 := hr.1.shm hM
  have hR1 := hR.cgn hv
  exact ⟨_, rfl, hM1.1 44 (by decide) (by decide), m_rack_o2 ha hd (⟨by rfl, GG.of hr hM1 (by omega) (by omega) (by omega) hv (Pq.rf _)⟩)⟩
theorem o_unrack_o1 {c d : Int32} {i : Int32} {μ : xM} {φ κ : Nat → Nat} {nf nc ns : Nat} (hR : Rel μ μ μ φ κ (nf, nc, ns, fun _ => False)) (hM : ShM μ) (hc : rng c 16 = none) : Oi kX4_unrack kX5_unrack [.int (c), .int (i), .int (d)] (GG (nf + 40) (nc + 4) (ns + 101)) μ := by
  refine c_unrack_o1 hR hc (fun μ1 hr => ?_)
  have hv := hr.1.vq
  have hM1 := hr.1.shm hM
  have hR1 := hR.cgn hv
  exact ⟨_, rfl, hM1.1 44 (by decide) (by decide), m_unrack_o1 hc (⟨by rfl, GG.of hr hM1 (by omega) (by omega) (by omega) hv (Pq.rf _)⟩)⟩
theorem o_unrack_o2 {a : Nat} {d : Int32} {i : Int32} {μ : xM} {φ κ : Nat → Nat} {nf nc ns : Nat} (hR : Rel μ μ μ φ κ (nf, nc, ns, fun _ => False)) (hM : ShM μ) (ha : a < 16) (hd : rng d 16 = none) : Oi kX4_unrack kX5_unrack [.int (nI a), .int (i), .int (d)] (GG (nf + 40) (nc + 4) (ns + 101)) μ := by
  refine c_unrack_o2 hR ha hd (fun μ1 hr => ?_)
  have hv := hr.1.vq
  have hM1 := hr.1.shm hM
  have hR1 := hR.cgn hv
  exact ⟨_, rfl, hM1.1 44 (by decide) (by decide), m_unrack_o2 ha hd (⟨by rfl, GG.of hr hM1 (by omega) (by omega) (by omega) hv (Pq.rf _)⟩)⟩
theorem o_dub_o1 {c d : Int32} {k : Int32} {μ : xM} {φ κ : Nat → Nat} {nf nc ns : Nat} (hR : Rel μ μ μ φ κ (nf, nc, ns, fun _ => False)) (hM : ShM μ) (hc : rng c 16 = none) : Oi kX4_dub kX5_dub [.int (c), .int (d), .int (k)] (GG (nf + 40) (nc + 4) (ns + 101)) μ := by
  refine c_dub_o1 hR hc (fun μ1 hr => ?_)
  have hv := hr.1.vq
  have hM1 := hr.1.shm hM
  have hR1 := hR.cgn hv
  exact ⟨_, rfl, hM1.1 44 (by decide) (by decide), m_dub_o1 hc (⟨by rfl, GG.of hr hM1 (by omega) (by omega) (by omega) hv (Pq.rf _)⟩)⟩
theorem o_dub_o2 {a : Nat} {d : Int32} {k : Int32} {μ : xM} {φ κ : Nat → Nat} {nf nc ns : Nat} (hR : Rel μ μ μ φ κ (nf, nc, ns, fun _ => False)) (hM : ShM μ) (ha : a < 16) (hd : rng d 16 = none) : Oi kX4_dub kX5_dub [.int (nI a), .int (d), .int (k)] (GG (nf + 40) (nc + 4) (ns + 101)) μ := by
  refine c_dub_o2 hR ha hd (fun μ1 hr => ?_)
  have hv := hr.1.vq
  have hM1 := hr.1.shm hM
  have hR1 := hR.cgn hv
  exact ⟨_, rfl, hM1.1 44 (by decide) (by decide), m_dub_o2 ha hd (⟨by rfl, GG.of hr hM1 (by omega) (by omega) (by omega) hv (Pq.rf _)⟩)⟩
theorem o_splice_o3 {a b : Nat} {i j n : Int32} {μ : xM} {φ κ : Nat → Nat} {nf nc ns : Nat} (hR : Rel μ μ μ φ κ (nf, nc, ns, fun _ => False)) (hM : ShM μ) (ha : a < 16) (hb : b < 16) (hn : rng n 33 = none) : Oi kX4_splice kX5_splice [.int (nI a), .int (i), .int (nI b), .int (j), .int (n)] (GG (nf + 40) (nc + 4) (ns + 101)) μ := by
  refine c_splice_o3 hR ha hb hn (fun μ1 hr => ?_)
  have hv := hr.1.vq
  have hM1 := hr.1.shm hM
  have hR1 := hR.cgn hv
  exact ⟨_, rfl, hM1.1 44 (by decide) (by decide), m_splice_o3 ha hb hn (⟨by rfl, GG.of hr hM1 (by omega) (by omega) (by omega) hv (Pq.rf _)⟩)⟩
theorem o_splice_in {a b n : Nat} {i j : Int32} {μ : xM} {φ κ : Nat → Nat} {nf nc ns : Nat} (hR : Rel μ μ μ φ κ (nf, nc, ns, fun _ => False)) (hM : ShM μ) (ha : a < 16) (hb : b < 16) (hn : n ≤ 32) : Oi kX4_splice kX5_splice [.int (nI a), .int (i), .int (nI b), .int (j), .int (nI n)] (GG (nf + 40) (nc + 4) (ns + 101)) μ := by
  refine c_splice_in hR ha hb hn (fun μ1 hr => ?_)
  have hv := hr.1.vq
  have hM1 := hr.1.shm hM
  have hR1 := hR.cgn hv
  exact ⟨_, rfl, hM1.1 44 (by decide) (by decide), m_splice_in hM1 hR1.wt ha hb hn (⟨by rw [(Vq.y_spl n 0 hv).1], GG.of hr hM1 (by omega) (by omega) (by omega) (by rw [(Vq.y_spl n 0 hv).2.1]; exact (Vq.y_spl n 0 hv).2.2.y_met _) ((pq_spl n 0 _).tr (pq_met _ _))⟩)⟩
theorem o_match_r1a {a b : Nat} {μ : xM} {φ κ : Nat → Nat} {nf nc ns : Nat} (hR : Rel μ μ μ φ κ (nf, nc, ns, fun _ => False)) (hM : ShM μ) (ha : a < 16) (hb : b < 16) (h0 : ¬ noTapeM μ a = 0) (h1 : noTapeM μ b = 0) : Oi kX4_match kX5_match [.int (nI a), .int (nI b)] (GG (nf + 40) (nc + 4) (ns + 101)) μ := by
  refine c_match_r1a hR ha hb h0 h1 (fun μ1 hr => ?_)
  have hv := hr.1.vq
  have hM1 := hr.1.shm hM
  have hR1 := hR.cgn hv
  exact ⟨_, rfl, hM1.1 44 (by decide) (by decide), m_match_r1 hM1 hR1.wt ha hb (by rw [hv.y_nt]; exact h0) (⟨by rw [hv.y_nt], GG.of hr hM1 (by omega) (by omega) (by omega) (by rw [hv.y_nt]; exact hv.y_met _) (pq_met _ _)⟩)⟩
theorem o_match_r1b {a b : Nat} {μ : xM} {φ κ : Nat → Nat} {nf nc ns : Nat} (hR : Rel μ μ μ φ κ (nf, nc, ns, fun _ => False)) (hM : ShM μ) (ha : a < 16) (hb : b < 16) (h0 : ¬ noTapeM μ a = 0) (h1 : ¬ noTapeM μ b = 0) : Oi kX4_match kX5_match [.int (nI a), .int (nI b)] (GG (nf + 40) (nc + 4) (ns + 101)) μ := by
  refine c_match_r1b hR ha hb h0 h1 (fun μ1 hr => ?_)
  have hv := hr.1.vq
  have hM1 := hr.1.shm hM
  have hR1 := hR.cgn hv
  exact ⟨_, rfl, hM1.1 44 (by decide) (by decide), m_match_r1 hM1 hR1.wt ha hb (by rw [hv.y_nt]; exact h0) (⟨by rw [hv.y_nt], GG.of hr hM1 (by omega) (by omega) (by omega) (by rw [hv.y_nt]; exact hv.y_met _) (pq_met _ _)⟩)⟩
theorem o_match_r2 {a b : Nat} {μ : xM} {φ κ : Nat → Nat} {nf nc ns : Nat} (hR : Rel μ μ μ φ κ (nf, nc, ns, fun _ => False)) (hM : ShM μ) (ha : a < 16) (hb : b < 16) (h0 : noTapeM μ a = 0) (h1 : ¬ noTapeM μ b = 0) : Oi kX4_match kX5_match [.int (nI a), .int (nI b)] (GG (nf + 40) (nc + 4) (ns + 101)) μ := by
  refine c_match_r2 hR ha hb h0 h1 (fun μ1 hr => ?_)
  have hv := hr.1.vq
  have hM1 := hr.1.shm hM
  have hR1 := hR.cgn hv
  exact ⟨_, rfl, hM1.1 44 (by decide) (by decide), m_match_r2 hM1 hR1.wt ha hb (by rw [hv.y_nt]; exact h0) (by rw [hv.y_nt]; exact h1) (⟨by rw [hv.y_nt], GG.of hr hM1 (by omega) (by omega) (by omega) (by rw [hv.y_nt]; exact hv.y_met _) (pq_met _ _)⟩)⟩
theorem o_match_in {a b : Nat} {μ : xM} {φ κ : Nat → Nat} {nf nc ns : Nat} (hR : Rel μ μ μ φ κ (nf, nc, ns, fun _ => False)) (hM : ShM μ) (ha : a < 16) (hb : b < 16) (h0 : noTapeM μ a = 0) (h1 : noTapeM μ b = 0) : Oi kX4_match kX5_match [.int (nI a), .int (nI b)] (GG (nf + 40) (nc + 4) (ns + 101)) μ := by
  refine c_match_in hR ha hb h0 h1 (fun μ1 hr => ?_)
  have hv := hr.1.vq
  have hM1 := hr.1.shm hM
  have hR1 := hR.cgn hv
  exact ⟨_, rfl, hM1.1 44 (by decide) (by decide), m_match_in hM1 hR1.wt ha hb (by rw [hv.y_nt]; exact h0) (by rw [hv.y_nt]; exact h1) (⟨by rw [hv.y_tp, hv.y_tp, hv.y_mtc, hv.y_mtR], GG.of hr hM1 (by omega) (by omega) (by omega) (hv.y_met _) (pq_met _ _)⟩)⟩
theorem o_sum_o {c : Int32} {μ : xM} {φ κ : Nat → Nat} {nf nc ns : Nat} (hR : Rel μ μ μ φ κ (nf, nc, ns, fun _ => False)) (hM : ShM μ) (hc : rng c 16 = none) : Ol kX4_sum kX5_sum [.int (c)] (GG (nf + 40) (nc + 4) (ns + 101)) μ := by
  refine c_sum_o hR hc (fun μ1 hr => ?_)
  have hv := hr.1.vq
  have hM1 := hr.1.shm hM
  have hR1 := hR.cgn hv
  exact ⟨_, rfl, hM1.1 44 (by decide) (by decide), m_sum_o hc (⟨by rfl, GG.of hr hM1 (by omega) (by omega) (by omega) hv (Pq.rf _)⟩)⟩
theorem o_sum_r {a : Nat} {μ : xM} {φ κ : Nat → Nat} {nf nc ns : Nat} (hR : Rel μ μ μ φ κ (nf, nc, ns, fun _ => False)) (hM : ShM μ) (ha : a < 16) (h0 : ¬ noTapeM μ a = 0) : Ol kX4_sum kX5_sum [.int (nI a)] (GG (nf + 40) (nc + 4) (ns + 101)) μ := by
  refine c_sum_r hR ha h0 (fun μ1 hr => ?_)
  have hv := hr.1.vq
  have hM1 := hr.1.shm hM
  have hR1 := hR.cgn hv
  exact ⟨_, rfl, hM1.1 44 (by decide) (by decide), m_sum_r hM1 hR1.wt ha (by rw [hv.y_nt]; exact h0) (⟨by rfl, GG.of hr hM1 (by omega) (by omega) (by omega) (by rw [hv.y_nt]; exact hv.y_met _) (pq_met _ _)⟩)⟩
theorem o_sum_in {a : Nat} {μ : xM} {φ κ : Nat → Nat} {nf nc ns : Nat} (hR : Rel μ μ μ φ κ (nf, nc, ns, fun _ => False)) (hM : ShM μ) (ha : a < 16) (h0 : noTapeM μ a = 0) : Ol kX4_sum kX5_sum [.int (nI a)] (GG (nf + 40) (nc + 4) (ns + 101)) μ := by
  refine c_sum_in hR ha h0 (fun μ1 hr => ?_)
  have hv := hr.1.vq
  have hM1 := hr.1.shm hM
  have hR1 := hR.cgn hv
  exact ⟨_, rfl, hM1.1 44 (by decide) (by decide), m_sum_in hM1 hR1.wt ha (by rw [hv.y_nt]; exact h0) (⟨by rw [hv.y_tp, hv.y_sz, hv.y_sum], GG.of hr hM1 (by omega) (by omega) (by omega) (hv.y_met _) (pq_met _ _)⟩)⟩
theorem o_rack_ni {a b : Nat} {i : Int32} {μ : xM} {φ κ : Nat → Nat} {nf nc ns : Nat} (hR : Rel μ μ μ φ κ (nf, nc, ns, fun _ => False)) (hM : ShM μ) (ha : a < 16) (hb : b < 16) (h1 : mI μ 50 b = -1) (hz : noWriteM μ a i (rackK μ b) = 0) : Oi kX4_rack kX5_rack [.int (nI a), .int (i), .int (nI b)] (GG (nf + 40) (nc + 4) (ns + 101)) μ := by
  refine c_rack_i hR ha hb hz (fun μ1 hr => ?_)
  have hv := hr.1.vq
  have hM1 := hr.1.shm hM
  have hR1 := hR.cgn hv
  exact ⟨_, rfl, hM1.1 44 (by decide) (by decide), m_rack_ni hM1 hR1.wt ha hb (by rw [hv.y_i 50 b (by decide) (by decide) (by decide)]; exact h1) (by rw [hv.y_rK, hv.y_nw]; exact hz) (⟨by rfl, GG.of hr hM1 (by omega) (by omega) (by omega) (by rw [hv.y_rK, hv.y_rV, hv.y_nw, hz]; exact (hv.y_wr _ _ _ _).y_met _) ((pq_wr _ _ _ _ _).tr (pq_met _ _))⟩)⟩
theorem o_rack_pi {a b : Nat} {i : Int32} {μ : xM} {φ κ : Nat → Nat} {nf nc ns : Nat} (hR : Rel μ μ μ φ κ (nf, nc, ns, fun _ => False)) (hM : ShM μ) (ha : a < 16) (hb : b < 16) (h1 : mI μ 50 b = -2) (hz : noWriteM μ a i (rackK μ b) = 0) : Oi kX4_rack kX5_rack [.int (nI a), .int (i), .int (nI b)] (GG (nf + 40) (nc + 4) (ns + 101)) μ := by
  refine c_rack_i hR ha hb hz (fun μ1 hr => ?_)
  have hv := hr.1.vq
  have hM1 := hr.1.shm hM
  have hR1 := hR.cgn hv
  exact ⟨_, rfl, hM1.1 44 (by decide) (by decide), m_rack_pi hM1 hR1.wt ha hb (by rw [hv.y_i 50 b (by decide) (by decide) (by decide)]; exact h1) (by rw [hv.y_rK, hv.y_nw]; exact hz) (⟨by rfl, GG.of hr hM1 (by omega) (by omega) (by omega) (by rw [hv.y_rK, hv.y_rV, hv.y_nw, hz]; exact (hv.y_wr _ _ _ _).y_met _) ((pq_wr _ _ _ _ _).tr (pq_met _ _))⟩)⟩
theorem o_rack_ki {a b : Nat} {i : Int32} {μ : xM} {φ κ : Nat → Nat} {nf nc ns : Nat} (hR : Rel μ μ μ φ κ (nf, nc, ns, fun _ => False)) (hM : ShM μ) (ha : a < 16) (hb : b < 16) (h1 : ¬ mI μ 50 b = -1) (h2 : ¬ mI μ 50 b = -2) (h4 : ¬ kd μ (tp μ b) = 4) (hz : noWriteM μ a i (rackK μ b) = 0) : Oi kX4_rack kX5_rack [.int (nI a), .int (i), .int (nI b)] (GG (nf + 40) (nc + 4) (ns + 101)) μ := by
  refine c_rack_i hR ha hb hz (fun μ1 hr => ?_)
  have hv := hr.1.vq
  have hM1 := hr.1.shm hM
  have hR1 := hR.cgn hv
  exact ⟨_, rfl, hM1.1 44 (by decide) (by decide), m_rack_ki hM1 hR1.wt ha hb (by rw [hv.y_i 50 b (by decide) (by decide) (by decide)]; exact h1) (by rw [hv.y_i 50 b (by decide) (by decide) (by decide)]; exact h2) (by rw [hv.y_tp, hv.y_kd]; exact h4) (by rw [hv.y_rK, hv.y_nw]; exact hz) (⟨by rfl, GG.of hr hM1 (by omega) (by omega) (by omega) (by rw [hv.y_rK, hv.y_rV, hv.y_nw, hz]; exact (hv.y_wr _ _ _ _).y_met _) ((pq_wr _ _ _ _ _).tr (pq_met _ _))⟩)⟩
theorem o_rack_ti {a b : Nat} {i : Int32} {μ : xM} {φ κ : Nat → Nat} {nf nc ns : Nat} (hR : Rel μ μ μ φ κ (nf, nc, ns, fun _ => False)) (hM : ShM μ) (ha : a < 16) (hb : b < 16) (h1 : ¬ mI μ 50 b = -1) (h2 : ¬ mI μ 50 b = -2) (h4 : kd μ (tp μ b) = 4) (hz : noWriteM μ a i (rackK μ b) = 0) : Oi kX4_rack kX5_rack [.int (nI a), .int (i), .int (nI b)] (GG (nf + 40) (nc + 4) (ns + 101)) μ := by
  refine c_rack_i hR ha hb hz (fun μ1 hr => ?_)
  have hv := hr.1.vq
  have hM1 := hr.1.shm hM
  have hR1 := hR.cgn hv
  exact ⟨_, rfl, hM1.1 44 (by decide) (by decide), m_rack_ti hM1 hR1.wt ha hb (by rw [hv.y_i 50 b (by decide) (by decide) (by decide)]; exact h1) (by rw [hv.y_i 50 b (by decide) (by decide) (by decide)]; exact h2) (by rw [hv.y_tp, hv.y_kd]; exact h4) (by rw [hv.y_rK, hv.y_nw]; exact hz) (⟨by rfl, GG.of hr hM1 (by omega) (by omega) (by omega) (by rw [hv.y_rK, hv.y_rV, hv.y_nw, hz]; exact (hv.y_wr _ _ _ _).y_met _) ((pq_wr _ _ _ _ _).tr (pq_met _ _))⟩)⟩
theorem o_rack_nr {a b : Nat} {i : Int32} {μ : xM} {φ κ : Nat → Nat} {nf nc ns : Nat} (hR : Rel μ μ μ φ κ (nf, nc, ns, fun _ => False)) (hM : ShM μ) (ha : a < 16) (hb : b < 16) (h1 : mI μ 50 b = -1) (hz : ¬ noWriteM μ a i (rackK μ b) = 0) : Oi kX4_rack kX5_rack [.int (nI a), .int (i), .int (nI b)] (GG (nf + 40) (nc + 4) (ns + 101)) μ := by
  refine c_rack_r hR ha hb hz (fun μ1 hr => ?_)
  have hv := hr.1.vq
  have hM1 := hr.1.shm hM
  have hR1 := hR.cgn hv
  exact ⟨_, rfl, hM1.1 44 (by decide) (by decide), m_rack_nr hM1 hR1.wt ha hb (by rw [hv.y_i 50 b (by decide) (by decide) (by decide)]; exact h1) (by rw [hv.y_rK, hv.y_nw]; exact hz) (⟨by rw [hv.y_rK, hv.y_nw], GG.of hr hM1 (by omega) (by omega) (by omega) (by rw [hv.y_rK, hv.y_rV, hv.y_nw]; have w := hv.y_wr a i (rackK μ b) (rackV μ b); rw [show writesM μ a i (rackK μ b) (rackV μ b) = μ by unfold writesM; rw [if_neg hz]] at w; exact w.y_met _) ((pq_wr _ _ _ _ _).tr (pq_met _ _))⟩)⟩
theorem o_rack_pr {a b : Nat} {i : Int32} {μ : xM} {φ κ : Nat → Nat} {nf nc ns : Nat} (hR : Rel μ μ μ φ κ (nf, nc, ns, fun _ => False)) (hM : ShM μ) (ha : a < 16) (hb : b < 16) (h1 : mI μ 50 b = -2) (hz : ¬ noWriteM μ a i (rackK μ b) = 0) : Oi kX4_rack kX5_rack [.int (nI a), .int (i), .int (nI b)] (GG (nf + 40) (nc + 4) (ns + 101)) μ := by
  refine c_rack_r hR ha hb hz (fun μ1 hr => ?_)
  have hv := hr.1.vq
  have hM1 := hr.1.shm hM
  have hR1 := hR.cgn hv
  exact ⟨_, rfl, hM1.1 44 (by decide) (by decide), m_rack_pr hM1 hR1.wt ha hb (by rw [hv.y_i 50 b (by decide) (by decide) (by decide)]; exact h1) (by rw [hv.y_rK, hv.y_nw]; exact hz) (⟨by rw [hv.y_rK, hv.y_nw], GG.of hr hM1 (by omega) (by omega) (by omega) (by rw [hv.y_rK, hv.y_rV, hv.y_nw]; have w := hv.y_wr a i (rackK μ b) (rackV μ b); rw [show writesM μ a i (rackK μ b) (rackV μ b) = μ by unfold writesM; rw [if_neg hz]] at w; exact w.y_met _) ((pq_wr _ _ _ _ _).tr (pq_met _ _))⟩)⟩
theorem o_rack_kr {a b : Nat} {i : Int32} {μ : xM} {φ κ : Nat → Nat} {nf nc ns : Nat} (hR : Rel μ μ μ φ κ (nf, nc, ns, fun _ => False)) (hM : ShM μ) (ha : a < 16) (hb : b < 16) (h1 : ¬ mI μ 50 b = -1) (h2 : ¬ mI μ 50 b = -2) (h4 : ¬ kd μ (tp μ b) = 4) (hz : ¬ noWriteM μ a i (rackK μ b) = 0) : Oi kX4_rack kX5_rack [.int (nI a), .int (i), .int (nI b)] (GG (nf + 40) (nc + 4) (ns + 101)) μ := by
  refine c_rack_r hR ha hb hz (fun μ1 hr => ?_)
  have hv := hr.1.vq
  have hM1 := hr.1.shm hM
  have hR1 := hR.cgn hv
  exact ⟨_, rfl, hM1.1 44 (by decide) (by decide), m_rack_kr hM1 hR1.wt ha hb (by rw [hv.y_i 50 b (by decide) (by decide) (by decide)]; exact h1) (by rw [hv.y_i 50 b (by decide) (by decide) (by decide)]; exact h2) (by rw [hv.y_tp, hv.y_kd]; exact h4) (by rw [hv.y_rK, hv.y_nw]; exact hz) (⟨by rw [hv.y_rK, hv.y_nw], GG.of hr hM1 (by omega) (by omega) (by omega) (by rw [hv.y_rK, hv.y_rV, hv.y_nw]; have w := hv.y_wr a i (rackK μ b) (rackV μ b); rw [show writesM μ a i (rackK μ b) (rackV μ b) = μ by unfold writesM; rw [if_neg hz]] at w; exact w.y_met _) ((pq_wr _ _ _ _ _).tr (pq_met _ _))⟩)⟩
theorem o_rack_tr {a b : Nat} {i : Int32} {μ : xM} {φ κ : Nat → Nat} {nf nc ns : Nat} (hR : Rel μ μ μ φ κ (nf, nc, ns, fun _ => False)) (hM : ShM μ) (ha : a < 16) (hb : b < 16) (h1 : ¬ mI μ 50 b = -1) (h2 : ¬ mI μ 50 b = -2) (h4 : kd μ (tp μ b) = 4) (hz : ¬ noWriteM μ a i (rackK μ b) = 0) : Oi kX4_rack kX5_rack [.int (nI a), .int (i), .int (nI b)] (GG (nf + 40) (nc + 4) (ns + 101)) μ := by
  refine c_rack_r hR ha hb hz (fun μ1 hr => ?_)
  have hv := hr.1.vq
  have hM1 := hr.1.shm hM
  have hR1 := hR.cgn hv
  exact ⟨_, rfl, hM1.1 44 (by decide) (by decide), m_rack_tr hM1 hR1.wt ha hb (by rw [hv.y_i 50 b (by decide) (by decide) (by decide)]; exact h1) (by rw [hv.y_i 50 b (by decide) (by decide) (by decide)]; exact h2) (by rw [hv.y_tp, hv.y_kd]; exact h4) (by rw [hv.y_rK, hv.y_nw]; exact hz) (⟨by rw [hv.y_rK, hv.y_nw], GG.of hr hM1 (by omega) (by omega) (by omega) (by rw [hv.y_rK, hv.y_rV, hv.y_nw]; have w := hv.y_wr a i (rackK μ b) (rackV μ b); rw [show writesM μ a i (rackK μ b) (rackV μ b) = μ by unfold writesM; rw [if_neg hz]] at w; exact w.y_met _) ((pq_wr _ _ _ _ _).tr (pq_met _ _))⟩)⟩
theorem o_unrack_r1 {a b : Nat} {i : Int32} {μ : xM} {φ κ : Nat → Nat} {nf nc ns : Nat} (hR : Rel μ μ μ φ κ (nf, nc, ns, fun _ => False)) (hM : ShM μ) (ha : a < 16) (hb : b < 16) (hz : ¬ noPlaceM μ a i = 0) : Oi kX4_unrack kX5_unrack [.int (nI a), .int (i), .int (nI b)] (GG (nf + 40) (nc + 4) (ns + 101)) μ := by
  refine c_unrack_r1 hR ha hb hz (fun μ1 hr => ?_)
  have hv := hr.1.vq
  have hM1 := hr.1.shm hM
  have hR1 := hR.cgn hv
  exact ⟨_, rfl, hM1.1 44 (by decide) (by decide), m_unrack_r1 hM1 hR1.wt ha hb (by rw [hv.y_np]; exact hz) (⟨by rw [hv.y_np], GG.of hr hM1 (by omega) (by omega) (by omega) (by rw [hv.y_np]; exact hv.y_met _) (pq_met _ _)⟩)⟩
theorem o_unrack_r2 {a b : Nat} {i : Int32} {μ : xM} {φ κ : Nat → Nat} {nf nc ns : Nat} (hR : Rel μ μ μ φ κ (nf, nc, ns, fun _ => False)) (hM : ShM μ) (ha : a < 16) (hb : b < 16) (hz : noPlaceM μ a i = 0) (hk : cellKindM μ (tp μ a) (ix i) < 10) : Oi kX4_unrack kX5_unrack [.int (nI a), .int (i), .int (nI b)] (GG (nf + 40) (nc + 4) (ns + 101)) μ := by
  refine c_unrack_r2 hR ha hb hz hk (fun μ1 hr => ?_)
  have hv := hr.1.vq
  have hM1 := hr.1.shm hM
  have hR1 := hR.cgn hv
  exact ⟨_, rfl, hM1.1 44 (by decide) (by decide), m_unrack_r2 hM1 hR1.wt ha hb (by rw [hv.y_np]; exact hz) (by rw [hv.y_tp, hv.y_ck]; exact hk) (⟨by rfl, GG.of hr hM1 (by omega) (by omega) (by omega) (hv.y_met _) (pq_met _ _)⟩)⟩
theorem o_unrack_e {a b : Nat} {i : Int32} {μ : xM} {φ κ : Nat → Nat} {nf nc ns : Nat} (hR : Rel μ μ μ φ κ (nf, nc, ns, fun _ => False)) (hM : ShM μ) (ha : a < 16) (hb : b < 16) (hz : noPlaceM μ a i = 0) (hk : cellKindM μ (tp μ a) (ix i) = 11) : Oi kX4_unrack kX5_unrack [.int (nI a), .int (i), .int (nI b)] (GG (nf + 40) (nc + 4) (ns + 101)) μ := by
  refine c_unrack_e hR ha hb hz hk (fun μ1 hr => ?_)
  have hv := hr.1.vq
  have hM1 := hr.1.shm hM
  have hR1 := hR.cgn hv
  exact ⟨_, rfl, hM1.1 44 (by decide) (by decide), m_unrack_e hM1 hR1.wt ha hb (by rw [hv.y_np]; exact hz) (by rw [hv.y_tp, hv.y_ck]; exact hk) (⟨by rfl, GG.of hr hM1 (by omega) (by omega) (by omega) ((hv.y_met 0).y_sI 50 b (-1)) ((pq_met _ _).tr (pq_sI _ _ _ _ (by decide) (by decide)))⟩)⟩
theorem o_unrack_t {a b : Nat} {i : Int32} {μ : xM} {φ κ : Nat → Nat} {nf nc ns : Nat} (hR : Rel μ μ μ φ κ (nf, nc, ns, fun _ => False)) (hM : ShM μ) (ha : a < 16) (hb : b < 16) (hz : noPlaceM μ a i = 0) (hk : cellKindM μ (tp μ a) (ix i) = 10) : Oi kX4_unrack kX5_unrack [.int (nI a), .int (i), .int (nI b)] (GG (nf + 40) (nc + 4) (ns + 101)) μ := by
  refine c_unrack_t hR ha hb hz hk (fun μ1 hr => ?_)
  have hv := hr.1.vq
  have hM1 := hr.1.shm hM
  have hR1 := hR.cgn hv
  exact ⟨_, rfl, hM1.1 44 (by decide) (by decide), m_unrack_t hM1 hR1.wt ha hb (by rw [hv.y_np]; exact hz) (by rw [hv.y_tp, hv.y_ck]; exact hk) (⟨by rw [hv.y_tp, hv.y_cv, hv.y_i 46 _ (by decide) (by decide) (by decide)], GG.of hr hM1 (by omega) (by omega) (by omega) (by rw [hv.y_tp, hv.y_cv]; exact (hv.y_met 0).y_sI 50 b _) ((pq_met _ _).tr (pq_sI _ _ _ _ (by decide) (by decide)))⟩)⟩
theorem o_stamp_o1 {c i k : Int32} {v : Int64} {μ : xM} {φ κ : Nat → Nat} {nf nc ns : Nat} (hR : Rel μ μ μ φ κ (nf, nc, ns, fun _ => False)) (hM : ShM μ) (hc : rng c 16 = none) : Oi kX4_stamp kX5_stamp [.int (c), .int (i), .int (k), .long v] (GG (nf + 40) (nc + 4) (ns + 101)) μ := by
  refine c_stamp_o1 hR hc (fun μ1 hr => ?_)
  have hv := hr.1.vq
  have hM1 := hr.1.shm hM
  have hR1 := hR.cgn hv
  exact ⟨_, rfl, hM1.1 44 (by decide) (by decide), m_stamp_o1 hc (⟨by rfl, GG.of hr hM1 (by omega) (by omega) (by omega) hv (Pq.rf _)⟩)⟩
theorem o_stamp_o2 {a : Nat} {i k : Int32} {v : Int64} {μ : xM} {φ κ : Nat → Nat} {nf nc ns : Nat} (hR : Rel μ μ μ φ κ (nf, nc, ns, fun _ => False)) (hM : ShM μ) (ha : a < 16) (hk : rng k 8 = none) : Oi kX4_stamp kX5_stamp [.int (nI a), .int (i), .int (k), .long v] (GG (nf + 40) (nc + 4) (ns + 101)) μ := by
  refine c_stamp_o2 hR ha hk (fun μ1 hr => ?_)
  have hv := hr.1.vq
  have hM1 := hr.1.shm hM
  have hR1 := hR.cgn hv
  exact ⟨_, rfl, hM1.1 44 (by decide) (by decide), m_stamp_o2 ha hk (⟨by rfl, GG.of hr hM1 (by omega) (by omega) (by omega) hv (Pq.rf _)⟩)⟩
theorem o_stamp_n1 {a k : Nat} {i : Int32} {v : Int64} {μ : xM} {φ κ : Nat → Nat} {nf nc ns : Nat} (hR : Rel μ μ μ φ κ (nf, nc, ns, fun _ => False)) (hM : ShM μ) (ha : a < 16) (hk : k < 8) (h0 : ¬ noTapeM μ a = 0) : Oi kX4_stamp kX5_stamp [.int (nI a), .int (i), .int (nI k), .long v] (GG (nf + 40) (nc + 4) (ns + 101)) μ := by
  have ep : noPlainM μ a i = noTapeM μ a := by unfold noPlainM; rw [if_neg h0]
  refine c_stamp_n1 hR ha hk h0 (fun μ1 hr => ?_)
  have hv := hr.1.vq
  have hM1 := hr.1.shm hM
  have hR1 := hR.cgn hv
  exact ⟨_, rfl, hM1.1 44 (by decide) (by decide), m_stamp_r1 hM1 hR1.wt ha hk (by rw [hv.y_npl, ep]; exact h0) (⟨by rw [hv.y_npl, ep], GG.of hr hM1 (by omega) (by omega) (by omega) (by rw [hv.y_npl, ep]; exact hv.y_met _) (pq_met _ _)⟩)⟩
theorem o_stamp_n2 {a k : Nat} {i : Int32} {v : Int64} {μ : xM} {φ κ : Nat → Nat} {nf nc ns : Nat} (hR : Rel μ μ μ φ κ (nf, nc, ns, fun _ => False)) (hM : ShM μ) (ha : a < 16) (hk : k < 8) (h0 : noTapeM μ a = 0) (h8 : ¬ kd μ (tp μ a) < 8) : Oi kX4_stamp kX5_stamp [.int (nI a), .int (i), .int (nI k), .long v] (GG (nf + 40) (nc + 4) (ns + 101)) μ := by
  have ep : noPlainM μ a i = 2 := by unfold noPlainM; rw [if_pos h0, if_neg h8]
  refine c_stamp_n2 hR ha hk h0 h8 (fun μ1 hr => ?_)
  have hv := hr.1.vq
  have hM1 := hr.1.shm hM
  have hR1 := hR.cgn hv
  exact ⟨_, rfl, hM1.1 44 (by decide) (by decide), m_stamp_r1 hM1 hR1.wt ha hk (by rw [hv.y_npl, ep]; decide) (⟨by rw [hv.y_npl, ep], GG.of hr hM1 (by omega) (by omega) (by omega) (by rw [hv.y_npl, ep]; exact hv.y_met _) (pq_met _ _)⟩)⟩
theorem o_probe_o1 {c i k : Int32} {μ : xM} {φ κ : Nat → Nat} {nf nc ns : Nat} (hR : Rel μ μ μ φ κ (nf, nc, ns, fun _ => False)) (hM : ShM μ) (hc : rng c 16 = none) : Ol kX4_probe kX5_probe [.int (c), .int (i), .int (k)] (GG (nf + 40) (nc + 4) (ns + 101)) μ := by
  refine c_probe_o1 hR hc (fun μ1 hr => ?_)
  have hv := hr.1.vq
  have hM1 := hr.1.shm hM
  have hR1 := hR.cgn hv
  exact ⟨_, rfl, hM1.1 44 (by decide) (by decide), m_probe_o1 hc (⟨by rfl, GG.of hr hM1 (by omega) (by omega) (by omega) hv (Pq.rf _)⟩)⟩
theorem o_probe_o2 {a : Nat} {i k : Int32} {μ : xM} {φ κ : Nat → Nat} {nf nc ns : Nat} (hR : Rel μ μ μ φ κ (nf, nc, ns, fun _ => False)) (hM : ShM μ) (ha : a < 16) (hk : rng k 8 = none) : Ol kX4_probe kX5_probe [.int (nI a), .int (i), .int (k)] (GG (nf + 40) (nc + 4) (ns + 101)) μ := by
  refine c_probe_o2 hR ha hk (fun μ1 hr => ?_)
  have hv := hr.1.vq
  have hM1 := hr.1.shm hM
  have hR1 := hR.cgn hv
  exact ⟨_, rfl, hM1.1 44 (by decide) (by decide), m_probe_o2 ha hk (⟨by rfl, GG.of hr hM1 (by omega) (by omega) (by omega) hv (Pq.rf _)⟩)⟩
theorem o_probe_n1 {a k : Nat} {i : Int32} {μ : xM} {φ κ : Nat → Nat} {nf nc ns : Nat} (hR : Rel μ μ μ φ κ (nf, nc, ns, fun _ => False)) (hM : ShM μ) (ha : a < 16) (hk : k < 8) (h0 : ¬ noTapeM μ a = 0) : Ol kX4_probe kX5_probe [.int (nI a), .int (i), .int (nI k)] (GG (nf + 40) (nc + 4) (ns + 101)) μ := by
  have ep : noPlainM μ a i = noTapeM μ a := by unfold noPlainM; rw [if_neg h0]
  refine c_probe_n1 hR ha hk h0 (fun μ1 hr => ?_)
  have hv := hr.1.vq
  have hM1 := hr.1.shm hM
  have hR1 := hR.cgn hv
  exact ⟨_, rfl, hM1.1 44 (by decide) (by decide), m_probe_r1 hM1 hR1.wt ha hk (by rw [hv.y_npl, ep]; exact h0) (⟨by rfl, GG.of hr hM1 (by omega) (by omega) (by omega) (by rw [hv.y_npl, ep]; exact hv.y_met _) (pq_met _ _)⟩)⟩
theorem o_probe_n2 {a k : Nat} {i : Int32} {μ : xM} {φ κ : Nat → Nat} {nf nc ns : Nat} (hR : Rel μ μ μ φ κ (nf, nc, ns, fun _ => False)) (hM : ShM μ) (ha : a < 16) (hk : k < 8) (h0 : noTapeM μ a = 0) (h8 : ¬ kd μ (tp μ a) < 8) : Ol kX4_probe kX5_probe [.int (nI a), .int (i), .int (nI k)] (GG (nf + 40) (nc + 4) (ns + 101)) μ := by
  have ep : noPlainM μ a i = 2 := by unfold noPlainM; rw [if_pos h0, if_neg h8]
  refine c_probe_n2 hR ha hk h0 h8 (fun μ1 hr => ?_)
  have hv := hr.1.vq
  have hM1 := hr.1.shm hM
  have hR1 := hR.cgn hv
  exact ⟨_, rfl, hM1.1 44 (by decide) (by decide), m_probe_r1 hM1 hR1.wt ha hk (by rw [hv.y_npl, ep]; decide) (⟨by rfl, GG.of hr hM1 (by omega) (by omega) (by omega) (by rw [hv.y_npl, ep]; exact hv.y_met _) (pq_met _ _)⟩)⟩
theorem o_stamp_n3a {a k : Nat} {i : Int32} {v : Int64} {μ : xM} {φ κ : Nat → Nat} {nf nc ns : Nat} (hR : Rel μ μ μ φ κ (nf, nc, ns, fun _ => False)) (hM : ShM μ) (ha : a < 16) (hk : k < 8) (h0 : noTapeM μ a = 0) (h8 : kd μ (tp μ a) < 8) (hz : ¬ noPlaceM μ a i = 0) : Oi kX4_stamp kX5_stamp [.int (nI a), .int (i), .int (nI k), .long v] (GG (nf + 40) (nc + 4) (ns + 101)) μ := by
  have ep : noPlainM μ a i = noPlaceM μ a i := by unfold noPlainM; rw [if_pos h0, if_pos h8]
  have e11 : ¬ (kd μ (tp μ a) < 8 ∧ k = 11) := by omega
  have ew : noWriteM μ a i k = noPlaceM μ a i := by unfold noWriteM; rw [if_pos h0, if_neg e11, if_neg hz]
  refine c_stamp_n3 hR ha hk h0 h8 (by rw [ew]; exact hz) (fun μ1 hr => ?_)
  have hv := hr.1.vq
  have hM1 := hr.1.shm hM
  have hR1 := hR.cgn hv
  exact ⟨_, rfl, hM1.1 44 (by decide) (by decide), m_stamp_r1 hM1 hR1.wt ha hk (by rw [hv.y_npl, ep]; exact hz) (⟨by rw [hv.y_npl, ep, ew], GG.of hr hM1 (by omega) (by omega) (by omega) (by rw [hv.y_npl, ep, ew]; exact hv.y_met _) (pq_met _ _)⟩)⟩
theorem o_stamp_n3b {a k : Nat} {i : Int32} {v : Int64} {μ : xM} {φ κ : Nat → Nat} {nf nc ns : Nat} (hR : Rel μ μ μ φ κ (nf, nc, ns, fun _ => False)) (hM : ShM μ) (ha : a < 16) (hk : k < 8) (h0 : noTapeM μ a = 0) (h8 : kd μ (tp μ a) < 8) (hz : noPlaceM μ a i = 0) (ht : takesM (kd μ (tp μ a)) k = false) : Oi kX4_stamp kX5_stamp [.int (nI a), .int (i), .int (nI k), .long v] (GG (nf + 40) (nc + 4) (ns + 101)) μ := by
  have ep : noPlainM μ a i = noPlaceM μ a i := by unfold noPlainM; rw [if_pos h0, if_pos h8]
  have ew : noWriteM μ a i k = 2 := by rw [noWrite_eq hz]; unfold noTakeM; rw [ht]; rfl
  refine c_stamp_n3 hR ha hk h0 h8 (by rw [ew]; decide) (fun μ1 hr => ?_)
  have hv := hr.1.vq
  have hM1 := hr.1.shm hM
  have hR1 := hR.cgn hv
  exact ⟨_, rfl, hM1.1 44 (by decide) (by decide), m_stamp_r2 hM1 hR1.wt ha hk (by rw [hv.y_npl, ep]; exact hz) (by rw [hv.y_tp, hv.y_kd]; exact ht) (⟨by rw [ew], GG.of hr hM1 (by omega) (by omega) (by omega) (by rw [ew]; exact hv.y_met _) (pq_met _ _)⟩)⟩
theorem o_stamp_in {a k : Nat} {i : Int32} {v : Int64} {μ : xM} {φ κ : Nat → Nat} {nf nc ns : Nat} (hR : Rel μ μ μ φ κ (nf, nc, ns, fun _ => False)) (hM : ShM μ) (ha : a < 16) (hk : k < 8) (h0 : noTapeM μ a = 0) (h8 : kd μ (tp μ a) < 8) (hz : noPlaceM μ a i = 0) (ht : takesM (kd μ (tp μ a)) k = true) : Oi kX4_stamp kX5_stamp [.int (nI a), .int (i), .int (nI k), .long v] (GG (nf + 40) (nc + 4) (ns + 101)) μ := by
  have ep : noPlainM μ a i = noPlaceM μ a i := by unfold noPlainM; rw [if_pos h0, if_pos h8]
  have ew : noWriteM μ a i k = 0 := by rw [noWrite_eq hz]; unfold noTakeM; rw [ht]; rfl
  refine c_stamp_in hR ha hk h0 h8 ew (fun μ1 hr => ?_)
  have hv := hr.1.vq
  have hM1 := hr.1.shm hM
  have hR1 := hR.cgn hv
  exact ⟨_, rfl, hM1.1 44 (by decide) (by decide), m_stamp_in hM1 hR1.wt ha hk (by rw [hv.y_npl, ep]; exact hz) (by rw [hv.y_tp, hv.y_kd]; exact ht) (⟨by rfl, GG.of hr hM1 (by omega) (by omega) (by omega) (by rw [hv.y_tp, hv.y_kd]; have w := (hv.y_met 0).y_sJ (32 * tp μ a + ix i) (fitM (kd μ (tp μ a)) (fitM k v)); unfold writesM; rw [if_pos ew]; exact w) ((pq_met _ _).tr (pq_sJ _ _ _))⟩)⟩
theorem o_probe_n3 {a k : Nat} {i : Int32} {μ : xM} {φ κ : Nat → Nat} {nf nc ns : Nat} (hR : Rel μ μ μ φ κ (nf, nc, ns, fun _ => False)) (hM : ShM μ) (ha : a < 16) (hk : k < 8) (h0 : noTapeM μ a = 0) (h8 : kd μ (tp μ a) < 8) (hz : ¬ noPlaceM μ a i = 0) : Ol kX4_probe kX5_probe [.int (nI a), .int (i), .int (nI k)] (GG (nf + 40) (nc + 4) (ns + 101)) μ := by
  have ep : noPlainM μ a i = noPlaceM μ a i := by unfold noPlainM; rw [if_pos h0, if_pos h8]
  refine c_probe_n3 hR ha hk h0 h8 hz (fun μ1 hr => ?_)
  have hv := hr.1.vq
  have hM1 := hr.1.shm hM
  have hR1 := hR.cgn hv
  exact ⟨_, rfl, hM1.1 44 (by decide) (by decide), m_probe_r1 hM1 hR1.wt ha hk (by rw [hv.y_npl, ep]; exact hz) (⟨by rfl, GG.of hr hM1 (by omega) (by omega) (by omega) (by rw [hv.y_npl, ep]; exact hv.y_met _) (pq_met _ _)⟩)⟩
theorem o_probe_n4 {a k : Nat} {i : Int32} {μ : xM} {φ κ : Nat → Nat} {nf nc ns : Nat} (hR : Rel μ μ μ φ κ (nf, nc, ns, fun _ => False)) (hM : ShM μ) (ha : a < 16) (hk : k < 8) (h0 : noTapeM μ a = 0) (h8 : kd μ (tp μ a) < 8) (hz : noPlaceM μ a i = 0) (ht : takesM k (kd μ (tp μ a)) = false) : Ol kX4_probe kX5_probe [.int (nI a), .int (i), .int (nI k)] (GG (nf + 40) (nc + 4) (ns + 101)) μ := by
  have ep : noPlainM μ a i = noPlaceM μ a i := by unfold noPlainM; rw [if_pos h0, if_pos h8]
  have eK : cellKindM μ (tp μ a) (ix i) = kd μ (tp μ a) := by unfold cellKindM; rw [if_pos h8]
  have eN : numM μ (tp μ a) (ix i) = cv μ (tp μ a) (ix i) := by unfold numM; rw [if_neg (by omega)]
  refine c_probe_n4 hR ha hk h0 h8 hz (by rw [eK]; exact ht) (fun μ1 hr => ?_)
  have hv := hr.1.vq
  have hM1 := hr.1.shm hM
  have hR1 := hR.cgn hv
  exact ⟨_, rfl, hM1.1 44 (by decide) (by decide), m_probe_r2 hM1 hR1.wt ha hk (by rw [hv.y_npl, ep]; exact hz) (by rw [hv.y_tp, hv.y_kd]; exact ht) (⟨by rfl, GG.of hr hM1 (by omega) (by omega) (by omega) (hv.y_met _) (pq_met _ _)⟩)⟩
theorem o_probe_in {a k : Nat} {i : Int32} {μ : xM} {φ κ : Nat → Nat} {nf nc ns : Nat} (hR : Rel μ μ μ φ κ (nf, nc, ns, fun _ => False)) (hM : ShM μ) (ha : a < 16) (hk : k < 8) (h0 : noTapeM μ a = 0) (h8 : kd μ (tp μ a) < 8) (hz : noPlaceM μ a i = 0) (ht : takesM k (kd μ (tp μ a)) = true) : Ol kX4_probe kX5_probe [.int (nI a), .int (i), .int (nI k)] (GG (nf + 40) (nc + 4) (ns + 101)) μ := by
  have ep : noPlainM μ a i = noPlaceM μ a i := by unfold noPlainM; rw [if_pos h0, if_pos h8]
  have eK : cellKindM μ (tp μ a) (ix i) = kd μ (tp μ a) := by unfold cellKindM; rw [if_pos h8]
  have eN : numM μ (tp μ a) (ix i) = cv μ (tp μ a) (ix i) := by unfold numM; rw [if_neg (by omega)]
  refine c_probe_in hR ha hk h0 h8 hz (by rw [eK]; exact ht) (fun μ1 hr => ?_)
  have hv := hr.1.vq
  have hM1 := hr.1.shm hM
  have hR1 := hR.cgn hv
  exact ⟨_, rfl, hM1.1 44 (by decide) (by decide), m_probe_in hM1 hR1.wt ha hk (by rw [hv.y_npl, ep]; exact hz) (by rw [hv.y_tp, hv.y_kd]; exact ht) (⟨by rw [hv.y_tp, hv.y_cv, eN], GG.of hr hM1 (by omega) (by omega) (by omega) (hv.y_met _) (pq_met _ _)⟩)⟩
theorem o_tag_o {c i s : Int32} {μ : xM} {φ κ : Nat → Nat} {nf nc ns : Nat} (hR : Rel μ μ μ φ κ (nf, nc, ns, fun _ => False)) (hM : ShM μ) (hc : rng c 16 = none) : Oi kX4_tag kX5_tag [.int (c), .int (i), .int (s)] (GG (nf + 40) (nc + 4) (ns + 101)) μ := by
  refine c_tag_o hR hc (fun μ1 hr => ?_)
  have hv := hr.1.vq
  have hM1 := hr.1.shm hM
  have hR1 := hR.cgn hv
  exact ⟨_, rfl, hM1.1 44 (by decide) (by decide), m_tag_o hc (⟨by rfl, GG.of hr hM1 (by omega) (by omega) (by omega) hv (Pq.rf _)⟩)⟩
theorem o_tag_full {a : Nat} {i s : Int32} {μ : xM} {φ κ : Nat → Nat} {nf nc ns : Nat} (hR : Rel μ μ μ φ κ (nf, nc, ns, fun _ => False)) (hM : ShM μ) (ha : a < 16) (hg : gM μ = 200) : Oi kX4_tag kX5_tag [.int (nI a), .int (i), .int (s)] (GG (nf + 40) (nc + 4) (ns + 101)) μ := by
  refine c_tag_full hR ha hg (fun μ1 hr => ?_)
  have hv := hr.1.vq
  have hM1 := hr.1.shm hM
  have hR1 := hR.cgn hv
  exact ⟨_, rfl, hM1.1 44 (by decide) (by decide), m_tag_full hM1 hR1.wg ha (by rw [hv.y_g]; exact hg) (⟨by rfl, GG.of hr hM1 (by omega) (by omega) (by omega) hv (Pq.rf _)⟩)⟩
theorem o_tag_in0 {a : Nat} {i s : Int32} {μ : xM} {φ κ : Nat → Nat} {nf nc ns : Nat} (hR : Rel μ μ μ φ κ (nf, nc, ns, fun _ => False)) (hM : ShM μ) (ha : a < 16) (hg : ¬ gM μ = 200) (hs : s = 0) (hz : noWriteM μ a i (tagK s) = 0) : Oi kX4_tag kX5_tag [.int (nI a), .int (i), .int (s)] (GG (nf + 40) (nc + 4) (ns + 101)) μ := by
  refine c_tag_in0 hR ha hg hs hz (fun μ1 hr => ?_)
  have hv := hr.1.vq
  have hM1 := hr.1.shm hM
  have hR1 := hR.cgn hv
  exact ⟨_, rfl, hM1.1 44 (by decide) (by decide), m_tag_in0 hM1 hR1.wt hR1.wg ha (by rw [hv.y_g]; exact hg) hs (by rw [hv.y_nw]; exact hz) (⟨by rw [hv.y_g], GG.of hr hM1 (by omega) (by omega) (by omega) (by rw [hv.y_g, hv.y_nw, hz]; exact ((hv.y_tag1 s).y_wr _ _ _ _).y_met _) (((pq_tag1 _ _).tr (pq_wr _ _ _ _ _)).tr (pq_met _ _))⟩)⟩
theorem o_tag_r0 {a : Nat} {i s : Int32} {μ : xM} {φ κ : Nat → Nat} {nf nc ns : Nat} (hR : Rel μ μ μ φ κ (nf, nc, ns, fun _ => False)) (hM : ShM μ) (ha : a < 16) (hg : ¬ gM μ = 200) (hs : s = 0) (hz : ¬ noWriteM μ a i (tagK s) = 0) : Oi kX4_tag kX5_tag [.int (nI a), .int (i), .int (s)] (GG (nf + 40) (nc + 4) (ns + 101)) μ := by
  refine c_tag_r0 hR ha hg hs hz (fun μ1 hr => ?_)
  have hv := hr.1.vq
  have hM1 := hr.1.shm hM
  have hR1 := hR.cgn hv
  exact ⟨_, rfl, hM1.1 44 (by decide) (by decide), m_tag_r0 hM1 hR1.wt hR1.wg ha (by rw [hv.y_g]; exact hg) hs (by rw [hv.y_nw]; exact hz) (⟨by rw [hv.y_nw], GG.of hr hM1 (by omega) (by omega) (by omega) (by rw [hv.y_g, hv.y_nw]; have w := (hv.y_tag1 s).y_wr a i (tagK s) (lN (gM μ + 1)); rw [show writesM (tag1M μ s) a i (tagK s) (lN (gM μ + 1)) = tag1M μ s by unfold writesM; rw [if_neg (show ¬ noWriteM (tag1M μ s) a i (tagK s) = 0 from hz)]] at w; exact w.y_met _) (((pq_tag1 _ _).tr (pq_wr _ _ _ _ _)).tr (pq_met _ _))⟩)⟩
theorem o_tag_in1 {a : Nat} {i s : Int32} {μ : xM} {φ κ : Nat → Nat} {nf nc ns : Nat} (hR : Rel μ μ μ φ κ (nf, nc, ns, fun _ => False)) (hM : ShM μ) (ha : a < 16) (hg : ¬ gM μ = 200) (hs : s = 1) (hz : noWriteM μ a i (tagK s) = 0) : Oi kX4_tag kX5_tag [.int (nI a), .int (i), .int (s)] (GG (nf + 40) (nc + 4) (ns + 101)) μ := by
  refine c_tag_in1 hR ha hg hs hz (fun μ1 hr => ?_)
  have hv := hr.1.vq
  have hM1 := hr.1.shm hM
  have hR1 := hR.cgn hv
  exact ⟨_, rfl, hM1.1 44 (by decide) (by decide), m_tag_in1 hM1 hR1.wt hR1.wg ha (by rw [hv.y_g]; exact hg) hs (by rw [hv.y_nw]; exact hz) (⟨by rw [hv.y_g], GG.of hr hM1 (by omega) (by omega) (by omega) (by rw [hv.y_g, hv.y_nw, hz]; exact ((hv.y_tag1 s).y_wr _ _ _ _).y_met _) (((pq_tag1 _ _).tr (pq_wr _ _ _ _ _)).tr (pq_met _ _))⟩)⟩
theorem o_tag_r1 {a : Nat} {i s : Int32} {μ : xM} {φ κ : Nat → Nat} {nf nc ns : Nat} (hR : Rel μ μ μ φ κ (nf, nc, ns, fun _ => False)) (hM : ShM μ) (ha : a < 16) (hg : ¬ gM μ = 200) (hs : s = 1) (hz : ¬ noWriteM μ a i (tagK s) = 0) : Oi kX4_tag kX5_tag [.int (nI a), .int (i), .int (s)] (GG (nf + 40) (nc + 4) (ns + 101)) μ := by
  refine c_tag_r1 hR ha hg hs hz (fun μ1 hr => ?_)
  have hv := hr.1.vq
  have hM1 := hr.1.shm hM
  have hR1 := hR.cgn hv
  exact ⟨_, rfl, hM1.1 44 (by decide) (by decide), m_tag_r1 hM1 hR1.wt hR1.wg ha (by rw [hv.y_g]; exact hg) hs (by rw [hv.y_nw]; exact hz) (⟨by rw [hv.y_nw], GG.of hr hM1 (by omega) (by omega) (by omega) (by rw [hv.y_g, hv.y_nw]; have w := (hv.y_tag1 s).y_wr a i (tagK s) (lN (gM μ + 1)); rw [show writesM (tag1M μ s) a i (tagK s) (lN (gM μ + 1)) = tag1M μ s by unfold writesM; rw [if_neg (show ¬ noWriteM (tag1M μ s) a i (tagK s) = 0 from hz)]] at w; exact w.y_met _) (((pq_tag1 _ _).tr (pq_wr _ _ _ _ _)).tr (pq_met _ _))⟩)⟩
theorem o_cable_o1a {k c d : Int32} {μ : xM} {φ κ : Nat → Nat} {nf nc ns : Nat} (hR : Rel μ μ μ φ κ (nf, nc, ns, fun _ => False)) (hM : ShM μ) (hk : rng k 4 = none) (hc : rng c 16 = none) (hd : rng d 16 = none) : Oi kX4_cable kX5_cable [.int (k), .int (c), .int (d)] (GG (nf + 40) (nc + 4) (ns + 101)) μ := by
  refine c_cable_o1a hR hk hc hd (fun μ1 hr => ?_)
  have hv := hr.1.vq
  have hM1 := hr.1.shm hM
  have hR1 := hR.cgn hv
  exact ⟨_, rfl, hM1.1 44 (by decide) (by decide), m_cable_o1 hk (⟨by rfl, GG.of hr hM1 (by omega) (by omega) (by omega) hv (Pq.rf _)⟩)⟩
theorem o_cable_o1b {k c : Int32} {b : Nat} {μ : xM} {φ κ : Nat → Nat} {nf nc ns : Nat} (hR : Rel μ μ μ φ κ (nf, nc, ns, fun _ => False)) (hM : ShM μ) (hk : rng k 4 = none) (hc : rng c 16 = none) (hb : b < 16) : Oi kX4_cable kX5_cable [.int (k), .int (c), .int (nI b)] (GG (nf + 40) (nc + 4) (ns + 101)) μ := by
  refine c_cable_o1b hR hk hc hb (fun μ1 hr => ?_)
  have hv := hr.1.vq
  have hM1 := hr.1.shm hM
  have hR1 := hR.cgn hv
  exact ⟨_, rfl, hM1.1 44 (by decide) (by decide), m_cable_o1 hk (⟨by rfl, GG.of hr hM1 (by omega) (by omega) (by omega) hv (Pq.rf _)⟩)⟩
theorem o_cable_o1c {k d : Int32} {a : Nat} {μ : xM} {φ κ : Nat → Nat} {nf nc ns : Nat} (hR : Rel μ μ μ φ κ (nf, nc, ns, fun _ => False)) (hM : ShM μ) (hk : rng k 4 = none) (ha : a < 16) (hd : rng d 16 = none) : Oi kX4_cable kX5_cable [.int (k), .int (nI a), .int (d)] (GG (nf + 40) (nc + 4) (ns + 101)) μ := by
  refine c_cable_o1c hR hk ha hd (fun μ1 hr => ?_)
  have hv := hr.1.vq
  have hM1 := hr.1.shm hM
  have hR1 := hR.cgn hv
  exact ⟨_, rfl, hM1.1 44 (by decide) (by decide), m_cable_o1 hk (⟨by rfl, GG.of hr hM1 (by omega) (by omega) (by omega) hv (Pq.rf _)⟩)⟩
theorem o_cable_o1d {k : Int32} {a b : Nat} {μ : xM} {φ κ : Nat → Nat} {nf nc ns : Nat} (hR : Rel μ μ μ φ κ (nf, nc, ns, fun _ => False)) (hM : ShM μ) (hk : rng k 4 = none) (ha : a < 16) (hb : b < 16) : Oi kX4_cable kX5_cable [.int (k), .int (nI a), .int (nI b)] (GG (nf + 40) (nc + 4) (ns + 101)) μ := by
  refine c_cable_o1d hR hk ha hb (fun μ1 hr => ?_)
  have hv := hr.1.vq
  have hM1 := hr.1.shm hM
  have hR1 := hR.cgn hv
  exact ⟨_, rfl, hM1.1 44 (by decide) (by decide), m_cable_o1 hk (⟨by rfl, GG.of hr hM1 (by omega) (by omega) (by omega) hv (Pq.rf _)⟩)⟩
theorem o_cable_o2a {k : Nat} {c d : Int32} {μ : xM} {φ κ : Nat → Nat} {nf nc ns : Nat} (hR : Rel μ μ μ φ κ (nf, nc, ns, fun _ => False)) (hM : ShM μ) (hk : k < 4) (hc : rng c 16 = none) (hd : rng d 16 = none) : Oi kX4_cable kX5_cable [.int (nI k), .int (c), .int (d)] (GG (nf + 40) (nc + 4) (ns + 101)) μ := by
  refine c_cable_o2a hR hk hc hd (fun μ1 hr => ?_)
  have hv := hr.1.vq
  have hM1 := hr.1.shm hM
  have hR1 := hR.cgn hv
  exact ⟨_, rfl, hM1.1 44 (by decide) (by decide), m_cable_o2 hk hc (⟨by rfl, GG.of hr hM1 (by omega) (by omega) (by omega) hv (Pq.rf _)⟩)⟩
theorem o_cable_o2b {k : Nat} {c : Int32} {b : Nat} {μ : xM} {φ κ : Nat → Nat} {nf nc ns : Nat} (hR : Rel μ μ μ φ κ (nf, nc, ns, fun _ => False)) (hM : ShM μ) (hk : k < 4) (hc : rng c 16 = none) (hb : b < 16) : Oi kX4_cable kX5_cable [.int (nI k), .int (c), .int (nI b)] (GG (nf + 40) (nc + 4) (ns + 101)) μ := by
  refine c_cable_o2b hR hk hc hb (fun μ1 hr => ?_)
  have hv := hr.1.vq
  have hM1 := hr.1.shm hM
  have hR1 := hR.cgn hv
  exact ⟨_, rfl, hM1.1 44 (by decide) (by decide), m_cable_o2 hk hc (⟨by rfl, GG.of hr hM1 (by omega) (by omega) (by omega) hv (Pq.rf _)⟩)⟩
theorem o_cable_o3 {k a : Nat} {d : Int32} {μ : xM} {φ κ : Nat → Nat} {nf nc ns : Nat} (hR : Rel μ μ μ φ κ (nf, nc, ns, fun _ => False)) (hM : ShM μ) (hk : k < 4) (ha : a < 16) (hd : rng d 16 = none) : Oi kX4_cable kX5_cable [.int (nI k), .int (nI a), .int (d)] (GG (nf + 40) (nc + 4) (ns + 101)) μ := by
  refine c_cable_o3 hR hk ha hd (fun μ1 hr => ?_)
  have hv := hr.1.vq
  have hM1 := hr.1.shm hM
  have hR1 := hR.cgn hv
  exact ⟨_, rfl, hM1.1 44 (by decide) (by decide), m_cable_o3 hk ha hd (⟨by rfl, GG.of hr hM1 (by omega) (by omega) (by omega) hv (Pq.rf _)⟩)⟩
theorem o_cable_full {k a b : Nat} {μ : xM} {φ κ : Nat → Nat} {nf nc ns : Nat} (hR : Rel μ μ μ φ κ (nf, nc, ns, fun _ => False)) (hM : ShM μ) (hk : k < 4) (ha : a < 16) (hb : b < 16) (h24 : qM μ = 24) : Oi kX4_cable kX5_cable [.int (nI k), .int (nI a), .int (nI b)] (GG (nf + 40) (nc + 4) (ns + 101)) μ := by
  refine c_cable_full hR hk ha hb h24 (fun μ1 hr => ?_)
  have hv := hr.1.vq
  have hM1 := hr.1.shm hM
  have hR1 := hR.cgn hv
  exact ⟨_, rfl, hM1.1 44 (by decide) (by decide), m_cable_full hM1 hR1.wc hk ha hb (by rw [hv.y_q]; exact h24) (⟨by rfl, GG.of hr hM1 (by omega) (by omega) (by omega) hv (Pq.rf _)⟩)⟩
theorem o_cable_in {k a b : Nat} {μ : xM} {φ κ : Nat → Nat} {nf nc ns : Nat} (hR : Rel μ μ μ φ κ (nf, nc, ns, fun _ => False)) (hM : ShM μ) (hk : k < 4) (ha : a < 16) (hb : b < 16) (h24 : ¬ qM μ = 24) : Oi kX4_cable kX5_cable [.int (nI k), .int (nI a), .int (nI b)] (GG (nf + 40) (nc + 4) (ns + 101)) μ := by
  refine c_cable_in hR hk ha hb h24 (fun μ1 κ1 hr => ?_)
  have hv := hr.1.vq
  have hM1 := hr.1.shm hM
  have hR1 := hR.cgn hv
  exact ⟨_, rfl, hM1.1 44 (by decide) (by decide), m_cable_in hM1 hR1.wc hk ha hb (by rw [hv.y_q]; exact h24) (⟨by rw [hv.y_q], GG.of hr hM1 (Nat.le_add_right _ _) (show nc + 1 ≤ nc + 4 by omega) (show ns + 9 ≤ ns + 101 by omega) (hv.y_cabN k a b) (pq_cabN _ _ _ _)⟩)⟩
theorem o_tape_in {a k n : Nat} {μ : xM} {φ κ : Nat → Nat} {nf nc ns : Nat} (hR : Rel μ μ μ φ κ (nf, nc, ns, fun _ => False)) (hM : ShM μ) (ha : a < 16) (hk : k ≤ 10) (hn : n ≤ 32) : Oi kX4_tape kX5_tape [.int (nI a), .int (nI k), .int (nI n)] (GG (nf + 40) (nc + 4) (ns + 101)) μ := by
  refine c_tape_in hR (u := mI μ 47) (fun _ q => q) ha hk hn (fun μ1 φ1 hr => ?_)
  have hv := hr.1.vq
  have hM1 := hr.1.shm hM
  have hR1 := hR.cgn hv
  exact ⟨_, rfl, hM1.1 44 (by decide) (by decide), m_tape_in hM1 hR1.wt ha hk hn (fun u => ⟨by rfl, GG.of hr hM1 (Nat.le_add_right _ _) (show nc + 4 ≤ nc + 4 by omega) (show ns + (5 + n + n + n) ≤ ns + 101 by omega) (by rw [(hv.y_met 0).y_fr]; exact ((hv.y_met 0).y_newT _ u _ _).y_sI 50 a _) (((pq_met _ _).tr (pq_newT _ _ _ _)).tr (pq_sI _ _ _ _ (by decide) (by decide)))⟩)⟩
theorem o_dub_o3 {a b : Nat} {k : Int32} {μ : xM} {φ κ : Nat → Nat} {nf nc ns : Nat} (hR : Rel μ μ μ φ κ (nf, nc, ns, fun _ => False)) (hM : ShM μ) (ha : a < 16) (hb : b < 16) (hk : rng k 11 = none) : Oi kX4_dub kX5_dub [.int (nI a), .int (nI b), .int (k)] (GG (nf + 40) (nc + 4) (ns + 101)) μ := by
  refine c_dub_o3 hR ha hb hk (fun μ1 hr => ?_)
  have hv := hr.1.vq
  have hM1 := hr.1.shm hM
  have hR1 := hR.cgn hv
  exact ⟨_, rfl, hM1.1 44 (by decide) (by decide), m_dub_o3 ha hb hk (⟨by rfl, GG.of hr hM1 (by omega) (by omega) (by omega) hv (Pq.rf _)⟩)⟩
theorem o_dub_r1 {a b k : Nat} {μ : xM} {φ κ : Nat → Nat} {nf nc ns : Nat} (hR : Rel μ μ μ φ κ (nf, nc, ns, fun _ => False)) (hM : ShM μ) (ha : a < 16) (hb : b < 16) (hk : k ≤ 10) (h0 : ¬ noTapeM μ b = 0) : Oi kX4_dub kX5_dub [.int (nI a), .int (nI b), .int (nI k)] (GG (nf + 40) (nc + 4) (ns + 101)) μ := by
  refine c_dub_r1 hR ha hb hk h0 (fun μ1 hr => ?_)
  have hv := hr.1.vq
  have hM1 := hr.1.shm hM
  have hR1 := hR.cgn hv
  exact ⟨_, rfl, hM1.1 44 (by decide) (by decide), m_dub_r1 hM1 hR1.wt ha hb hk (by rw [hv.y_nt]; exact h0) (⟨by rw [hv.y_nt], GG.of hr hM1 (by omega) (by omega) (by omega) (by rw [hv.y_nt]; exact hv.y_met _) (pq_met _ _)⟩)⟩
theorem o_dub_in {a b k : Nat} {μ : xM} {φ κ : Nat → Nat} {nf nc ns : Nat} (hR : Rel μ μ μ φ κ (nf, nc, ns, fun _ => False)) (hM : ShM μ) (ha : a < 16) (hb : b < 16) (hk : k ≤ 10) (h0 : noTapeM μ b = 0) (hd : dbn μ (tp μ b) k (sz μ (tp μ b)) 0 = 0) : Oi kX4_dub kX5_dub [.int (nI a), .int (nI b), .int (nI k)] (GG (nf + 40) (nc + 4) (ns + 101)) μ := by
  refine c_dub_t hR (u := mI μ 47) (fun _ q => q) ha hb hk h0 (fun _ μ1 φ1 hr => ?_) (fun q => absurd (q.symm.trans hd) (by decide))
  have hv := hr.1.vq
  have hM1 := hr.1.shm hM
  have hR1 := hR.cgn hv
  have ed : dbn μ1 (tp μ1 b) k (sz μ1 (tp μ1 b)) 0 = dbn μ (tp μ b) k (sz μ (tp μ b)) 0 := by rw [hv.y_tp, hv.y_sz, hv.y_dbn]
  have ls := sz_le hR.wt (tp_lt hR.wt hb h0)
  exact ⟨_, rfl, hM1.1 44 (by decide) (by decide), m_dub_in hM1 hR1.wt ha hb hk (by rw [hv.y_nt]; exact h0) (by rw [ed]; exact hd) (fun u => ⟨by rw [hv.y_tp, hv.y_sz], GG.of hr hM1 (Nat.le_add_right _ _) (show nc + 4 ≤ nc + 4 by omega) (show ns + (5 + sz μ (tp μ b) + sz μ (tp μ b) + sz μ (tp μ b)) ≤ ns + 101 by omega) (hv.y_dub _ u _ _ _) (pq_dub _ _ _ _ _)⟩)⟩
theorem o_dub_r2 {a b k : Nat} {μ : xM} {φ κ : Nat → Nat} {nf nc ns : Nat} (hR : Rel μ μ μ φ κ (nf, nc, ns, fun _ => False)) (hM : ShM μ) (ha : a < 16) (hb : b < 16) (hk : k ≤ 10) (h0 : noTapeM μ b = 0) (hd : ¬ dbn μ (tp μ b) k (sz μ (tp μ b)) 0 = 0) : Oi kX4_dub kX5_dub [.int (nI a), .int (nI b), .int (nI k)] (GG (nf + 40) (nc + 4) (ns + 101)) μ := by
  refine c_dub_t hR (u := mI μ 47) (fun _ q => q) ha hb hk h0 (fun q => absurd q hd) (fun e2 μ1 hr => ?_)
  have hv := hr.1.vq
  have hM1 := hr.1.shm hM
  have hR1 := hR.cgn hv
  have ed : dbn μ1 (tp μ1 b) k (sz μ1 (tp μ1 b)) 0 = dbn μ (tp μ b) k (sz μ (tp μ b)) 0 := by rw [hv.y_tp, hv.y_sz, hv.y_dbn]
  have ls := sz_le hR.wt (tp_lt hR.wt hb h0)
  exact ⟨_, rfl, hM1.1 44 (by decide) (by decide), m_dub_r2 hM1 hR1.wt ha hb hk (by rw [hv.y_nt]; exact h0) (by rw [ed]; exact hd) (⟨by rw [ed, e2], GG.of hr hM1 (Nat.le_add_right _ _) (show nc + 4 ≤ nc + 4 by omega) (show ns + (5 + sz μ (tp μ b) + sz μ (tp μ b) + sz μ (tp μ b)) ≤ ns + 101 by omega) (by rw [ed, e2]; exact hv.y_met _) (pq_met _ _)⟩)⟩
