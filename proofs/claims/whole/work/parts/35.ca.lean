/-! the class: its calls, first part (laid by wip/whole/mkpb6.py) -/
theorem c_answer_0 {x : Int32} {ρ ν μ : xM} {φ κ : Nat → Nat} {B : Nat × Nat × Nat × (Nat → Prop)} {Q : Option Value → xM → Prop} (hR : Rel ρ ν μ φ κ B) (hq : ∀ μ1, Rel ρ (metM ν 0) μ1 φ κ B → Q (some (.int x)) μ1) : Mt kX4_answer [.ref 1, .int (nI 0), .int x] μ Q := x_answer_0 hR.2.1 (hq _ (hR.note (by decide)))
theorem c_answer_r {r : Nat} {x : Int32} {ρ ν μ : xM} {φ κ : Nat → Nat} {B : Nat × Nat × Nat × (Nat → Prop)} {Q : Option Value → xM → Prop} (hR : Rel ρ ν μ φ κ B) (hr : r < 6) (h0 : r ≠ 0) (hq : ∀ μ1, Rel ρ (metM ν r) μ1 φ κ B → Q (some (.int (rR r))) μ1) : Mt kX4_answer [.ref 1, .int (nI r), .int x] μ Q := x_answer_r hR.2.1 hr h0 (hq _ (hR.note hr))
theorem c_note {r : Nat} {ρ ν μ : xM} {φ κ : Nat → Nat} {B : Nat × Nat × Nat × (Nat → Prop)} {Q : Option Value → xM → Prop} (hR : Rel ρ ν μ φ κ B) (hr : r < 6) (hq : ∀ μ1, Rel ρ (metM ν r) μ1 φ κ B → Q none μ1) : Mt kX4_note [.ref 1, .int (nI r)] μ Q := x_note hR.2.1 hr (hq _ (hR.note hr))
theorem lt_le {x a b : Int32} (h : x < a) (hab : a ≤ b) : x ≤ b := by
  rw [Int32.lt_iff_toInt_lt] at h
  rw [Int32.le_iff_toInt_le] at hab ⊢
  omega
theorem plug_b {ρ ν μ : xM} {φ κ : Nat → Nat} {B : Nat × Nat × Nat × (Nat → Prop)} (h : Rel ρ ν μ φ κ B) {c : Nat} (hc : c < 16) : mI μ (28 + c) 2 = 0 ∨ mI μ (28 + c) 2 = 1 := by
  rw [(h.ch hc).2.2.1]
  split
  · exact Or.inr rfl
  · exact Or.inl rfl
theorem share_hold {ρ ν μ : xM} {φ κ : Nat → Nat} {B : Nat × Nat × Nat × (Nat → Prop)} (h : Rel ρ ν μ φ κ B) {c : Nat} (hc : c < 16) : (mI ν 50 c = -1 ∧ mR μ (28 + c) 1 = none ∧ mI μ (28 + c) 2 = 0) ∨ (mI ν 50 c = -2 ∧ mR μ (28 + c) 1 = none ∧ mI μ (28 + c) 2 = 1) ∨ ∃ t, mI ν 50 c = nI t ∧ mR μ (28 + c) 1 = some (φ t) ∧ mI μ (28 + c) 2 = 0 ∧ HoldOK ν μ φ B.2.2.2 t := by
  obtain ⟨-, e1, e2, -⟩ := h.ch hc
  by_cases h1 : mI ν 50 c = -1
  · have z : noTapeM ν c = 1 := by unfold noTapeM; rw [if_pos h1]
    rw [if_neg (by omega)] at e1
    rw [h1, if_neg (by decide)] at e2
    exact Or.inl ⟨h1, e1, e2⟩
  · by_cases h2 : mI ν 50 c = -2
    · have z : noTapeM ν c = 2 := by unfold noTapeM; rw [if_neg h1, if_pos h2]
      rw [if_neg (by omega)] at e1
      rw [if_pos h2] at e2
      exact Or.inr (Or.inl ⟨h2, e1, e2⟩)
    · have z := noTape_of h1 h2
      rw [if_pos z] at e1
      rw [if_neg h2] at e2
      exact Or.inr (Or.inr ⟨tp ν c, (h.wt.1 c hc z).2, e1, e2, hold_c h hc z⟩)
set_option maxRecDepth 100000 in
set_option maxHeartbeats 4000000 in
theorem c_tape_o1 {c k n : Int32} {ρ ν μ : xM} {φ κ : Nat → Nat} {B : Nat × Nat × Nat × (Nat → Prop)} {Q : Option Value → xM → Prop} (hR : Rel ρ ν μ φ κ B) (hc : rng c 16 = none) (hq : ∀ μ1, Rel ρ (ν) μ1 φ κ B → Q (some (.int (-1))) μ1) : Mt kX4_tape [.ref 1, .int (c), .int (k), .int (n)] μ Q := by
  have hB := hR.2.1
  refine Mt.enter rfl (Nat.le_of_ble_eq_true rfl) ?_
  refine X.aload_n dX4_tape_0 rfl ?_
  refine X.iload_n dX4_tape_1 rfl ?_
  refine X.cV1n (k' := kX4_channelAt) dX4_tape_2 (hB.1 1 (by decide) (by decide)) ⟨by decide, rfl⟩ v_X4_channelAt wm_X4_59 wi_X4_channelAt ws_X4_channelAt ⟨Nat.le_of_ble_eq_true rfl, Nat.le_of_ble_eq_true rfl⟩ n_X4_channelAt (Nat.le_of_ble_eq_true rfl) ?_
  refine x_channelAt_o hB hc ?_
  refine ⟨rfl, ?_⟩
  refine X.astoreN dX4_tape_5 (Nat.le_of_ble_eq_true rfl) ?_
  refine X.aloadN dX4_tape_7 rfl ?_
  refine X.ifnull_n (tgt := 25) dX4_tape_9 (by decide) ?_
  refine X.iconst (v := -1) dX4_tape_25 (by decide) ?_
  refine X.ret dX4_tape_26 ⟨trivial, ?_⟩
  exact hq _ hR
set_option maxRecDepth 100000 in
set_option maxHeartbeats 4000000 in
theorem c_tape_o2 {a : Nat} {k n : Int32} {ρ ν μ : xM} {φ κ : Nat → Nat} {B : Nat × Nat × Nat × (Nat → Prop)} {Q : Option Value → xM → Prop} (hR : Rel ρ ν μ φ κ B) (ha : a < 16) (hk : rng k 11 = none) (hq : ∀ μ1, Rel ρ (ν) μ1 φ κ B → Q (some (.int (-1))) μ1) : Mt kX4_tape [.ref 1, .int (nI a), .int (k), .int (n)] μ Q := by
  have hB := hR.2.1
  refine Mt.enter rfl (Nat.le_of_ble_eq_true rfl) ?_
  refine X.aload_n dX4_tape_0 rfl ?_
  refine X.iload_n dX4_tape_1 rfl ?_
  refine X.cV1a (k' := kX4_channelAt) dX4_tape_2 (hB.1 1 (by decide) (by decide)) ⟨by decide, rfl⟩ v_X4_channelAt wm_X4_59 wi_X4_channelAt ws_X4_channelAt ⟨Nat.le_of_ble_eq_true rfl, Nat.le_of_ble_eq_true rfl⟩ n_X4_channelAt (Nat.le_of_ble_eq_true rfl) ?_
  refine x_channelAt hB ha ?_
  refine ⟨_, rfl, ?_⟩
  refine X.astore dX4_tape_5 (Nat.le_of_ble_eq_true rfl) ?_
  refine X.aload dX4_tape_7 rfl ?_
  refine X.ifnull_r dX4_tape_9 ?_
  refine X.iload_n dX4_tape_12 rfl ?_
  refine X.cS1i (k' := kX4_isTapeKind) dX4_tape_13 v_X4_isTapeKind wm_X4_63 wt_X4_isTapeKind ⟨Nat.le_of_ble_eq_true rfl, Nat.le_of_ble_eq_true rfl⟩ n_X4_isTapeKind (Nat.le_of_ble_eq_true rfl) ?_
  refine x_isTapeKind_f hk ?_
  refine ⟨_, rfl, ?_⟩
  refine X.if_eq_t (tgt := 25) dX4_tape_16 (by decide) (rfl) ?_
  refine X.iconst (v := -1) dX4_tape_25 (by decide) ?_
  refine X.ret dX4_tape_26 ⟨trivial, ?_⟩
  exact hq _ hR
set_option maxRecDepth 100000 in
set_option maxHeartbeats 4000000 in
theorem c_tape_o3 {a k : Nat} {n : Int32} {ρ ν μ : xM} {φ κ : Nat → Nat} {B : Nat × Nat × Nat × (Nat → Prop)} {Q : Option Value → xM → Prop} (hR : Rel ρ ν μ φ κ B) (ha : a < 16) (hk : k ≤ 10) (hn : 32 < n) (hq : ∀ μ1, Rel ρ (ν) μ1 φ κ B → Q (some (.int (-1))) μ1) : Mt kX4_tape [.ref 1, .int (nI a), .int (nI k), .int (n)] μ Q := by
  have hB := hR.2.1
  refine Mt.enter rfl (Nat.le_of_ble_eq_true rfl) ?_
  refine X.aload_n dX4_tape_0 rfl ?_
  refine X.iload_n dX4_tape_1 rfl ?_
  refine X.cV1a (k' := kX4_channelAt) dX4_tape_2 (hB.1 1 (by decide) (by decide)) ⟨by decide, rfl⟩ v_X4_channelAt wm_X4_59 wi_X4_channelAt ws_X4_channelAt ⟨Nat.le_of_ble_eq_true rfl, Nat.le_of_ble_eq_true rfl⟩ n_X4_channelAt (Nat.le_of_ble_eq_true rfl) ?_
  refine x_channelAt hB ha ?_
  refine ⟨_, rfl, ?_⟩
  refine X.astore dX4_tape_5 (Nat.le_of_ble_eq_true rfl) ?_
  refine X.aload dX4_tape_7 rfl ?_
  refine X.ifnull_r dX4_tape_9 ?_
  refine X.iload_n dX4_tape_12 rfl ?_
  refine X.cS1i (k' := kX4_isTapeKind) dX4_tape_13 v_X4_isTapeKind wm_X4_63 wt_X4_isTapeKind ⟨Nat.le_of_ble_eq_true rfl, Nat.le_of_ble_eq_true rfl⟩ n_X4_isTapeKind (Nat.le_of_ble_eq_true rfl) ?_
  refine x_isTapeKind_t (rng_nI (by omega) (by decide)) ?_
  refine ⟨_, rfl, ?_⟩
  refine X.if_eq_f (tgt := 25) dX4_tape_16 (by decide) ((by decide)) ?_
  refine X.iload_n dX4_tape_19 rfl ?_
  refine X.bipush (v := 32) dX4_tape_20 (by decide) ?_
  refine X.icmp_le_f (tgt := 27) dX4_tape_22 (by decide) (Int32.not_le.mpr hn) ?_
  refine X.iconst (v := -1) dX4_tape_25 (by decide) ?_
  refine X.ret dX4_tape_26 ⟨trivial, ?_⟩
  exact hq _ hR
set_option maxRecDepth 100000 in
set_option maxHeartbeats 4000000 in
theorem c_tape_neg {a k : Nat} {n : Int32} {ρ ν μ : xM} {φ κ : Nat → Nat} {B : Nat × Nat × Nat × (Nat → Prop)} {Q : Option Value → xM → Prop} (hR : Rel ρ ν μ φ κ B) (ha : a < 16) (hk : k ≤ 10) (hn : n < 0) (hq : ∀ μ1, Rel ρ (metM ν 5) μ1 φ κ B → Q (some (.int (-15))) μ1) : Mt kX4_tape [.ref 1, .int (nI a), .int (nI k), .int (n)] μ Q := by
  have hB := hR.2.1
  refine Mt.enter rfl (Nat.le_of_ble_eq_true rfl) ?_
  refine X.aload_n dX4_tape_0 rfl ?_
  refine X.iload_n dX4_tape_1 rfl ?_
  refine X.cV1a (k' := kX4_channelAt) dX4_tape_2 (hB.1 1 (by decide) (by decide)) ⟨by decide, rfl⟩ v_X4_channelAt wm_X4_59 wi_X4_channelAt ws_X4_channelAt ⟨Nat.le_of_ble_eq_true rfl, Nat.le_of_ble_eq_true rfl⟩ n_X4_channelAt (Nat.le_of_ble_eq_true rfl) ?_
  refine x_channelAt hB ha ?_
  refine ⟨_, rfl, ?_⟩
  refine X.astore dX4_tape_5 (Nat.le_of_ble_eq_true rfl) ?_
  refine X.aload dX4_tape_7 rfl ?_
  refine X.ifnull_r dX4_tape_9 ?_
  refine X.iload_n dX4_tape_12 rfl ?_
  refine X.cS1i (k' := kX4_isTapeKind) dX4_tape_13 v_X4_isTapeKind wm_X4_63 wt_X4_isTapeKind ⟨Nat.le_of_ble_eq_true rfl, Nat.le_of_ble_eq_true rfl⟩ n_X4_isTapeKind (Nat.le_of_ble_eq_true rfl) ?_
  refine x_isTapeKind_t (rng_nI (by omega) (by decide)) ?_
  refine ⟨_, rfl, ?_⟩
  refine X.if_eq_f (tgt := 25) dX4_tape_16 (by decide) ((by decide)) ?_
  refine X.iload_n dX4_tape_19 rfl ?_
  refine X.bipush (v := 32) dX4_tape_20 (by decide) ?_
  refine X.icmp_le_t (tgt := 27) dX4_tape_22 (by decide) (lt_le hn (by decide)) ?_
  refine X.iload_n dX4_tape_27 rfl ?_
  refine X.if_ge_f (tgt := 38) dX4_tape_28 (by decide) (Int32.not_le.mpr hn) ?_
  refine X.aload_n dX4_tape_31 rfl ?_
  refine X.iconst (v := 5) dX4_tape_32 (by decide) ?_
  refine X.iconst (v := 0) dX4_tape_33 (by decide) ?_
  refine X.cV2i (k' := kX4_answer) dX4_tape_34 (hB.1 1 (by decide) (by decide)) ⟨by decide, rfl⟩ v_X4_answer wm_X4_67 wi_X4_answer ws_X4_answer ⟨Nat.le_of_ble_eq_true rfl, Nat.le_of_ble_eq_true rfl⟩ n_X4_answer (Nat.le_of_ble_eq_true rfl) ?_
  refine c_answer_r hR (r := 5) (by decide) (by decide) (fun μ1 hR => ?_)
  refine ⟨_, rfl, ?_⟩
  refine X.ret dX4_tape_37 ⟨trivial, ?_⟩
  exact hq _ hR
set_option maxRecDepth 100000 in
set_option maxHeartbeats 4000000 in
theorem c_holdNoTape_o {c b : Int32} {ρ ν μ : xM} {φ κ : Nat → Nat} {B : Nat × Nat × Nat × (Nat → Prop)} {Q : Option Value → xM → Prop} (hR : Rel ρ ν μ φ κ B) (hc : rng c 16 = none) (hq : ∀ μ1, Rel ρ (ν) μ1 φ κ B → Q (some (.int (-1))) μ1) : Mt kX4_holdNoTape [.ref 1, .int (c), .int (b)] μ Q := by
  have hB := hR.2.1
  refine Mt.enter rfl (Nat.le_of_ble_eq_true rfl) ?_
  refine X.aload_n dX4_holdNoTape_0 rfl ?_
  refine X.iload_n dX4_holdNoTape_1 rfl ?_
  refine X.cV1n (k' := kX4_channelAt) dX4_holdNoTape_2 (hB.1 1 (by decide) (by decide)) ⟨by decide, rfl⟩ v_X4_channelAt wm_X4_59 wi_X4_channelAt ws_X4_channelAt ⟨Nat.le_of_ble_eq_true rfl, Nat.le_of_ble_eq_true rfl⟩ n_X4_channelAt (Nat.le_of_ble_eq_true rfl) ?_
  refine x_channelAt_o hB hc ?_
  refine ⟨rfl, ?_⟩
  refine X.astore_nN dX4_holdNoTape_5 (Nat.le_of_ble_eq_true rfl) ?_
  refine X.aload_nN dX4_holdNoTape_6 rfl ?_
  refine X.ifnonnull_n dX4_holdNoTape_7 ?_
  refine X.iconst (v := -1) dX4_holdNoTape_10 (by decide) ?_
  refine X.ret dX4_holdNoTape_11 ⟨trivial, ?_⟩
  exact hq _ hR
set_option maxRecDepth 100000 in
set_option maxHeartbeats 4000000 in
theorem c_holdNoTape_plug {a : Nat} {ρ ν μ : xM} {φ κ : Nat → Nat} {B : Nat × Nat × Nat × (Nat → Prop)} {Q : Option Value → xM → Prop} (hR : Rel ρ ν μ φ κ B) (ha : a < 16) (hq : ∀ μ1, Rel ρ (sI ν 50 a (-2)) μ1 φ κ B → Q (some (.int (sortM ν a))) μ1) : Mt kX4_holdNoTape [.ref 1, .int (nI a), .int (1)] μ Q := by
  have hB := hR.2.1
  refine Mt.enter rfl (Nat.le_of_ble_eq_true rfl) ?_
  refine X.aload_n dX4_holdNoTape_0 rfl ?_
  refine X.iload_n dX4_holdNoTape_1 rfl ?_
  refine X.cV1a (k' := kX4_channelAt) dX4_holdNoTape_2 (hB.1 1 (by decide) (by decide)) ⟨by decide, rfl⟩ v_X4_channelAt wm_X4_59 wi_X4_channelAt ws_X4_channelAt ⟨Nat.le_of_ble_eq_true rfl, Nat.le_of_ble_eq_true rfl⟩ n_X4_channelAt (Nat.le_of_ble_eq_true rfl) ?_
  refine x_channelAt hB ha ?_
  refine ⟨_, rfl, ?_⟩
  refine X.astore_n dX4_holdNoTape_5 (Nat.le_of_ble_eq_true rfl) ?_
  refine X.aload_n dX4_holdNoTape_6 rfl ?_
  refine X.ifnonnull_r (tgt := 12) dX4_holdNoTape_7 (by decide) ?_
  refine X.aload_n dX4_holdNoTape_12 rfl ?_
  refine X.cV0i (k' := kX2_has) dX4_holdNoTape_13 ((hB.2.2.1 a ha).1) ⟨by decide, rfl⟩ v_X2_has wm_X4_92 wi_X2_has ws_X2_has ⟨Nat.le_of_ble_eq_true rfl, Nat.le_of_ble_eq_true rfl⟩ n_X2_has (Nat.le_of_ble_eq_true rfl) ?_
  refine c_has hR ha ?_
  refine ⟨_, rfl, ?_⟩
  refine X.istore dX4_holdNoTape_16 (Nat.le_of_ble_eq_true rfl) ?_
  refine X.aload_n dX4_holdNoTape_18 rfl ?_
  refine X.null dX4_holdNoTape_19 ?_
  refine X.iload_n dX4_holdNoTape_20 rfl ?_
  refine X.cV2v (k' := kX2_hold) dX4_holdNoTape_21 ((hB.2.2.1 a ha).1) ⟨by decide, rfl⟩ v_X2_hold wm_X4_76 wi_X2_hold ws_X2_hold ⟨Nat.le_of_ble_eq_true rfl, Nat.le_of_ble_eq_true rfl⟩ n_X2_hold (Nat.le_of_ble_eq_true rfl) ?_
  refine x_hold (r := none) hB ha (Or.inr rfl) ?_
  refine ⟨rfl, ?_⟩
  refine X.iload dX4_holdNoTape_24 rfl ?_
  refine X.ret dX4_holdNoTape_26 ⟨trivial, ?_⟩
  exact hq _ (hR.hold ha (Or.inr (Or.inl ⟨rfl, rfl, rfl⟩)))
set_option maxRecDepth 100000 in
set_option maxHeartbeats 4000000 in
theorem c_plug_o {c : Int32} {ρ ν μ : xM} {φ κ : Nat → Nat} {B : Nat × Nat × Nat × (Nat → Prop)} {Q : Option Value → xM → Prop} (hR : Rel ρ ν μ φ κ B) (hc : rng c 16 = none) (hq : ∀ μ1, Rel ρ (ν) μ1 φ κ B → Q (some (.int (-1))) μ1) : Mt kX4_plug [.ref 1, .int (c)] μ Q := by
  have hB := hR.2.1
  refine Mt.enter rfl (Nat.le_of_ble_eq_true rfl) ?_
  refine X.aload_n dX4_plug_0 rfl ?_
  refine X.iload_n dX4_plug_1 rfl ?_
  refine X.iconst (v := 1) dX4_plug_2 (by decide) ?_
  refine X.cV2i (k' := kX4_holdNoTape) dX4_plug_3 (hB.1 1 (by decide) (by decide)) ⟨by decide, rfl⟩ v_X4_holdNoTape wm_X4_80 wi_X4_holdNoTape ws_X4_holdNoTape ⟨Nat.le_of_ble_eq_true rfl, Nat.le_of_ble_eq_true rfl⟩ n_X4_holdNoTape (Nat.le_of_ble_eq_true rfl) ?_
  refine c_holdNoTape_o hR hc (fun μ1 hR => ?_)
  refine ⟨_, rfl, ?_⟩
  refine X.ret dX4_plug_6 ⟨trivial, ?_⟩
  exact hq _ hR
set_option maxRecDepth 100000 in
set_option maxHeartbeats 4000000 in
theorem c_plug_in {a : Nat} {ρ ν μ : xM} {φ κ : Nat → Nat} {B : Nat × Nat × Nat × (Nat → Prop)} {Q : Option Value → xM → Prop} (hR : Rel ρ ν μ φ κ B) (ha : a < 16) (hq : ∀ μ1, Rel ρ (sI ν 50 a (-2)) μ1 φ κ B → Q (some (.int (sortM ν a))) μ1) : Mt kX4_plug [.ref 1, .int (nI a)] μ Q := by
  have hB := hR.2.1
  refine Mt.enter rfl (Nat.le_of_ble_eq_true rfl) ?_
  refine X.aload_n dX4_plug_0 rfl ?_
  refine X.iload_n dX4_plug_1 rfl ?_
  refine X.iconst (v := 1) dX4_plug_2 (by decide) ?_
  refine X.cV2i (k' := kX4_holdNoTape) dX4_plug_3 (hB.1 1 (by decide) (by decide)) ⟨by decide, rfl⟩ v_X4_holdNoTape wm_X4_80 wi_X4_holdNoTape ws_X4_holdNoTape ⟨Nat.le_of_ble_eq_true rfl, Nat.le_of_ble_eq_true rfl⟩ n_X4_holdNoTape (Nat.le_of_ble_eq_true rfl) ?_
  refine c_holdNoTape_plug hR ha (fun μ1 hR => ?_)
  refine ⟨_, rfl, ?_⟩
  refine X.ret dX4_plug_6 ⟨trivial, ?_⟩
  exact hq _ hR
set_option maxRecDepth 100000 in
set_option maxHeartbeats 4000000 in
theorem c_holdNoTape_strip {a : Nat} {ρ ν μ : xM} {φ κ : Nat → Nat} {B : Nat × Nat × Nat × (Nat → Prop)} {Q : Option Value → xM → Prop} (hR : Rel ρ ν μ φ κ B) (ha : a < 16) (hq : ∀ μ1, Rel ρ (sI ν 50 a (-1)) μ1 φ κ B → Q (some (.int (sortM ν a))) μ1) : Mt kX4_holdNoTape [.ref 1, .int (nI a), .int (0)] μ Q := by
  have hB := hR.2.1
  refine Mt.enter rfl (Nat.le_of_ble_eq_true rfl) ?_
  refine X.aload_n dX4_holdNoTape_0 rfl ?_
  refine X.iload_n dX4_holdNoTape_1 rfl ?_
  refine X.cV1a (k' := kX4_channelAt) dX4_holdNoTape_2 (hB.1 1 (by decide) (by decide)) ⟨by decide, rfl⟩ v_X4_channelAt wm_X4_59 wi_X4_channelAt ws_X4_channelAt ⟨Nat.le_of_ble_eq_true rfl, Nat.le_of_ble_eq_true rfl⟩ n_X4_channelAt (Nat.le_of_ble_eq_true rfl) ?_
  refine x_channelAt hB ha ?_
  refine ⟨_, rfl, ?_⟩
  refine X.astore_n dX4_holdNoTape_5 (Nat.le_of_ble_eq_true rfl) ?_
  refine X.aload_n dX4_holdNoTape_6 rfl ?_
  refine X.ifnonnull_r (tgt := 12) dX4_holdNoTape_7 (by decide) ?_
  refine X.aload_n dX4_holdNoTape_12 rfl ?_
  refine X.cV0i (k' := kX2_has) dX4_holdNoTape_13 ((hB.2.2.1 a ha).1) ⟨by decide, rfl⟩ v_X2_has wm_X4_92 wi_X2_has ws_X2_has ⟨Nat.le_of_ble_eq_true rfl, Nat.le_of_ble_eq_true rfl⟩ n_X2_has (Nat.le_of_ble_eq_true rfl) ?_
  refine c_has hR ha ?_
  refine ⟨_, rfl, ?_⟩
  refine X.istore dX4_holdNoTape_16 (Nat.le_of_ble_eq_true rfl) ?_
  refine X.aload_n dX4_holdNoTape_18 rfl ?_
  refine X.null dX4_holdNoTape_19 ?_
  refine X.iload_n dX4_holdNoTape_20 rfl ?_
  refine X.cV2v (k' := kX2_hold) dX4_holdNoTape_21 ((hB.2.2.1 a ha).1) ⟨by decide, rfl⟩ v_X2_hold wm_X4_76 wi_X2_hold ws_X2_hold ⟨Nat.le_of_ble_eq_true rfl, Nat.le_of_ble_eq_true rfl⟩ n_X2_hold (Nat.le_of_ble_eq_true rfl) ?_
  refine x_hold (r := none) hB ha (Or.inl rfl) ?_
  refine ⟨rfl, ?_⟩
  refine X.iload dX4_holdNoTape_24 rfl ?_
  refine X.ret dX4_holdNoTape_26 ⟨trivial, ?_⟩
  exact hq _ (hR.hold ha (Or.inl ⟨rfl, rfl, rfl⟩))
set_option maxRecDepth 100000 in
set_option maxHeartbeats 4000000 in
theorem c_strip_o {c : Int32} {ρ ν μ : xM} {φ κ : Nat → Nat} {B : Nat × Nat × Nat × (Nat → Prop)} {Q : Option Value → xM → Prop} (hR : Rel ρ ν μ φ κ B) (hc : rng c 16 = none) (hq : ∀ μ1, Rel ρ (ν) μ1 φ κ B → Q (some (.int (-1))) μ1) : Mt kX4_strip [.ref 1, .int (c)] μ Q := by
  have hB := hR.2.1
  refine Mt.enter rfl (Nat.le_of_ble_eq_true rfl) ?_
  refine X.aload_n dX4_strip_0 rfl ?_
  refine X.iload_n dX4_strip_1 rfl ?_
  refine X.iconst (v := 0) dX4_strip_2 (by decide) ?_
  refine X.cV2i (k' := kX4_holdNoTape) dX4_strip_3 (hB.1 1 (by decide) (by decide)) ⟨by decide, rfl⟩ v_X4_holdNoTape wm_X4_80 wi_X4_holdNoTape ws_X4_holdNoTape ⟨Nat.le_of_ble_eq_true rfl, Nat.le_of_ble_eq_true rfl⟩ n_X4_holdNoTape (Nat.le_of_ble_eq_true rfl) ?_
  refine c_holdNoTape_o hR hc (fun μ1 hR => ?_)
  refine ⟨_, rfl, ?_⟩
  refine X.ret dX4_strip_6 ⟨trivial, ?_⟩
  exact hq _ hR
set_option maxRecDepth 100000 in
set_option maxHeartbeats 4000000 in
theorem c_strip_in {a : Nat} {ρ ν μ : xM} {φ κ : Nat → Nat} {B : Nat × Nat × Nat × (Nat → Prop)} {Q : Option Value → xM → Prop} (hR : Rel ρ ν μ φ κ B) (ha : a < 16) (hq : ∀ μ1, Rel ρ (sI ν 50 a (-1)) μ1 φ κ B → Q (some (.int (sortM ν a))) μ1) : Mt kX4_strip [.ref 1, .int (nI a)] μ Q := by
  have hB := hR.2.1
  refine Mt.enter rfl (Nat.le_of_ble_eq_true rfl) ?_
  refine X.aload_n dX4_strip_0 rfl ?_
  refine X.iload_n dX4_strip_1 rfl ?_
  refine X.iconst (v := 0) dX4_strip_2 (by decide) ?_
  refine X.cV2i (k' := kX4_holdNoTape) dX4_strip_3 (hB.1 1 (by decide) (by decide)) ⟨by decide, rfl⟩ v_X4_holdNoTape wm_X4_80 wi_X4_holdNoTape ws_X4_holdNoTape ⟨Nat.le_of_ble_eq_true rfl, Nat.le_of_ble_eq_true rfl⟩ n_X4_holdNoTape (Nat.le_of_ble_eq_true rfl) ?_
  refine c_holdNoTape_strip hR ha (fun μ1 hR => ?_)
  refine ⟨_, rfl, ?_⟩
  refine X.ret dX4_strip_6 ⟨trivial, ?_⟩
  exact hq _ hR
set_option maxRecDepth 100000 in
set_option maxHeartbeats 4000000 in
theorem c_share_o1a {c d : Int32} {ρ ν μ : xM} {φ κ : Nat → Nat} {B : Nat × Nat × Nat × (Nat → Prop)} {Q : Option Value → xM → Prop} (hR : Rel ρ ν μ φ κ B) (hc : rng c 16 = none) (hd : rng d 16 = none) (hq : ∀ μ1, Rel ρ (ν) μ1 φ κ B → Q (some (.int (-1))) μ1) : Mt kX4_share [.ref 1, .int (c), .int (d)] μ Q := by
  have hB := hR.2.1
  refine Mt.enter rfl (Nat.le_of_ble_eq_true rfl) ?_
  refine X.aload_n dX4_share_0 rfl ?_
  refine X.iload_n dX4_share_1 rfl ?_
  refine X.cV1n (k' := kX4_channelAt) dX4_share_2 (hB.1 1 (by decide) (by decide)) ⟨by decide, rfl⟩ v_X4_channelAt wm_X4_59 wi_X4_channelAt ws_X4_channelAt ⟨Nat.le_of_ble_eq_true rfl, Nat.le_of_ble_eq_true rfl⟩ n_X4_channelAt (Nat.le_of_ble_eq_true rfl) ?_
  refine x_channelAt_o hB hc ?_
  refine ⟨rfl, ?_⟩
  refine X.astore_nN dX4_share_5 (Nat.le_of_ble_eq_true rfl) ?_
  refine X.aload_n dX4_share_6 rfl ?_
  refine X.iload_n dX4_share_7 rfl ?_
  refine X.cV1n (k' := kX4_channelAt) dX4_share_8 (hB.1 1 (by decide) (by decide)) ⟨by decide, rfl⟩ v_X4_channelAt wm_X4_59 wi_X4_channelAt ws_X4_channelAt ⟨Nat.le_of_ble_eq_true rfl, Nat.le_of_ble_eq_true rfl⟩ n_X4_channelAt (Nat.le_of_ble_eq_true rfl) ?_
  refine x_channelAt_o hB hd ?_
  refine ⟨rfl, ?_⟩
  refine X.astoreN dX4_share_11 (Nat.le_of_ble_eq_true rfl) ?_
  refine X.aload_nN dX4_share_13 rfl ?_
  refine X.ifnull_n (tgt := 22) dX4_share_14 (by decide) ?_
  refine X.iconst (v := -1) dX4_share_22 (by decide) ?_
  refine X.ret dX4_share_23 ⟨trivial, ?_⟩
  exact hq _ hR
set_option maxRecDepth 100000 in
set_option maxHeartbeats 4000000 in
theorem c_share_o1b {c : Int32} {b : Nat} {ρ ν μ : xM} {φ κ : Nat → Nat} {B : Nat × Nat × Nat × (Nat → Prop)} {Q : Option Value → xM → Prop} (hR : Rel ρ ν μ φ κ B) (hc : rng c 16 = none) (hb : b < 16) (hq : ∀ μ1, Rel ρ (ν) μ1 φ κ B → Q (some (.int (-1))) μ1) : Mt kX4_share [.ref 1, .int (c), .int (nI b)] μ Q := by
  have hB := hR.2.1
  refine Mt.enter rfl (Nat.le_of_ble_eq_true rfl) ?_
  refine X.aload_n dX4_share_0 rfl ?_
  refine X.iload_n dX4_share_1 rfl ?_
  refine X.cV1n (k' := kX4_channelAt) dX4_share_2 (hB.1 1 (by decide) (by decide)) ⟨by decide, rfl⟩ v_X4_channelAt wm_X4_59 wi_X4_channelAt ws_X4_channelAt ⟨Nat.le_of_ble_eq_true rfl, Nat.le_of_ble_eq_true rfl⟩ n_X4_channelAt (Nat.le_of_ble_eq_true rfl) ?_
  refine x_channelAt_o hB hc ?_
  refine ⟨rfl, ?_⟩
  refine X.astore_nN dX4_share_5 (Nat.le_of_ble_eq_true rfl) ?_
  refine X.aload_n dX4_share_6 rfl ?_
  refine X.iload_n dX4_share_7 rfl ?_
  refine X.cV1a (k' := kX4_channelAt) dX4_share_8 (hB.1 1 (by decide) (by decide)) ⟨by decide, rfl⟩ v_X4_channelAt wm_X4_59 wi_X4_channelAt ws_X4_channelAt ⟨Nat.le_of_ble_eq_true rfl, Nat.le_of_ble_eq_true rfl⟩ n_X4_channelAt (Nat.le_of_ble_eq_true rfl) ?_
  refine x_channelAt hB hb ?_
  refine ⟨_, rfl, ?_⟩
  refine X.astore dX4_share_11 (Nat.le_of_ble_eq_true rfl) ?_
  refine X.aload_nN dX4_share_13 rfl ?_
  refine X.ifnull_n (tgt := 22) dX4_share_14 (by decide) ?_
  refine X.iconst (v := -1) dX4_share_22 (by decide) ?_
  refine X.ret dX4_share_23 ⟨trivial, ?_⟩
  exact hq _ hR
theorem c_share_o1 {c d : Int32} {ρ ν μ : xM} {φ κ : Nat → Nat} {B : Nat × Nat × Nat × (Nat → Prop)} {Q : Option Value → xM → Prop} (hR : Rel ρ ν μ φ κ B) (hc : rng c 16 = none) (hq : ∀ μ1, Rel ρ ν μ1 φ κ B → Q (some (.int (-1))) μ1) : Mt kX4_share [.ref 1, .int (c), .int (d)] μ Q := by
  cases e : rng d 16 with
  | none => exact c_share_o1a hR hc e hq
  | some b =>
    obtain ⟨rfl, hb⟩ := rng_some e
    exact c_share_o1b hR hc hb hq
set_option maxRecDepth 100000 in
set_option maxHeartbeats 4000000 in
theorem c_share_o2 {a : Nat} {d : Int32} {ρ ν μ : xM} {φ κ : Nat → Nat} {B : Nat × Nat × Nat × (Nat → Prop)} {Q : Option Value → xM → Prop} (hR : Rel ρ ν μ φ κ B) (ha : a < 16) (hd : rng d 16 = none) (hq : ∀ μ1, Rel ρ (ν) μ1 φ κ B → Q (some (.int (-1))) μ1) : Mt kX4_share [.ref 1, .int (nI a), .int (d)] μ Q := by
  have hB := hR.2.1
  refine Mt.enter rfl (Nat.le_of_ble_eq_true rfl) ?_
  refine X.aload_n dX4_share_0 rfl ?_
  refine X.iload_n dX4_share_1 rfl ?_
  refine X.cV1a (k' := kX4_channelAt) dX4_share_2 (hB.1 1 (by decide) (by decide)) ⟨by decide, rfl⟩ v_X4_channelAt wm_X4_59 wi_X4_channelAt ws_X4_channelAt ⟨Nat.le_of_ble_eq_true rfl, Nat.le_of_ble_eq_true rfl⟩ n_X4_channelAt (Nat.le_of_ble_eq_true rfl) ?_
  refine x_channelAt hB ha ?_
  refine ⟨_, rfl, ?_⟩
  refine X.astore_n dX4_share_5 (Nat.le_of_ble_eq_true rfl) ?_
  refine X.aload_n dX4_share_6 rfl ?_
  refine X.iload_n dX4_share_7 rfl ?_
  refine X.cV1n (k' := kX4_channelAt) dX4_share_8 (hB.1 1 (by decide) (by decide)) ⟨by decide, rfl⟩ v_X4_channelAt wm_X4_59 wi_X4_channelAt ws_X4_channelAt ⟨Nat.le_of_ble_eq_true rfl, Nat.le_of_ble_eq_true rfl⟩ n_X4_channelAt (Nat.le_of_ble_eq_true rfl) ?_
  refine x_channelAt_o hB hd ?_
  refine ⟨rfl, ?_⟩
  refine X.astoreN dX4_share_11 (Nat.le_of_ble_eq_true rfl) ?_
  refine X.aload_n dX4_share_13 rfl ?_
  refine X.ifnull_r dX4_share_14 ?_
  refine X.aloadN dX4_share_17 rfl ?_
  refine X.ifnonnull_n dX4_share_19 ?_
  refine X.iconst (v := -1) dX4_share_22 (by decide) ?_
  refine X.ret dX4_share_23 ⟨trivial, ?_⟩
  exact hq _ hR
set_option maxRecDepth 100000 in
set_option maxHeartbeats 4000000 in
theorem c_match_o1a {c d : Int32} {ρ ν μ : xM} {φ κ : Nat → Nat} {B : Nat × Nat × Nat × (Nat → Prop)} {Q : Option Value → xM → Prop} (hR : Rel ρ ν μ φ κ B) (hc : rng c 16 = none) (hd : rng d 16 = none) (hq : ∀ μ1, Rel ρ (ν) μ1 φ κ B → Q (some (.int (-101))) μ1) : Mt kX4_match [.ref 1, .int (c), .int (d)] μ Q := by
  have hB := hR.2.1
  refine Mt.enter rfl (Nat.le_of_ble_eq_true rfl) ?_
  refine X.aload_n dX4_match_0 rfl ?_
  refine X.iload_n dX4_match_1 rfl ?_
  refine X.cV1n (k' := kX4_channelAt) dX4_match_2 (hB.1 1 (by decide) (by decide)) ⟨by decide, rfl⟩ v_X4_channelAt wm_X4_59 wi_X4_channelAt ws_X4_channelAt ⟨Nat.le_of_ble_eq_true rfl, Nat.le_of_ble_eq_true rfl⟩ n_X4_channelAt (Nat.le_of_ble_eq_true rfl) ?_
  refine x_channelAt_o hB hc ?_
  refine ⟨rfl, ?_⟩
  refine X.astore_nN dX4_match_5 (Nat.le_of_ble_eq_true rfl) ?_
  refine X.aload_n dX4_match_6 rfl ?_
  refine X.iload_n dX4_match_7 rfl ?_
  refine X.cV1n (k' := kX4_channelAt) dX4_match_8 (hB.1 1 (by decide) (by decide)) ⟨by decide, rfl⟩ v_X4_channelAt wm_X4_59 wi_X4_channelAt ws_X4_channelAt ⟨Nat.le_of_ble_eq_true rfl, Nat.le_of_ble_eq_true rfl⟩ n_X4_channelAt (Nat.le_of_ble_eq_true rfl) ?_
  refine x_channelAt_o hB hd ?_
  refine ⟨rfl, ?_⟩
  refine X.astoreN dX4_match_11 (Nat.le_of_ble_eq_true rfl) ?_
  refine X.aload_nN dX4_match_13 rfl ?_
  refine X.ifnull_n (tgt := 22) dX4_match_14 (by decide) ?_
  refine X.bipush (v := -101) dX4_match_22 (by decide) ?_
  refine X.ret dX4_match_24 ⟨trivial, ?_⟩
  exact hq _ hR
set_option maxRecDepth 100000 in
set_option maxHeartbeats 4000000 in
theorem c_match_o1b {c : Int32} {b : Nat} {ρ ν μ : xM} {φ κ : Nat → Nat} {B : Nat × Nat × Nat × (Nat → Prop)} {Q : Option Value → xM → Prop} (hR : Rel ρ ν μ φ κ B) (hc : rng c 16 = none) (hb : b < 16) (hq : ∀ μ1, Rel ρ (ν) μ1 φ κ B → Q (some (.int (-101))) μ1) : Mt kX4_match [.ref 1, .int (c), .int (nI b)] μ Q := by
  have hB := hR.2.1
  refine Mt.enter rfl (Nat.le_of_ble_eq_true rfl) ?_
  refine X.aload_n dX4_match_0 rfl ?_
  refine X.iload_n dX4_match_1 rfl ?_
  refine X.cV1n (k' := kX4_channelAt) dX4_match_2 (hB.1 1 (by decide) (by decide)) ⟨by decide, rfl⟩ v_X4_channelAt wm_X4_59 wi_X4_channelAt ws_X4_channelAt ⟨Nat.le_of_ble_eq_true rfl, Nat.le_of_ble_eq_true rfl⟩ n_X4_channelAt (Nat.le_of_ble_eq_true rfl) ?_
  refine x_channelAt_o hB hc ?_
  refine ⟨rfl, ?_⟩
  refine X.astore_nN dX4_match_5 (Nat.le_of_ble_eq_true rfl) ?_
  refine X.aload_n dX4_match_6 rfl ?_
  refine X.iload_n dX4_match_7 rfl ?_
  refine X.cV1a (k' := kX4_channelAt) dX4_match_8 (hB.1 1 (by decide) (by decide)) ⟨by decide, rfl⟩ v_X4_channelAt wm_X4_59 wi_X4_channelAt ws_X4_channelAt ⟨Nat.le_of_ble_eq_true rfl, Nat.le_of_ble_eq_true rfl⟩ n_X4_channelAt (Nat.le_of_ble_eq_true rfl) ?_
  refine x_channelAt hB hb ?_
  refine ⟨_, rfl, ?_⟩
  refine X.astore dX4_match_11 (Nat.le_of_ble_eq_true rfl) ?_
  refine X.aload_nN dX4_match_13 rfl ?_
  refine X.ifnull_n (tgt := 22) dX4_match_14 (by decide) ?_
  refine X.bipush (v := -101) dX4_match_22 (by decide) ?_
  refine X.ret dX4_match_24 ⟨trivial, ?_⟩
  exact hq _ hR
theorem c_match_o1 {c d : Int32} {ρ ν μ : xM} {φ κ : Nat → Nat} {B : Nat × Nat × Nat × (Nat → Prop)} {Q : Option Value → xM → Prop} (hR : Rel ρ ν μ φ κ B) (hc : rng c 16 = none) (hq : ∀ μ1, Rel ρ ν μ1 φ κ B → Q (some (.int (-101))) μ1) : Mt kX4_match [.ref 1, .int (c), .int (d)] μ Q := by
  cases e : rng d 16 with
  | none => exact c_match_o1a hR hc e hq
  | some b =>
    obtain ⟨rfl, hb⟩ := rng_some e
    exact c_match_o1b hR hc hb hq
set_option maxRecDepth 100000 in
set_option maxHeartbeats 4000000 in
theorem c_match_o2 {a : Nat} {d : Int32} {ρ ν μ : xM} {φ κ : Nat → Nat} {B : Nat × Nat × Nat × (Nat → Prop)} {Q : Option Value → xM → Prop} (hR : Rel ρ ν μ φ κ B) (ha : a < 16) (hd : rng d 16 = none) (hq : ∀ μ1, Rel ρ (ν) μ1 φ κ B → Q (some (.int (-101))) μ1) : Mt kX4_match [.ref 1, .int (nI a), .int (d)] μ Q := by
  have hB := hR.2.1
  refine Mt.enter rfl (Nat.le_of_ble_eq_true rfl) ?_
  refine X.aload_n dX4_match_0 rfl ?_
  refine X.iload_n dX4_match_1 rfl ?_
  refine X.cV1a (k' := kX4_channelAt) dX4_match_2 (hB.1 1 (by decide) (by decide)) ⟨by decide, rfl⟩ v_X4_channelAt wm_X4_59 wi_X4_channelAt ws_X4_channelAt ⟨Nat.le_of_ble_eq_true rfl, Nat.le_of_ble_eq_true rfl⟩ n_X4_channelAt (Nat.le_of_ble_eq_true rfl) ?_
  refine x_channelAt hB ha ?_
  refine ⟨_, rfl, ?_⟩
  refine X.astore_n dX4_match_5 (Nat.le_of_ble_eq_true rfl) ?_
  refine X.aload_n dX4_match_6 rfl ?_
  refine X.iload_n dX4_match_7 rfl ?_
  refine X.cV1n (k' := kX4_channelAt) dX4_match_8 (hB.1 1 (by decide) (by decide)) ⟨by decide, rfl⟩ v_X4_channelAt wm_X4_59 wi_X4_channelAt ws_X4_channelAt ⟨Nat.le_of_ble_eq_true rfl, Nat.le_of_ble_eq_true rfl⟩ n_X4_channelAt (Nat.le_of_ble_eq_true rfl) ?_
  refine x_channelAt_o hB hd ?_
  refine ⟨rfl, ?_⟩
  refine X.astoreN dX4_match_11 (Nat.le_of_ble_eq_true rfl) ?_
  refine X.aload_n dX4_match_13 rfl ?_
  refine X.ifnull_r dX4_match_14 ?_
  refine X.aloadN dX4_match_17 rfl ?_
  refine X.ifnonnull_n dX4_match_19 ?_
  refine X.bipush (v := -101) dX4_match_22 (by decide) ?_
  refine X.ret dX4_match_24 ⟨trivial, ?_⟩
  exact hq _ hR
set_option maxRecDepth 100000 in
set_option maxHeartbeats 4000000 in
theorem c_rack_o1a {c d : Int32} {i : Int32} {ρ ν μ : xM} {φ κ : Nat → Nat} {B : Nat × Nat × Nat × (Nat → Prop)} {Q : Option Value → xM → Prop} (hR : Rel ρ ν μ φ κ B) (hc : rng c 16 = none) (hd : rng d 16 = none) (hq : ∀ μ1, Rel ρ (ν) μ1 φ κ B → Q (some (.int (-1))) μ1) : Mt kX4_rack [.ref 1, .int (c), .int (i), .int (d)] μ Q := by
  have hB := hR.2.1
  refine Mt.enter rfl (Nat.le_of_ble_eq_true rfl) ?_
  refine X.aload_n dX4_rack_0 rfl ?_
  refine X.iload_n dX4_rack_1 rfl ?_
  refine X.cV1n (k' := kX4_channelAt) dX4_rack_2 (hB.1 1 (by decide) (by decide)) ⟨by decide, rfl⟩ v_X4_channelAt wm_X4_59 wi_X4_channelAt ws_X4_channelAt ⟨Nat.le_of_ble_eq_true rfl, Nat.le_of_ble_eq_true rfl⟩ n_X4_channelAt (Nat.le_of_ble_eq_true rfl) ?_
  refine x_channelAt_o hB hc ?_
  refine ⟨rfl, ?_⟩
  refine X.astoreN dX4_rack_5 (Nat.le_of_ble_eq_true rfl) ?_
  refine X.aload_n dX4_rack_7 rfl ?_
  refine X.iload_n dX4_rack_8 rfl ?_
  refine X.cV1n (k' := kX4_channelAt) dX4_rack_9 (hB.1 1 (by decide) (by decide)) ⟨by decide, rfl⟩ v_X4_channelAt wm_X4_59 wi_X4_channelAt ws_X4_channelAt ⟨Nat.le_of_ble_eq_true rfl, Nat.le_of_ble_eq_true rfl⟩ n_X4_channelAt (Nat.le_of_ble_eq_true rfl) ?_
  refine x_channelAt_o hB hd ?_
  refine ⟨rfl, ?_⟩
  refine X.astoreN dX4_rack_12 (Nat.le_of_ble_eq_true rfl) ?_
  refine X.aloadN dX4_rack_14 rfl ?_
  refine X.ifnull_n (tgt := 24) dX4_rack_16 (by decide) ?_
  refine X.iconst (v := -1) dX4_rack_24 (by decide) ?_
  refine X.ret dX4_rack_25 ⟨trivial, ?_⟩
  exact hq _ hR
set_option maxRecDepth 100000 in
set_option maxHeartbeats 4000000 in
theorem c_rack_o1b {c : Int32} {b : Nat} {i : Int32} {ρ ν μ : xM} {φ κ : Nat → Nat} {B : Nat × Nat × Nat × (Nat → Prop)} {Q : Option Value → xM → Prop} (hR : Rel ρ ν μ φ κ B) (hc : rng c 16 = none) (hb : b < 16) (hq : ∀ μ1, Rel ρ (ν) μ1 φ κ B → Q (some (.int (-1))) μ1) : Mt kX4_rack [.ref 1, .int (c), .int (i), .int (nI b)] μ Q := by
  have hB := hR.2.1
  refine Mt.enter rfl (Nat.le_of_ble_eq_true rfl) ?_
  refine X.aload_n dX4_rack_0 rfl ?_
  refine X.iload_n dX4_rack_1 rfl ?_
  refine X.cV1n (k' := kX4_channelAt) dX4_rack_2 (hB.1 1 (by decide) (by decide)) ⟨by decide, rfl⟩ v_X4_channelAt wm_X4_59 wi_X4_channelAt ws_X4_channelAt ⟨Nat.le_of_ble_eq_true rfl, Nat.le_of_ble_eq_true rfl⟩ n_X4_channelAt (Nat.le_of_ble_eq_true rfl) ?_
  refine x_channelAt_o hB hc ?_
  refine ⟨rfl, ?_⟩
  refine X.astoreN dX4_rack_5 (Nat.le_of_ble_eq_true rfl) ?_
  refine X.aload_n dX4_rack_7 rfl ?_
  refine X.iload_n dX4_rack_8 rfl ?_
  refine X.cV1a (k' := kX4_channelAt) dX4_rack_9 (hB.1 1 (by decide) (by decide)) ⟨by decide, rfl⟩ v_X4_channelAt wm_X4_59 wi_X4_channelAt ws_X4_channelAt ⟨Nat.le_of_ble_eq_true rfl, Nat.le_of_ble_eq_true rfl⟩ n_X4_channelAt (Nat.le_of_ble_eq_true rfl) ?_
  refine x_channelAt hB hb ?_
  refine ⟨_, rfl, ?_⟩
  refine X.astore dX4_rack_12 (Nat.le_of_ble_eq_true rfl) ?_
  refine X.aloadN dX4_rack_14 rfl ?_
  refine X.ifnull_n (tgt := 24) dX4_rack_16 (by decide) ?_
  refine X.iconst (v := -1) dX4_rack_24 (by decide) ?_
  refine X.ret dX4_rack_25 ⟨trivial, ?_⟩
  exact hq _ hR
theorem c_rack_o1 {c d : Int32} {i : Int32} {ρ ν μ : xM} {φ κ : Nat → Nat} {B : Nat × Nat × Nat × (Nat → Prop)} {Q : Option Value → xM → Prop} (hR : Rel ρ ν μ φ κ B) (hc : rng c 16 = none) (hq : ∀ μ1, Rel ρ ν μ1 φ κ B → Q (some (.int (-1))) μ1) : Mt kX4_rack [.ref 1, .int (c), .int (i), .int (d)] μ Q := by
  cases e : rng d 16 with
  | none => exact c_rack_o1a hR hc e hq
  | some b =>
    obtain ⟨rfl, hb⟩ := rng_some e
    exact c_rack_o1b hR hc hb hq
set_option maxRecDepth 100000 in
set_option maxHeartbeats 4000000 in
theorem c_rack_o2 {a : Nat} {d : Int32} {i : Int32} {ρ ν μ : xM} {φ κ : Nat → Nat} {B : Nat × Nat × Nat × (Nat → Prop)} {Q : Option Value → xM → Prop} (hR : Rel ρ ν μ φ κ B) (ha : a < 16) (hd : rng d 16 = none) (hq : ∀ μ1, Rel ρ (ν) μ1 φ κ B → Q (some (.int (-1))) μ1) : Mt kX4_rack [.ref 1, .int (nI a), .int (i), .int (d)] μ Q := by
  have hB := hR.2.1
  refine Mt.enter rfl (Nat.le_of_ble_eq_true rfl) ?_
  refine X.aload_n dX4_rack_0 rfl ?_
  refine X.iload_n dX4_rack_1 rfl ?_
  refine X.cV1a (k' := kX4_channelAt) dX4_rack_2 (hB.1 1 (by decide) (by decide)) ⟨by decide, rfl⟩ v_X4_channelAt wm_X4_59 wi_X4_channelAt ws_X4_channelAt ⟨Nat.le_of_ble_eq_true rfl, Nat.le_of_ble_eq_true rfl⟩ n_X4_channelAt (Nat.le_of_ble_eq_true rfl) ?_
  refine x_channelAt hB ha ?_
  refine ⟨_, rfl, ?_⟩
  refine X.astore dX4_rack_5 (Nat.le_of_ble_eq_true rfl) ?_
  refine X.aload_n dX4_rack_7 rfl ?_
  refine X.iload_n dX4_rack_8 rfl ?_
  refine X.cV1n (k' := kX4_channelAt) dX4_rack_9 (hB.1 1 (by decide) (by decide)) ⟨by decide, rfl⟩ v_X4_channelAt wm_X4_59 wi_X4_channelAt ws_X4_channelAt ⟨Nat.le_of_ble_eq_true rfl, Nat.le_of_ble_eq_true rfl⟩ n_X4_channelAt (Nat.le_of_ble_eq_true rfl) ?_
  refine x_channelAt_o hB hd ?_
  refine ⟨rfl, ?_⟩
  refine X.astoreN dX4_rack_12 (Nat.le_of_ble_eq_true rfl) ?_
  refine X.aload dX4_rack_14 rfl ?_
  refine X.ifnull_r dX4_rack_16 ?_
  refine X.aloadN dX4_rack_19 rfl ?_
  refine X.ifnonnull_n dX4_rack_21 ?_
  refine X.iconst (v := -1) dX4_rack_24 (by decide) ?_
  refine X.ret dX4_rack_25 ⟨trivial, ?_⟩
  exact hq _ hR
set_option maxRecDepth 100000 in
set_option maxHeartbeats 4000000 in
theorem c_unrack_o1a {c d : Int32} {i : Int32} {ρ ν μ : xM} {φ κ : Nat → Nat} {B : Nat × Nat × Nat × (Nat → Prop)} {Q : Option Value → xM → Prop} (hR : Rel ρ ν μ φ κ B) (hc : rng c 16 = none) (hd : rng d 16 = none) (hq : ∀ μ1, Rel ρ (ν) μ1 φ κ B → Q (some (.int (-1))) μ1) : Mt kX4_unrack [.ref 1, .int (c), .int (i), .int (d)] μ Q := by
  have hB := hR.2.1
  refine Mt.enter rfl (Nat.le_of_ble_eq_true rfl) ?_
  refine X.aload_n dX4_unrack_0 rfl ?_
  refine X.iload_n dX4_unrack_1 rfl ?_
  refine X.cV1n (k' := kX4_channelAt) dX4_unrack_2 (hB.1 1 (by decide) (by decide)) ⟨by decide, rfl⟩ v_X4_channelAt wm_X4_59 wi_X4_channelAt ws_X4_channelAt ⟨Nat.le_of_ble_eq_true rfl, Nat.le_of_ble_eq_true rfl⟩ n_X4_channelAt (Nat.le_of_ble_eq_true rfl) ?_
  refine x_channelAt_o hB hc ?_
  refine ⟨rfl, ?_⟩
  refine X.astoreN dX4_unrack_5 (Nat.le_of_ble_eq_true rfl) ?_
  refine X.aload_n dX4_unrack_7 rfl ?_
  refine X.iload_n dX4_unrack_8 rfl ?_
  refine X.cV1n (k' := kX4_channelAt) dX4_unrack_9 (hB.1 1 (by decide) (by decide)) ⟨by decide, rfl⟩ v_X4_channelAt wm_X4_59 wi_X4_channelAt ws_X4_channelAt ⟨Nat.le_of_ble_eq_true rfl, Nat.le_of_ble_eq_true rfl⟩ n_X4_channelAt (Nat.le_of_ble_eq_true rfl) ?_
  refine x_channelAt_o hB hd ?_
  refine ⟨rfl, ?_⟩
  refine X.astoreN dX4_unrack_12 (Nat.le_of_ble_eq_true rfl) ?_
  refine X.aloadN dX4_unrack_14 rfl ?_
  refine X.ifnull_n (tgt := 24) dX4_unrack_16 (by decide) ?_
  refine X.iconst (v := -1) dX4_unrack_24 (by decide) ?_
  refine X.ret dX4_unrack_25 ⟨trivial, ?_⟩
  exact hq _ hR
set_option maxRecDepth 100000 in
set_option maxHeartbeats 4000000 in
theorem c_unrack_o1b {c : Int32} {b : Nat} {i : Int32} {ρ ν μ : xM} {φ κ : Nat → Nat} {B : Nat × Nat × Nat × (Nat → Prop)} {Q : Option Value → xM → Prop} (hR : Rel ρ ν μ φ κ B) (hc : rng c 16 = none) (hb : b < 16) (hq : ∀ μ1, Rel ρ (ν) μ1 φ κ B → Q (some (.int (-1))) μ1) : Mt kX4_unrack [.ref 1, .int (c), .int (i), .int (nI b)] μ Q := by
  have hB := hR.2.1
  refine Mt.enter rfl (Nat.le_of_ble_eq_true rfl) ?_
  refine X.aload_n dX4_unrack_0 rfl ?_
  refine X.iload_n dX4_unrack_1 rfl ?_
  refine X.cV1n (k' := kX4_channelAt) dX4_unrack_2 (hB.1 1 (by decide) (by decide)) ⟨by decide, rfl⟩ v_X4_channelAt wm_X4_59 wi_X4_channelAt ws_X4_channelAt ⟨Nat.le_of_ble_eq_true rfl, Nat.le_of_ble_eq_true rfl⟩ n_X4_channelAt (Nat.le_of_ble_eq_true rfl) ?_
  refine x_channelAt_o hB hc ?_
  refine ⟨rfl, ?_⟩
  refine X.astoreN dX4_unrack_5 (Nat.le_of_ble_eq_true rfl) ?_
  refine X.aload_n dX4_unrack_7 rfl ?_
  refine X.iload_n dX4_unrack_8 rfl ?_
  refine X.cV1a (k' := kX4_channelAt) dX4_unrack_9 (hB.1 1 (by decide) (by decide)) ⟨by decide, rfl⟩ v_X4_channelAt wm_X4_59 wi_X4_channelAt ws_X4_channelAt ⟨Nat.le_of_ble_eq_true rfl, Nat.le_of_ble_eq_true rfl⟩ n_X4_channelAt (Nat.le_of_ble_eq_true rfl) ?_
  refine x_channelAt hB hb ?_
  refine ⟨_, rfl, ?_⟩
  refine X.astore dX4_unrack_12 (Nat.le_of_ble_eq_true rfl) ?_
  refine X.aloadN dX4_unrack_14 rfl ?_
  refine X.ifnull_n (tgt := 24) dX4_unrack_16 (by decide) ?_
  refine X.iconst (v := -1) dX4_unrack_24 (by decide) ?_
  refine X.ret dX4_unrack_25 ⟨trivial, ?_⟩
  exact hq _ hR
theorem c_unrack_o1 {c d : Int32} {i : Int32} {ρ ν μ : xM} {φ κ : Nat → Nat} {B : Nat × Nat × Nat × (Nat → Prop)} {Q : Option Value → xM → Prop} (hR : Rel ρ ν μ φ κ B) (hc : rng c 16 = none) (hq : ∀ μ1, Rel ρ ν μ1 φ κ B → Q (some (.int (-1))) μ1) : Mt kX4_unrack [.ref 1, .int (c), .int (i), .int (d)] μ Q := by
  cases e : rng d 16 with
  | none => exact c_unrack_o1a hR hc e hq
  | some b =>
    obtain ⟨rfl, hb⟩ := rng_some e
    exact c_unrack_o1b hR hc hb hq
set_option maxRecDepth 100000 in
set_option maxHeartbeats 4000000 in
theorem c_unrack_o2 {a : Nat} {d : Int32} {i : Int32} {ρ ν μ : xM} {φ κ : Nat → Nat} {B : Nat × Nat × Nat × (Nat → Prop)} {Q : Option Value → xM → Prop} (hR : Rel ρ ν μ φ κ B) (ha : a < 16) (hd : rng d 16 = none) (hq : ∀ μ1, Rel ρ (ν) μ1 φ κ B → Q (some (.int (-1))) μ1) : Mt kX4_unrack [.ref 1, .int (nI a), .int (i), .int (d)] μ Q := by
  have hB := hR.2.1
  refine Mt.enter rfl (Nat.le_of_ble_eq_true rfl) ?_
  refine X.aload_n dX4_unrack_0 rfl ?_
  refine X.iload_n dX4_unrack_1 rfl ?_
  refine X.cV1a (k' := kX4_channelAt) dX4_unrack_2 (hB.1 1 (by decide) (by decide)) ⟨by decide, rfl⟩ v_X4_channelAt wm_X4_59 wi_X4_channelAt ws_X4_channelAt ⟨Nat.le_of_ble_eq_true rfl, Nat.le_of_ble_eq_true rfl⟩ n_X4_channelAt (Nat.le_of_ble_eq_true rfl) ?_
  refine x_channelAt hB ha ?_
  refine ⟨_, rfl, ?_⟩
  refine X.astore dX4_unrack_5 (Nat.le_of_ble_eq_true rfl) ?_
  refine X.aload_n dX4_unrack_7 rfl ?_
  refine X.iload_n dX4_unrack_8 rfl ?_
  refine X.cV1n (k' := kX4_channelAt) dX4_unrack_9 (hB.1 1 (by decide) (by decide)) ⟨by decide, rfl⟩ v_X4_channelAt wm_X4_59 wi_X4_channelAt ws_X4_channelAt ⟨Nat.le_of_ble_eq_true rfl, Nat.le_of_ble_eq_true rfl⟩ n_X4_channelAt (Nat.le_of_ble_eq_true rfl) ?_
  refine x_channelAt_o hB hd ?_
  refine ⟨rfl, ?_⟩
  refine X.astoreN dX4_unrack_12 (Nat.le_of_ble_eq_true rfl) ?_
  refine X.aload dX4_unrack_14 rfl ?_
  refine X.ifnull_r dX4_unrack_16 ?_
  refine X.aloadN dX4_unrack_19 rfl ?_
  refine X.ifnonnull_n dX4_unrack_21 ?_
  refine X.iconst (v := -1) dX4_unrack_24 (by decide) ?_
  refine X.ret dX4_unrack_25 ⟨trivial, ?_⟩
  exact hq _ hR
set_option maxRecDepth 100000 in
set_option maxHeartbeats 4000000 in
theorem c_dub_o1a {c d : Int32} {k : Int32} {ρ ν μ : xM} {φ κ : Nat → Nat} {B : Nat × Nat × Nat × (Nat → Prop)} {Q : Option Value → xM → Prop} (hR : Rel ρ ν μ φ κ B) (hc : rng c 16 = none) (hd : rng d 16 = none) (hq : ∀ μ1, Rel ρ (ν) μ1 φ κ B → Q (some (.int (-1))) μ1) : Mt kX4_dub [.ref 1, .int (c), .int (d), .int (k)] μ Q := by
  have hB := hR.2.1
  refine Mt.enter rfl (Nat.le_of_ble_eq_true rfl) ?_
  refine X.aload_n dX4_dub_0 rfl ?_
  refine X.iload_n dX4_dub_1 rfl ?_
  refine X.cV1n (k' := kX4_channelAt) dX4_dub_2 (hB.1 1 (by decide) (by decide)) ⟨by decide, rfl⟩ v_X4_channelAt wm_X4_59 wi_X4_channelAt ws_X4_channelAt ⟨Nat.le_of_ble_eq_true rfl, Nat.le_of_ble_eq_true rfl⟩ n_X4_channelAt (Nat.le_of_ble_eq_true rfl) ?_
  refine x_channelAt_o hB hc ?_
  refine ⟨rfl, ?_⟩
  refine X.astoreN dX4_dub_5 (Nat.le_of_ble_eq_true rfl) ?_
  refine X.aload_n dX4_dub_7 rfl ?_
  refine X.iload_n dX4_dub_8 rfl ?_
  refine X.cV1n (k' := kX4_channelAt) dX4_dub_9 (hB.1 1 (by decide) (by decide)) ⟨by decide, rfl⟩ v_X4_channelAt wm_X4_59 wi_X4_channelAt ws_X4_channelAt ⟨Nat.le_of_ble_eq_true rfl, Nat.le_of_ble_eq_true rfl⟩ n_X4_channelAt (Nat.le_of_ble_eq_true rfl) ?_
  refine x_channelAt_o hB hd ?_
  refine ⟨rfl, ?_⟩
  refine X.astoreN dX4_dub_12 (Nat.le_of_ble_eq_true rfl) ?_
  refine X.aloadN dX4_dub_14 rfl ?_
  refine X.ifnull_n (tgt := 31) dX4_dub_16 (by decide) ?_
  refine X.iconst (v := -1) dX4_dub_31 (by decide) ?_
  refine X.ret dX4_dub_32 ⟨trivial, ?_⟩
  exact hq _ hR
set_option maxRecDepth 100000 in
set_option maxHeartbeats 4000000 in
theorem c_dub_o1b {c : Int32} {b : Nat} {k : Int32} {ρ ν μ : xM} {φ κ : Nat → Nat} {B : Nat × Nat × Nat × (Nat → Prop)} {Q : Option Value → xM → Prop} (hR : Rel ρ ν μ φ κ B) (hc : rng c 16 = none) (hb : b < 16) (hq : ∀ μ1, Rel ρ (ν) μ1 φ κ B → Q (some (.int (-1))) μ1) : Mt kX4_dub [.ref 1, .int (c), .int (nI b), .int (k)] μ Q := by
  have hB := hR.2.1
  refine Mt.enter rfl (Nat.le_of_ble_eq_true rfl) ?_
  refine X.aload_n dX4_dub_0 rfl ?_
  refine X.iload_n dX4_dub_1 rfl ?_
  refine X.cV1n (k' := kX4_channelAt) dX4_dub_2 (hB.1 1 (by decide) (by decide)) ⟨by decide, rfl⟩ v_X4_channelAt wm_X4_59 wi_X4_channelAt ws_X4_channelAt ⟨Nat.le_of_ble_eq_true rfl, Nat.le_of_ble_eq_true rfl⟩ n_X4_channelAt (Nat.le_of_ble_eq_true rfl) ?_
  refine x_channelAt_o hB hc ?_
  refine ⟨rfl, ?_⟩
  refine X.astoreN dX4_dub_5 (Nat.le_of_ble_eq_true rfl) ?_
  refine X.aload_n dX4_dub_7 rfl ?_
  refine X.iload_n dX4_dub_8 rfl ?_
  refine X.cV1a (k' := kX4_channelAt) dX4_dub_9 (hB.1 1 (by decide) (by decide)) ⟨by decide, rfl⟩ v_X4_channelAt wm_X4_59 wi_X4_channelAt ws_X4_channelAt ⟨Nat.le_of_ble_eq_true rfl, Nat.le_of_ble_eq_true rfl⟩ n_X4_channelAt (Nat.le_of_ble_eq_true rfl) ?_
  refine x_channelAt hB hb ?_
  refine ⟨_, rfl, ?_⟩
  refine X.astore dX4_dub_12 (Nat.le_of_ble_eq_true rfl) ?_
  refine X.aloadN dX4_dub_14 rfl ?_
  refine X.ifnull_n (tgt := 31) dX4_dub_16 (by decide) ?_
  refine X.iconst (v := -1) dX4_dub_31 (by decide) ?_
  refine X.ret dX4_dub_32 ⟨trivial, ?_⟩
  exact hq _ hR
theorem c_dub_o1 {c d : Int32} {k : Int32} {ρ ν μ : xM} {φ κ : Nat → Nat} {B : Nat × Nat × Nat × (Nat → Prop)} {Q : Option Value → xM → Prop} (hR : Rel ρ ν μ φ κ B) (hc : rng c 16 = none) (hq : ∀ μ1, Rel ρ ν μ1 φ κ B → Q (some (.int (-1))) μ1) : Mt kX4_dub [.ref 1, .int (c), .int (d), .int (k)] μ Q := by
  cases e : rng d 16 with
  | none => exact c_dub_o1a hR hc e hq
  | some b =>
    obtain ⟨rfl, hb⟩ := rng_some e
    exact c_dub_o1b hR hc hb hq
set_option maxRecDepth 100000 in
set_option maxHeartbeats 4000000 in
theorem c_dub_o2 {a : Nat} {d : Int32} {k : Int32} {ρ ν μ : xM} {φ κ : Nat → Nat} {B : Nat × Nat × Nat × (Nat → Prop)} {Q : Option Value → xM → Prop} (hR : Rel ρ ν μ φ κ B) (ha : a < 16) (hd : rng d 16 = none) (hq : ∀ μ1, Rel ρ (ν) μ1 φ κ B → Q (some (.int (-1))) μ1) : Mt kX4_dub [.ref 1, .int (nI a), .int (d), .int (k)] μ Q := by
  have hB := hR.2.1
  refine Mt.enter rfl (Nat.le_of_ble_eq_true rfl) ?_
  refine X.aload_n dX4_dub_0 rfl ?_
  refine X.iload_n dX4_dub_1 rfl ?_
  refine X.cV1a (k' := kX4_channelAt) dX4_dub_2 (hB.1 1 (by decide) (by decide)) ⟨by decide, rfl⟩ v_X4_channelAt wm_X4_59 wi_X4_channelAt ws_X4_channelAt ⟨Nat.le_of_ble_eq_true rfl, Nat.le_of_ble_eq_true rfl⟩ n_X4_channelAt (Nat.le_of_ble_eq_true rfl) ?_
  refine x_channelAt hB ha ?_
  refine ⟨_, rfl, ?_⟩
  refine X.astore dX4_dub_5 (Nat.le_of_ble_eq_true rfl) ?_
  refine X.aload_n dX4_dub_7 rfl ?_
  refine X.iload_n dX4_dub_8 rfl ?_
  refine X.cV1n (k' := kX4_channelAt) dX4_dub_9 (hB.1 1 (by decide) (by decide)) ⟨by decide, rfl⟩ v_X4_channelAt wm_X4_59 wi_X4_channelAt ws_X4_channelAt ⟨Nat.le_of_ble_eq_true rfl, Nat.le_of_ble_eq_true rfl⟩ n_X4_channelAt (Nat.le_of_ble_eq_true rfl) ?_
  refine x_channelAt_o hB hd ?_
  refine ⟨rfl, ?_⟩
  refine X.astoreN dX4_dub_12 (Nat.le_of_ble_eq_true rfl) ?_
  refine X.aload dX4_dub_14 rfl ?_
  refine X.ifnull_r dX4_dub_16 ?_
  refine X.aloadN dX4_dub_19 rfl ?_
  refine X.ifnull_n (tgt := 31) dX4_dub_21 (by decide) ?_
  refine X.iconst (v := -1) dX4_dub_31 (by decide) ?_
  refine X.ret dX4_dub_32 ⟨trivial, ?_⟩
  exact hq _ hR
set_option maxRecDepth 100000 in
set_option maxHeartbeats 4000000 in
theorem c_splice_o1a {c d : Int32} {i j n : Int32} {ρ ν μ : xM} {φ κ : Nat → Nat} {B : Nat × Nat × Nat × (Nat → Prop)} {Q : Option Value → xM → Prop} (hR : Rel ρ ν μ φ κ B) (hc : rng c 16 = none) (hd : rng d 16 = none) (hq : ∀ μ1, Rel ρ (ν) μ1 φ κ B → Q (some (.int (-1))) μ1) : Mt kX4_splice [.ref 1, .int (c), .int (i), .int (d), .int (j), .int (n)] μ Q := by
  have hB := hR.2.1
  refine Mt.enter rfl (Nat.le_of_ble_eq_true rfl) ?_
  refine X.aload_n dX4_splice_0 rfl ?_
  refine X.iload_n dX4_splice_1 rfl ?_
  refine X.cV1n (k' := kX4_channelAt) dX4_splice_2 (hB.1 1 (by decide) (by decide)) ⟨by decide, rfl⟩ v_X4_channelAt wm_X4_59 wi_X4_channelAt ws_X4_channelAt ⟨Nat.le_of_ble_eq_true rfl, Nat.le_of_ble_eq_true rfl⟩ n_X4_channelAt (Nat.le_of_ble_eq_true rfl) ?_
  refine x_channelAt_o hB hc ?_
  refine ⟨rfl, ?_⟩
  refine X.astoreN dX4_splice_5 (Nat.le_of_ble_eq_true rfl) ?_
  refine X.aload_n dX4_splice_7 rfl ?_
  refine X.iload_n dX4_splice_8 rfl ?_
  refine X.cV1n (k' := kX4_channelAt) dX4_splice_9 (hB.1 1 (by decide) (by decide)) ⟨by decide, rfl⟩ v_X4_channelAt wm_X4_59 wi_X4_channelAt ws_X4_channelAt ⟨Nat.le_of_ble_eq_true rfl, Nat.le_of_ble_eq_true rfl⟩ n_X4_channelAt (Nat.le_of_ble_eq_true rfl) ?_
  refine x_channelAt_o hB hd ?_
  refine ⟨rfl, ?_⟩
  refine X.astoreN dX4_splice_12 (Nat.le_of_ble_eq_true rfl) ?_
  refine X.aloadN dX4_splice_14 rfl ?_
  refine X.ifnull_n (tgt := 36) dX4_splice_16 (by decide) ?_
  refine X.iconst (v := -1) dX4_splice_36 (by decide) ?_
  refine X.ret dX4_splice_37 ⟨trivial, ?_⟩
  exact hq _ hR
set_option maxRecDepth 100000 in
set_option maxHeartbeats 4000000 in
theorem c_splice_o1b {c : Int32} {b : Nat} {i j n : Int32} {ρ ν μ : xM} {φ κ : Nat → Nat} {B : Nat × Nat × Nat × (Nat → Prop)} {Q : Option Value → xM → Prop} (hR : Rel ρ ν μ φ κ B) (hc : rng c 16 = none) (hb : b < 16) (hq : ∀ μ1, Rel ρ (ν) μ1 φ κ B → Q (some (.int (-1))) μ1) : Mt kX4_splice [.ref 1, .int (c), .int (i), .int (nI b), .int (j), .int (n)] μ Q := by
  have hB := hR.2.1
  refine Mt.enter rfl (Nat.le_of_ble_eq_true rfl) ?_
  refine X.aload_n dX4_splice_0 rfl ?_
  refine X.iload_n dX4_splice_1 rfl ?_
  refine X.cV1n (k' := kX4_channelAt) dX4_splice_2 (hB.1 1 (by decide) (by decide)) ⟨by decide, rfl⟩ v_X4_channelAt wm_X4_59 wi_X4_channelAt ws_X4_channelAt ⟨Nat.le_of_ble_eq_true rfl, Nat.le_of_ble_eq_true rfl⟩ n_X4_channelAt (Nat.le_of_ble_eq_true rfl) ?_
  refine x_channelAt_o hB hc ?_
  refine ⟨rfl, ?_⟩
  refine X.astoreN dX4_splice_5 (Nat.le_of_ble_eq_true rfl) ?_
  refine X.aload_n dX4_splice_7 rfl ?_
  refine X.iload_n dX4_splice_8 rfl ?_
  refine X.cV1a (k' := kX4_channelAt) dX4_splice_9 (hB.1 1 (by decide) (by decide)) ⟨by decide, rfl⟩ v_X4_channelAt wm_X4_59 wi_X4_channelAt ws_X4_channelAt ⟨Nat.le_of_ble_eq_true rfl, Nat.le_of_ble_eq_true rfl⟩ n_X4_channelAt (Nat.le_of_ble_eq_true rfl) ?_
  refine x_channelAt hB hb ?_
  refine ⟨_, rfl, ?_⟩
  refine X.astore dX4_splice_12 (Nat.le_of_ble_eq_true rfl) ?_
  refine X.aloadN dX4_splice_14 rfl ?_
  refine X.ifnull_n (tgt := 36) dX4_splice_16 (by decide) ?_
  refine X.iconst (v := -1) dX4_splice_36 (by decide) ?_
  refine X.ret dX4_splice_37 ⟨trivial, ?_⟩
  exact hq _ hR
theorem c_splice_o1 {c d : Int32} {i j n : Int32} {ρ ν μ : xM} {φ κ : Nat → Nat} {B : Nat × Nat × Nat × (Nat → Prop)} {Q : Option Value → xM → Prop} (hR : Rel ρ ν μ φ κ B) (hc : rng c 16 = none) (hq : ∀ μ1, Rel ρ ν μ1 φ κ B → Q (some (.int (-1))) μ1) : Mt kX4_splice [.ref 1, .int (c), .int (i), .int (d), .int (j), .int (n)] μ Q := by
  cases e : rng d 16 with
  | none => exact c_splice_o1a hR hc e hq
  | some b =>
    obtain ⟨rfl, hb⟩ := rng_some e
    exact c_splice_o1b hR hc hb hq
set_option maxRecDepth 100000 in
set_option maxHeartbeats 4000000 in
theorem c_splice_o2 {a : Nat} {d : Int32} {i j n : Int32} {ρ ν μ : xM} {φ κ : Nat → Nat} {B : Nat × Nat × Nat × (Nat → Prop)} {Q : Option Value → xM → Prop} (hR : Rel ρ ν μ φ κ B) (ha : a < 16) (hd : rng d 16 = none) (hq : ∀ μ1, Rel ρ (ν) μ1 φ κ B → Q (some (.int (-1))) μ1) : Mt kX4_splice [.ref 1, .int (nI a), .int (i), .int (d), .int (j), .int (n)] μ Q := by
  have hB := hR.2.1
  refine Mt.enter rfl (Nat.le_of_ble_eq_true rfl) ?_
  refine X.aload_n dX4_splice_0 rfl ?_
  refine X.iload_n dX4_splice_1 rfl ?_
  refine X.cV1a (k' := kX4_channelAt) dX4_splice_2 (hB.1 1 (by decide) (by decide)) ⟨by decide, rfl⟩ v_X4_channelAt wm_X4_59 wi_X4_channelAt ws_X4_channelAt ⟨Nat.le_of_ble_eq_true rfl, Nat.le_of_ble_eq_true rfl⟩ n_X4_channelAt (Nat.le_of_ble_eq_true rfl) ?_
  refine x_channelAt hB ha ?_
  refine ⟨_, rfl, ?_⟩
  refine X.astore dX4_splice_5 (Nat.le_of_ble_eq_true rfl) ?_
  refine X.aload_n dX4_splice_7 rfl ?_
  refine X.iload_n dX4_splice_8 rfl ?_
  refine X.cV1n (k' := kX4_channelAt) dX4_splice_9 (hB.1 1 (by decide) (by decide)) ⟨by decide, rfl⟩ v_X4_channelAt wm_X4_59 wi_X4_channelAt ws_X4_channelAt ⟨Nat.le_of_ble_eq_true rfl, Nat.le_of_ble_eq_true rfl⟩ n_X4_channelAt (Nat.le_of_ble_eq_true rfl) ?_
  refine x_channelAt_o hB hd ?_
  refine ⟨rfl, ?_⟩
  refine X.astoreN dX4_splice_12 (Nat.le_of_ble_eq_true rfl) ?_
  refine X.aload dX4_splice_14 rfl ?_
  refine X.ifnull_r dX4_splice_16 ?_
  refine X.aloadN dX4_splice_19 rfl ?_
  refine X.ifnull_n (tgt := 36) dX4_splice_21 (by decide) ?_
  refine X.iconst (v := -1) dX4_splice_36 (by decide) ?_
  refine X.ret dX4_splice_37 ⟨trivial, ?_⟩
  exact hq _ hR
set_option maxRecDepth 100000 in
set_option maxHeartbeats 4000000 in
theorem c_share_in {a b : Nat} {ρ ν μ : xM} {φ κ : Nat → Nat} {B : Nat × Nat × Nat × (Nat → Prop)} {Q : Option Value → xM → Prop} (hR : Rel ρ ν μ φ κ B) (ha : a < 16) (hb : b < 16) (hq : ∀ μ1, Rel ρ (sI ν 50 a (mI ν 50 b)) μ1 φ κ B → Q (some (.int (sortM ν b))) μ1) : Mt kX4_share [.ref 1, .int (nI a), .int (nI b)] μ Q := by
  have hB := hR.2.1
  refine Mt.enter rfl (Nat.le_of_ble_eq_true rfl) ?_
  refine X.aload_n dX4_share_0 rfl ?_
  refine X.iload_n dX4_share_1 rfl ?_
  refine X.cV1a (k' := kX4_channelAt) dX4_share_2 (hB.1 1 (by decide) (by decide)) ⟨by decide, rfl⟩ v_X4_channelAt wm_X4_59 wi_X4_channelAt ws_X4_channelAt ⟨Nat.le_of_ble_eq_true rfl, Nat.le_of_ble_eq_true rfl⟩ n_X4_channelAt (Nat.le_of_ble_eq_true rfl) ?_
  refine x_channelAt hB ha ?_
  refine ⟨_, rfl, ?_⟩
  refine X.astore_n dX4_share_5 (Nat.le_of_ble_eq_true rfl) ?_
  refine X.aload_n dX4_share_6 rfl ?_
  refine X.iload_n dX4_share_7 rfl ?_
  refine X.cV1a (k' := kX4_channelAt) dX4_share_8 (hB.1 1 (by decide) (by decide)) ⟨by decide, rfl⟩ v_X4_channelAt wm_X4_59 wi_X4_channelAt ws_X4_channelAt ⟨Nat.le_of_ble_eq_true rfl, Nat.le_of_ble_eq_true rfl⟩ n_X4_channelAt (Nat.le_of_ble_eq_true rfl) ?_
  refine x_channelAt hB hb ?_
  refine ⟨_, rfl, ?_⟩
  refine X.astore dX4_share_11 (Nat.le_of_ble_eq_true rfl) ?_
  refine X.aload_n dX4_share_13 rfl ?_
  refine X.ifnull_r dX4_share_14 ?_
  refine X.aload dX4_share_17 rfl ?_
  refine X.ifnonnull_r (tgt := 24) dX4_share_19 (by decide) ?_
  refine X.aload_n dX4_share_24 rfl ?_
  refine X.aload dX4_share_25 rfl ?_
  refine X.getO (kf := 1) dX4_share_27 ((hB.2.2.1 b hb).1) (by decide) (by decide) rfl wf_X4_84 ?_
  refine X.aload dX4_share_30 rfl ?_
  refine X.getI (kf := 2) dX4_share_32 ((hB.2.2.1 b hb).1) (by decide) (by decide) rfl wf_X4_88 ?_
  refine X.cV2v (k' := kX2_hold) dX4_share_35 ((hB.2.2.1 a ha).1) ⟨by decide, rfl⟩ v_X2_hold wm_X4_76 wi_X2_hold ws_X2_hold ⟨Nat.le_of_ble_eq_true rfl, Nat.le_of_ble_eq_true rfl⟩ n_X2_hold (Nat.le_of_ble_eq_true rfl) ?_
  refine x_hold hB ha (plug_b hR hb) ?_
  refine ⟨rfl, ?_⟩
  have hR := hR.hold ha (share_hold hR hb)
  have hB := hR.2.1
  refine X.aload_n dX4_share_38 rfl ?_
  refine X.cV0i (k' := kX2_has) dX4_share_39 ((hB.2.2.1 a ha).1) ⟨by decide, rfl⟩ v_X2_has wm_X4_92 wi_X2_has ws_X2_has ⟨Nat.le_of_ble_eq_true rfl, Nat.le_of_ble_eq_true rfl⟩ n_X2_has (Nat.le_of_ble_eq_true rfl) ?_
  refine c_has hR ha ?_
  refine ⟨_, rfl, ?_⟩
  refine X.ret dX4_share_42 ⟨trivial, ?_⟩
  have e : sortM (sI ν 50 a (mI ν 50 b)) a = sortM ν b := by unfold sortM; rw [mI_s]
  rw [e]
  exact hq _ hR
set_option maxRecDepth 100000 in
set_option maxHeartbeats 4000000 in
theorem c_head_o {c p : Int32} {ρ ν μ : xM} {φ κ : Nat → Nat} {B : Nat × Nat × Nat × (Nat → Prop)} {Q : Option Value → xM → Prop} (hR : Rel ρ ν μ φ κ B) (hc : rng c 16 = none) (hq : ∀ μ1, Rel ρ (ν) μ1 φ κ B → Q (some (.int (-1))) μ1) : Mt kX4_head [.ref 1, .int (c), .int (p)] μ Q := by
  have hB := hR.2.1
  refine Mt.enter rfl (Nat.le_of_ble_eq_true rfl) ?_
  refine X.aload_n dX4_head_0 rfl ?_
  refine X.iload_n dX4_head_1 rfl ?_
  refine X.cV1n (k' := kX4_channelAt) dX4_head_2 (hB.1 1 (by decide) (by decide)) ⟨by decide, rfl⟩ v_X4_channelAt wm_X4_59 wi_X4_channelAt ws_X4_channelAt ⟨Nat.le_of_ble_eq_true rfl, Nat.le_of_ble_eq_true rfl⟩ n_X4_channelAt (Nat.le_of_ble_eq_true rfl) ?_
  refine x_channelAt_o hB hc ?_
  refine ⟨rfl, ?_⟩
  refine X.astore_nN dX4_head_5 (Nat.le_of_ble_eq_true rfl) ?_
  refine X.aload_nN dX4_head_6 rfl ?_
  refine X.ifnonnull_n dX4_head_7 ?_
  refine X.iconst (v := -1) dX4_head_10 (by decide) ?_
  refine X.ret dX4_head_11 ⟨trivial, ?_⟩
  exact hq _ hR
set_option maxRecDepth 100000 in
set_option maxHeartbeats 4000000 in
theorem c_head_in {a : Nat} {p : Int32} {ρ ν μ : xM} {φ κ : Nat → Nat} {B : Nat × Nat × Nat × (Nat → Prop)} {Q : Option Value → xM → Prop} (hR : Rel ρ ν μ φ κ B) (ha : a < 16) (hq : ∀ μ1, Rel ρ (sI ν 51 a p) μ1 φ κ B → Q (some (.int (1))) μ1) : Mt kX4_head [.ref 1, .int (nI a), .int (p)] μ Q := by
  have hB := hR.2.1
  refine Mt.enter rfl (Nat.le_of_ble_eq_true rfl) ?_
  refine X.aload_n dX4_head_0 rfl ?_
  refine X.iload_n dX4_head_1 rfl ?_
  refine X.cV1a (k' := kX4_channelAt) dX4_head_2 (hB.1 1 (by decide) (by decide)) ⟨by decide, rfl⟩ v_X4_channelAt wm_X4_59 wi_X4_channelAt ws_X4_channelAt ⟨Nat.le_of_ble_eq_true rfl, Nat.le_of_ble_eq_true rfl⟩ n_X4_channelAt (Nat.le_of_ble_eq_true rfl) ?_
  refine x_channelAt hB ha ?_
  refine ⟨_, rfl, ?_⟩
  refine X.astore_n dX4_head_5 (Nat.le_of_ble_eq_true rfl) ?_
  refine X.aload_n dX4_head_6 rfl ?_
  refine X.ifnonnull_r (tgt := 12) dX4_head_7 (by decide) ?_
  refine X.aload_n dX4_head_12 rfl ?_
  refine X.iload_n dX4_head_13 rfl ?_
  refine X.putI (kf := 3) dX4_head_14 ((hB.2.2.1 a ha).1) (by decide) (by decide) rfl (Or.inl rfl) ⟨rfl, rfl⟩ wf_X4_96 ?_
  refine X.iconst (v := 1) dX4_head_17 (by decide) ?_
  refine X.ret dX4_head_18 ⟨trivial, ?_⟩
  exact hq _ (hR.dial ha (k := 3) (Or.inl rfl))
set_option maxRecDepth 100000 in
set_option maxHeartbeats 4000000 in
theorem c_step_o1 {c p : Int32} {ρ ν μ : xM} {φ κ : Nat → Nat} {B : Nat × Nat × Nat × (Nat → Prop)} {Q : Option Value → xM → Prop} (hR : Rel ρ ν μ φ κ B) (hc : rng c 16 = none) (hq : ∀ μ1, Rel ρ (ν) μ1 φ κ B → Q (some (.int (-1))) μ1) : Mt kX4_step [.ref 1, .int (c), .int (p)] μ Q := by
  have hB := hR.2.1
  refine Mt.enter rfl (Nat.le_of_ble_eq_true rfl) ?_
  refine X.aload_n dX4_step_0 rfl ?_
  refine X.iload_n dX4_step_1 rfl ?_
  refine X.cV1n (k' := kX4_channelAt) dX4_step_2 (hB.1 1 (by decide) (by decide)) ⟨by decide, rfl⟩ v_X4_channelAt wm_X4_59 wi_X4_channelAt ws_X4_channelAt ⟨Nat.le_of_ble_eq_true rfl, Nat.le_of_ble_eq_true rfl⟩ n_X4_channelAt (Nat.le_of_ble_eq_true rfl) ?_
  refine x_channelAt_o hB hc ?_
  refine ⟨rfl, ?_⟩
  refine X.astore_nN dX4_step_5 (Nat.le_of_ble_eq_true rfl) ?_
  refine X.aload_nN dX4_step_6 rfl ?_
  refine X.ifnull_n (tgt := 21) dX4_step_7 (by decide) ?_
  refine X.iconst (v := -1) dX4_step_21 (by decide) ?_
  refine X.ret dX4_step_22 ⟨trivial, ?_⟩
  exact hq _ hR
set_option maxRecDepth 100000 in
set_option maxHeartbeats 4000000 in
theorem c_step_o2 {a : Nat} {p : Int32} {ρ ν μ : xM} {φ κ : Nat → Nat} {B : Nat × Nat × Nat × (Nat → Prop)} {Q : Option Value → xM → Prop} (hR : Rel ρ ν μ φ κ B) (ha : a < 16) (hp : ¬ (-3 ≤ p ∧ p ≤ 3)) (hq : ∀ μ1, Rel ρ (ν) μ1 φ κ B → Q (some (.int (-1))) μ1) : Mt kX4_step [.ref 1, .int (nI a), .int (p)] μ Q := by
  have hB := hR.2.1
  refine Mt.enter rfl (Nat.le_of_ble_eq_true rfl) ?_
  refine X.aload_n dX4_step_0 rfl ?_
  refine X.iload_n dX4_step_1 rfl ?_
  refine X.cV1a (k' := kX4_channelAt) dX4_step_2 (hB.1 1 (by decide) (by decide)) ⟨by decide, rfl⟩ v_X4_channelAt wm_X4_59 wi_X4_channelAt ws_X4_channelAt ⟨Nat.le_of_ble_eq_true rfl, Nat.le_of_ble_eq_true rfl⟩ n_X4_channelAt (Nat.le_of_ble_eq_true rfl) ?_
  refine x_channelAt hB ha ?_
  refine ⟨_, rfl, ?_⟩
  refine X.astore_n dX4_step_5 (Nat.le_of_ble_eq_true rfl) ?_
  refine X.aload_n dX4_step_6 rfl ?_
  refine X.ifnull_r dX4_step_7 ?_
  refine X.iload_n dX4_step_10 rfl ?_
  refine X.bipush (v := -3) dX4_step_11 (by decide) ?_
  refine X.icmp_lt (tgt := 21) dX4_step_13 (by decide) (fun c13 => ?_) (fun c13 => ?_)
  · refine X.iconst (v := -1) dX4_step_21 (by decide) ?_
    refine X.ret dX4_step_22 ⟨trivial, ?_⟩
    exact hq _ hR
  · refine X.iload_n dX4_step_16 rfl ?_
    refine X.iconst (v := 3) dX4_step_17 (by decide) ?_
    refine X.icmp_le (tgt := 23) dX4_step_18 (by decide) (fun c18 => ?_) (fun c18 => ?_)
    · exact absurd ⟨Int32.not_lt.mp c13, c18⟩ hp
    · refine X.iconst (v := -1) dX4_step_21 (by decide) ?_
      refine X.ret dX4_step_22 ⟨trivial, ?_⟩
      exact hq _ hR
set_option maxRecDepth 100000 in
set_option maxHeartbeats 4000000 in
theorem c_step_in {a : Nat} {p : Int32} {ρ ν μ : xM} {φ κ : Nat → Nat} {B : Nat × Nat × Nat × (Nat → Prop)} {Q : Option Value → xM → Prop} (hR : Rel ρ ν μ φ κ B) (ha : a < 16) (hp : -3 ≤ p ∧ p ≤ 3) (hq : ∀ μ1, Rel ρ (sI ν 52 a p) μ1 φ κ B → Q (some (.int (mI ν 52 a + 3))) μ1) : Mt kX4_step [.ref 1, .int (nI a), .int (p)] μ Q := by
  have hB := hR.2.1
  refine Mt.enter rfl (Nat.le_of_ble_eq_true rfl) ?_
  refine X.aload_n dX4_step_0 rfl ?_
  refine X.iload_n dX4_step_1 rfl ?_
  refine X.cV1a (k' := kX4_channelAt) dX4_step_2 (hB.1 1 (by decide) (by decide)) ⟨by decide, rfl⟩ v_X4_channelAt wm_X4_59 wi_X4_channelAt ws_X4_channelAt ⟨Nat.le_of_ble_eq_true rfl, Nat.le_of_ble_eq_true rfl⟩ n_X4_channelAt (Nat.le_of_ble_eq_true rfl) ?_
  refine x_channelAt hB ha ?_
  refine ⟨_, rfl, ?_⟩
  refine X.astore_n dX4_step_5 (Nat.le_of_ble_eq_true rfl) ?_
  refine X.aload_n dX4_step_6 rfl ?_
  refine X.ifnull_r dX4_step_7 ?_
  refine X.iload_n dX4_step_10 rfl ?_
  refine X.bipush (v := -3) dX4_step_11 (by decide) ?_
  refine X.icmp_lt_f (tgt := 21) dX4_step_13 (by decide) (Int32.not_lt.mpr hp.1) ?_
  refine X.iload_n dX4_step_16 rfl ?_
  refine X.iconst (v := 3) dX4_step_17 (by decide) ?_
  refine X.icmp_le_t (tgt := 23) dX4_step_18 (by decide) (hp.2) ?_
  refine X.aload_n dX4_step_23 rfl ?_
  refine X.getI (kf := 4) dX4_step_24 ((hB.2.2.1 a ha).1) (by decide) (by decide) rfl wf_X4_99 ?_
  refine X.istore dX4_step_27 (Nat.le_of_ble_eq_true rfl) ?_
  refine X.aload_n dX4_step_29 rfl ?_
  refine X.iload_n dX4_step_30 rfl ?_
  refine X.putI (kf := 4) dX4_step_31 ((hB.2.2.1 a ha).1) (by decide) (by decide) rfl (Or.inl rfl) ⟨rfl, rfl⟩ wf_X4_99 ?_
  refine X.iload dX4_step_34 rfl ?_
  refine X.iconst (v := 3) dX4_step_36 (by decide) ?_
  refine X.iadd dX4_step_37 ?_
  refine X.ret dX4_step_38 ⟨trivial, ?_⟩
  rw [(hR.ch ha).2.2.2.2.1]
  exact hq _ (hR.dial ha (k := 4) (Or.inr (Or.inl rfl)))
set_option maxRecDepth 100000 in
set_option maxHeartbeats 4000000 in
theorem c_loop_o {c b : Int32} {ρ ν μ : xM} {φ κ : Nat → Nat} {B : Nat × Nat × Nat × (Nat → Prop)} {Q : Option Value → xM → Prop} (hR : Rel ρ ν μ φ κ B) (hc : rng c 16 = none) (hq : ∀ μ1, Rel ρ (ν) μ1 φ κ B → Q (some (.int (-1))) μ1) : Mt kX4_loop [.ref 1, .int (c), .int (b)] μ Q := by
  have hB := hR.2.1
  refine Mt.enter rfl (Nat.le_of_ble_eq_true rfl) ?_
  refine X.aload_n dX4_loop_0 rfl ?_
  refine X.iload_n dX4_loop_1 rfl ?_
  refine X.cV1n (k' := kX4_channelAt) dX4_loop_2 (hB.1 1 (by decide) (by decide)) ⟨by decide, rfl⟩ v_X4_channelAt wm_X4_59 wi_X4_channelAt ws_X4_channelAt ⟨Nat.le_of_ble_eq_true rfl, Nat.le_of_ble_eq_true rfl⟩ n_X4_channelAt (Nat.le_of_ble_eq_true rfl) ?_
  refine x_channelAt_o hB hc ?_
  refine ⟨rfl, ?_⟩
  refine X.astore_nN dX4_loop_5 (Nat.le_of_ble_eq_true rfl) ?_
  refine X.aload_nN dX4_loop_6 rfl ?_
  refine X.ifnonnull_n dX4_loop_7 ?_
  refine X.iconst (v := -1) dX4_loop_10 (by decide) ?_
  refine X.ret dX4_loop_11 ⟨trivial, ?_⟩
  exact hq _ hR
set_option maxRecDepth 100000 in
set_option maxHeartbeats 4000000 in
theorem c_loop_in {a : Nat} {b : Int32} {ρ ν μ : xM} {φ κ : Nat → Nat} {B : Nat × Nat × Nat × (Nat → Prop)} {Q : Option Value → xM → Prop} (hR : Rel ρ ν μ φ κ B) (ha : a < 16) (hb : b = 0 ∨ b = 1) (hq : ∀ μ1, Rel ρ (sI ν 53 a b) μ1 φ κ B → Q (some (.int (if mI ν 53 a = 0 then 0 else 1))) μ1) : Mt kX4_loop [.ref 1, .int (nI a), .int (b)] μ Q := by
  have hB := hR.2.1
  refine Mt.enter rfl (Nat.le_of_ble_eq_true rfl) ?_
  refine X.aload_n dX4_loop_0 rfl ?_
  refine X.iload_n dX4_loop_1 rfl ?_
  refine X.cV1a (k' := kX4_channelAt) dX4_loop_2 (hB.1 1 (by decide) (by decide)) ⟨by decide, rfl⟩ v_X4_channelAt wm_X4_59 wi_X4_channelAt ws_X4_channelAt ⟨Nat.le_of_ble_eq_true rfl, Nat.le_of_ble_eq_true rfl⟩ n_X4_channelAt (Nat.le_of_ble_eq_true rfl) ?_
  refine x_channelAt hB ha ?_
  refine ⟨_, rfl, ?_⟩
  refine X.astore_n dX4_loop_5 (Nat.le_of_ble_eq_true rfl) ?_
  refine X.aload_n dX4_loop_6 rfl ?_
  refine X.ifnonnull_r (tgt := 12) dX4_loop_7 (by decide) ?_
  refine X.aload_n dX4_loop_12 rfl ?_
  refine X.getI (kf := 5) dX4_loop_13 ((hB.2.2.1 a ha).1) (by decide) (by decide) rfl wf_X4_102 ?_
  refine X.istore dX4_loop_16 (Nat.le_of_ble_eq_true rfl) ?_
  refine X.aload_n dX4_loop_18 rfl ?_
  refine X.iload_n dX4_loop_19 rfl ?_
  refine X.putI (kf := 5) dX4_loop_20 ((hB.2.2.1 a ha).1) (by decide) (by decide) rfl (Or.inl rfl) (by rcases hb with rfl | rfl <;> exact ⟨rfl, rfl⟩) wf_X4_102 ?_
  refine X.iload dX4_loop_23 rfl ?_
  refine X.if_eq (tgt := 32) dX4_loop_25 (by decide) (fun c25 => ?_) (fun c25 => ?_)
  · refine X.iconst (v := 0) dX4_loop_32 (by decide) ?_
    refine X.ret dX4_loop_33 ⟨trivial, ?_⟩
    have hq2 := hq _ (hR.dial ha (k := 5) (x := b) (Or.inr (Or.inr rfl)))
    rw [(hR.ch ha).2.2.2.2.2] at c25
    first
      | (rw [if_pos c25] at hq2; exact hq2)
      | (rw [if_neg c25] at hq2; exact hq2)
  · refine X.iconst (v := 1) dX4_loop_28 (by decide) ?_
    refine X.goto (tgt := 33) dX4_loop_29 (by decide) ?_
    refine X.ret dX4_loop_33 ⟨trivial, ?_⟩
    have hq2 := hq _ (hR.dial ha (k := 5) (x := b) (Or.inr (Or.inr rfl)))
    rw [(hR.ch ha).2.2.2.2.2] at c25
    first
      | (rw [if_pos c25] at hq2; exact hq2)
      | (rw [if_neg c25] at hq2; exact hq2)
set_option maxRecDepth 100000 in
set_option maxHeartbeats 4000000 in
theorem c_why_in  {ρ ν μ : xM} {φ κ : Nat → Nat} {B : Nat × Nat × Nat × (Nat → Prop)} {Q : Option Value → xM → Prop} (hR : Rel ρ ν μ φ κ B)  (hq : ∀ μ1, Rel ρ (ν) μ1 φ κ B → Q (some (.int (mI ν 44 25))) μ1) : Mt kX4_why [.ref 1] μ Q := by
  have hB := hR.2.1
  refine Mt.enter rfl (Nat.le_of_ble_eq_true rfl) ?_
  refine X.aload_n dX4_why_0 rfl ?_
  refine X.getI (kf := 8) dX4_why_1 (hB.1 1 (by decide) (by decide)) (by decide) (by decide) rfl wf_X4_43 ?_
  refine X.ret dX4_why_4 ⟨trivial, ?_⟩
  rw [hR.2.2.2.1.1.2.2.2.2]
  exact hq _ hR
set_option maxRecDepth 100000 in
set_option maxHeartbeats 4000000 in
theorem c_of_o1 {c w : Int32} {ρ ν μ : xM} {φ κ : Nat → Nat} {B : Nat × Nat × Nat × (Nat → Prop)} {Q : Option Value → xM → Prop} (hR : Rel ρ ν μ φ κ B) (hc : rng c 16 = none) (hq : ∀ μ1, Rel ρ (ν) μ1 φ κ B → Q (some (.int (-2147483648))) μ1) : Mt kX4_of [.ref 1, .int (c), .int (w)] μ Q := by
  have hB := hR.2.1
  refine Mt.enter rfl (Nat.le_of_ble_eq_true rfl) ?_
  refine X.aload_n dX4_of_0 rfl ?_
  refine X.iload_n dX4_of_1 rfl ?_
  refine X.cV1n (k' := kX4_channelAt) dX4_of_2 (hB.1 1 (by decide) (by decide)) ⟨by decide, rfl⟩ v_X4_channelAt wm_X4_59 wi_X4_channelAt ws_X4_channelAt ⟨Nat.le_of_ble_eq_true rfl, Nat.le_of_ble_eq_true rfl⟩ n_X4_channelAt (Nat.le_of_ble_eq_true rfl) ?_
  refine x_channelAt_o hB hc ?_
  refine ⟨rfl, ?_⟩
  refine X.astore_nN dX4_of_5 (Nat.le_of_ble_eq_true rfl) ?_
  refine X.aload_nN dX4_of_6 rfl ?_
  refine X.ifnonnull_n dX4_of_7 ?_
  refine X.ldc dX4_of_10 wk_X4_200 ?_
  refine X.ret dX4_of_12 ⟨trivial, ?_⟩
  exact hq _ hR
set_option maxRecDepth 100000 in
set_option maxHeartbeats 4000000 in
theorem c_of_o2 {a : Nat} {w : Int32} {ρ ν μ : xM} {φ κ : Nat → Nat} {B : Nat × Nat × Nat × (Nat → Prop)} {Q : Option Value → xM → Prop} (hR : Rel ρ ν μ φ κ B) (ha : a < 16) (hw : rng w 4 = none) (hq : ∀ μ1, Rel ρ (ν) μ1 φ κ B → Q (some (.int (-2147483648))) μ1) : Mt kX4_of [.ref 1, .int (nI a), .int (w)] μ Q := by
  have hB := hR.2.1
  refine Mt.enter rfl (Nat.le_of_ble_eq_true rfl) ?_
  refine X.aload_n dX4_of_0 rfl ?_
  refine X.iload_n dX4_of_1 rfl ?_
  refine X.cV1a (k' := kX4_channelAt) dX4_of_2 (hB.1 1 (by decide) (by decide)) ⟨by decide, rfl⟩ v_X4_channelAt wm_X4_59 wi_X4_channelAt ws_X4_channelAt ⟨Nat.le_of_ble_eq_true rfl, Nat.le_of_ble_eq_true rfl⟩ n_X4_channelAt (Nat.le_of_ble_eq_true rfl) ?_
  refine x_channelAt hB ha ?_
  refine ⟨_, rfl, ?_⟩
  refine X.astore_n dX4_of_5 (Nat.le_of_ble_eq_true rfl) ?_
  refine X.aload_n dX4_of_6 rfl ?_
  refine X.ifnonnull_r (tgt := 13) dX4_of_7 (by decide) ?_
  refine X.iload_n dX4_of_13 rfl ?_
  refine X.tabOut (tgt := 72) dX4_of_14 (by have := rng_none hw; omega) (by decide) ?_
  refine X.ldc dX4_of_72 wk_X4_200 ?_
  refine X.ret dX4_of_74 ⟨trivial, ?_⟩
  exact hq _ hR
set_option maxRecDepth 100000 in
set_option maxHeartbeats 4000000 in
theorem c_of_0 {a : Nat} {ρ ν μ : xM} {φ κ : Nat → Nat} {B : Nat × Nat × Nat × (Nat → Prop)} {Q : Option Value → xM → Prop} (hR : Rel ρ ν μ φ κ B) (ha : a < 16) (hq : ∀ μ1, Rel ρ (ν) μ1 φ κ B → Q (some (.int (mI ν 51 a))) μ1) : Mt kX4_of [.ref 1, .int (nI a), .int (0)] μ Q := by
  have hB := hR.2.1
  refine Mt.enter rfl (Nat.le_of_ble_eq_true rfl) ?_
  refine X.aload_n dX4_of_0 rfl ?_
  refine X.iload_n dX4_of_1 rfl ?_
  refine X.cV1a (k' := kX4_channelAt) dX4_of_2 (hB.1 1 (by decide) (by decide)) ⟨by decide, rfl⟩ v_X4_channelAt wm_X4_59 wi_X4_channelAt ws_X4_channelAt ⟨Nat.le_of_ble_eq_true rfl, Nat.le_of_ble_eq_true rfl⟩ n_X4_channelAt (Nat.le_of_ble_eq_true rfl) ?_
  refine x_channelAt hB ha ?_
  refine ⟨_, rfl, ?_⟩
  refine X.astore_n dX4_of_5 (Nat.le_of_ble_eq_true rfl) ?_
  refine X.aload_n dX4_of_6 rfl ?_
  refine X.ifnonnull_r (tgt := 13) dX4_of_7 (by decide) ?_
  refine X.iload_n dX4_of_13 rfl ?_
  refine X.tabIn (tgt := 44) dX4_of_14 (by decide) (by decide) (rfl) (by decide) ?_
  refine X.aload_n dX4_of_44 rfl ?_
  refine X.getI (kf := 3) dX4_of_45 ((hB.2.2.1 a ha).1) (by decide) (by decide) rfl wf_X4_96 ?_
  refine X.ret dX4_of_48 ⟨trivial, ?_⟩
  rw [(hR.ch ha).2.2.2.1]
  exact hq _ hR
set_option maxRecDepth 100000 in
set_option maxHeartbeats 4000000 in
theorem c_of_1 {a : Nat} {ρ ν μ : xM} {φ κ : Nat → Nat} {B : Nat × Nat × Nat × (Nat → Prop)} {Q : Option Value → xM → Prop} (hR : Rel ρ ν μ φ κ B) (ha : a < 16) (hq : ∀ μ1, Rel ρ (ν) μ1 φ κ B → Q (some (.int (mI ν 52 a))) μ1) : Mt kX4_of [.ref 1, .int (nI a), .int (1)] μ Q := by
  have hB := hR.2.1
  refine Mt.enter rfl (Nat.le_of_ble_eq_true rfl) ?_
  refine X.aload_n dX4_of_0 rfl ?_
  refine X.iload_n dX4_of_1 rfl ?_
  refine X.cV1a (k' := kX4_channelAt) dX4_of_2 (hB.1 1 (by decide) (by decide)) ⟨by decide, rfl⟩ v_X4_channelAt wm_X4_59 wi_X4_channelAt ws_X4_channelAt ⟨Nat.le_of_ble_eq_true rfl, Nat.le_of_ble_eq_true rfl⟩ n_X4_channelAt (Nat.le_of_ble_eq_true rfl) ?_
  refine x_channelAt hB ha ?_
  refine ⟨_, rfl, ?_⟩
  refine X.astore_n dX4_of_5 (Nat.le_of_ble_eq_true rfl) ?_
  refine X.aload_n dX4_of_6 rfl ?_
  refine X.ifnonnull_r (tgt := 13) dX4_of_7 (by decide) ?_
  refine X.iload_n dX4_of_13 rfl ?_
  refine X.tabIn (tgt := 49) dX4_of_14 (by decide) (by decide) (rfl) (by decide) ?_
  refine X.aload_n dX4_of_49 rfl ?_
  refine X.getI (kf := 4) dX4_of_50 ((hB.2.2.1 a ha).1) (by decide) (by decide) rfl wf_X4_99 ?_
  refine X.ret dX4_of_53 ⟨trivial, ?_⟩
  rw [(hR.ch ha).2.2.2.2.1]
  exact hq _ hR
set_option maxRecDepth 100000 in
set_option maxHeartbeats 4000000 in
theorem c_of_2 {a : Nat} {ρ ν μ : xM} {φ κ : Nat → Nat} {B : Nat × Nat × Nat × (Nat → Prop)} {Q : Option Value → xM → Prop} (hR : Rel ρ ν μ φ κ B) (ha : a < 16) (hq : ∀ μ1, Rel ρ (ν) μ1 φ κ B → Q (some (.int (if mI ν 53 a = 0 then 0 else 1))) μ1) : Mt kX4_of [.ref 1, .int (nI a), .int (2)] μ Q := by
  have hB := hR.2.1
  refine Mt.enter rfl (Nat.le_of_ble_eq_true rfl) ?_
  refine X.aload_n dX4_of_0 rfl ?_
  refine X.iload_n dX4_of_1 rfl ?_
  refine X.cV1a (k' := kX4_channelAt) dX4_of_2 (hB.1 1 (by decide) (by decide)) ⟨by decide, rfl⟩ v_X4_channelAt wm_X4_59 wi_X4_channelAt ws_X4_channelAt ⟨Nat.le_of_ble_eq_true rfl, Nat.le_of_ble_eq_true rfl⟩ n_X4_channelAt (Nat.le_of_ble_eq_true rfl) ?_
  refine x_channelAt hB ha ?_
  refine ⟨_, rfl, ?_⟩
  refine X.astore_n dX4_of_5 (Nat.le_of_ble_eq_true rfl) ?_
  refine X.aload_n dX4_of_6 rfl ?_
  refine X.ifnonnull_r (tgt := 13) dX4_of_7 (by decide) ?_
  refine X.iload_n dX4_of_13 rfl ?_
  refine X.tabIn (tgt := 54) dX4_of_14 (by decide) (by decide) (rfl) (by decide) ?_
  refine X.aload_n dX4_of_54 rfl ?_
  refine X.getI (kf := 5) dX4_of_55 ((hB.2.2.1 a ha).1) (by decide) (by decide) rfl wf_X4_102 ?_
  refine X.if_eq (tgt := 65) dX4_of_58 (by decide) (fun c58 => ?_) (fun c58 => ?_)
  · refine X.iconst (v := 0) dX4_of_65 (by decide) ?_
    refine X.ret dX4_of_66 ⟨trivial, ?_⟩
    have hq2 := hq _ hR
    rw [(hR.ch ha).2.2.2.2.2] at c58
    first
      | (rw [if_pos c58] at hq2; exact hq2)
      | (rw [if_neg c58] at hq2; exact hq2)
  · refine X.iconst (v := 1) dX4_of_61 (by decide) ?_
    refine X.goto (tgt := 66) dX4_of_62 (by decide) ?_
    refine X.ret dX4_of_66 ⟨trivial, ?_⟩
    have hq2 := hq _ hR
    rw [(hR.ch ha).2.2.2.2.2] at c58
    first
      | (rw [if_pos c58] at hq2; exact hq2)
      | (rw [if_neg c58] at hq2; exact hq2)
set_option maxRecDepth 100000 in
set_option maxHeartbeats 4000000 in
theorem c_of_3 {a : Nat} {ρ ν μ : xM} {φ κ : Nat → Nat} {B : Nat × Nat × Nat × (Nat → Prop)} {Q : Option Value → xM → Prop} (hR : Rel ρ ν μ φ κ B) (ha : a < 16) (hq : ∀ μ1, Rel ρ (ν) μ1 φ κ B → Q (some (.int (sortM ν a))) μ1) : Mt kX4_of [.ref 1, .int (nI a), .int (3)] μ Q := by
  have hB := hR.2.1
  refine Mt.enter rfl (Nat.le_of_ble_eq_true rfl) ?_
  refine X.aload_n dX4_of_0 rfl ?_
  refine X.iload_n dX4_of_1 rfl ?_
  refine X.cV1a (k' := kX4_channelAt) dX4_of_2 (hB.1 1 (by decide) (by decide)) ⟨by decide, rfl⟩ v_X4_channelAt wm_X4_59 wi_X4_channelAt ws_X4_channelAt ⟨Nat.le_of_ble_eq_true rfl, Nat.le_of_ble_eq_true rfl⟩ n_X4_channelAt (Nat.le_of_ble_eq_true rfl) ?_
  refine x_channelAt hB ha ?_
  refine ⟨_, rfl, ?_⟩
  refine X.astore_n dX4_of_5 (Nat.le_of_ble_eq_true rfl) ?_
  refine X.aload_n dX4_of_6 rfl ?_
  refine X.ifnonnull_r (tgt := 13) dX4_of_7 (by decide) ?_
  refine X.iload_n dX4_of_13 rfl ?_
  refine X.tabIn (tgt := 67) dX4_of_14 (by decide) (by decide) (rfl) (by decide) ?_
  refine X.aload_n dX4_of_67 rfl ?_
  refine X.cV0i (k' := kX2_has) dX4_of_68 ((hB.2.2.1 a ha).1) ⟨by decide, rfl⟩ v_X2_has wm_X4_92 wi_X2_has ws_X2_has ⟨Nat.le_of_ble_eq_true rfl, Nat.le_of_ble_eq_true rfl⟩ n_X2_has (Nat.le_of_ble_eq_true rfl) ?_
  refine c_has hR ha ?_
  refine ⟨_, rfl, ?_⟩
  refine X.ret dX4_of_71 ⟨trivial, ?_⟩
  exact hq _ hR
set_option maxRecDepth 100000 in
set_option maxHeartbeats 4000000 in
theorem c_cells_o {c : Int32} {ρ ν μ : xM} {φ κ : Nat → Nat} {B : Nat × Nat × Nat × (Nat → Prop)} {Q : Option Value → xM → Prop} (hR : Rel ρ ν μ φ κ B) (hc : rng c 16 = none) (hq : ∀ μ1, Rel ρ (ν) μ1 φ κ B → Q (some (.int (-1))) μ1) : Mt kX4_cells [.ref 1, .int (c)] μ Q := by
  have hB := hR.2.1
  refine Mt.enter rfl (Nat.le_of_ble_eq_true rfl) ?_
  refine X.aload_n dX4_cells_0 rfl ?_
  refine X.iload_n dX4_cells_1 rfl ?_
  refine X.cV1n (k' := kX4_channelAt) dX4_cells_2 (hB.1 1 (by decide) (by decide)) ⟨by decide, rfl⟩ v_X4_channelAt wm_X4_59 wi_X4_channelAt ws_X4_channelAt ⟨Nat.le_of_ble_eq_true rfl, Nat.le_of_ble_eq_true rfl⟩ n_X4_channelAt (Nat.le_of_ble_eq_true rfl) ?_
  refine x_channelAt_o hB hc ?_
  refine ⟨rfl, ?_⟩
  refine X.astore_nN dX4_cells_5 (Nat.le_of_ble_eq_true rfl) ?_
  refine X.aload_nN dX4_cells_6 rfl ?_
  refine X.ifnonnull_n dX4_cells_7 ?_
  refine X.iconst (v := -1) dX4_cells_10 (by decide) ?_
  refine X.ret dX4_cells_11 ⟨trivial, ?_⟩
  exact hq _ hR
set_option maxRecDepth 100000 in
set_option maxHeartbeats 4000000 in
theorem c_cells_r {a : Nat} {ρ ν μ : xM} {φ κ : Nat → Nat} {B : Nat × Nat × Nat × (Nat → Prop)} {Q : Option Value → xM → Prop} (hR : Rel ρ ν μ φ κ B) (ha : a < 16) (h0 : ¬ noTapeM ν a = 0) (hq : ∀ μ1, Rel ρ (metM ν (noTapeM ν a)) μ1 φ κ B → Q (some (.int (rR (noTapeM ν a)))) μ1) : Mt kX4_cells [.ref 1, .int (nI a)] μ Q := by
  have hB := hR.2.1
  refine Mt.enter rfl (Nat.le_of_ble_eq_true rfl) ?_
  refine X.aload_n dX4_cells_0 rfl ?_
  refine X.iload_n dX4_cells_1 rfl ?_
  refine X.cV1a (k' := kX4_channelAt) dX4_cells_2 (hB.1 1 (by decide) (by decide)) ⟨by decide, rfl⟩ v_X4_channelAt wm_X4_59 wi_X4_channelAt ws_X4_channelAt ⟨Nat.le_of_ble_eq_true rfl, Nat.le_of_ble_eq_true rfl⟩ n_X4_channelAt (Nat.le_of_ble_eq_true rfl) ?_
  refine x_channelAt hB ha ?_
  refine ⟨_, rfl, ?_⟩
  refine X.astore_n dX4_cells_5 (Nat.le_of_ble_eq_true rfl) ?_
  refine X.aload_n dX4_cells_6 rfl ?_
  refine X.ifnonnull_r (tgt := 12) dX4_cells_7 (by decide) ?_
  refine X.aload_n dX4_cells_12 rfl ?_
  refine X.getN (kf := 1) dX4_cells_13 ((hB.2.2.1 a ha).1) (by decide) (by decide) rfl wf_X4_84 (hR.chN ha h0) ?_
  refine X.astore_nN dX4_cells_16 (Nat.le_of_ble_eq_true rfl) ?_
  refine X.aload_nN dX4_cells_17 rfl ?_
  refine X.ifnonnull_n dX4_cells_18 ?_
  refine X.aload_n dX4_cells_21 rfl ?_
  refine X.aload_n dX4_cells_22 rfl ?_
  refine X.cV0i (k' := kX2_refusalWithoutTape) dX4_cells_23 ((hB.2.2.1 a ha).1) ⟨by decide, rfl⟩ v_X2_refusalWithoutTape wm_X4_180 wi_X2_refusalWithoutTape ws_X2_refusalWithoutTape ⟨Nat.le_of_ble_eq_true rfl, Nat.le_of_ble_eq_true rfl⟩ n_X2_refusalWithoutTape (Nat.le_of_ble_eq_true rfl) ?_
  refine c_refusal hR ha h0 ?_
  refine ⟨_, rfl, ?_⟩
  refine X.iconst (v := 0) dX4_cells_26 (by decide) ?_
  refine X.cV2i (k' := kX4_answer) dX4_cells_27 (hB.1 1 (by decide) (by decide)) ⟨by decide, rfl⟩ v_X4_answer wm_X4_67 wi_X4_answer ws_X4_answer ⟨Nat.le_of_ble_eq_true rfl, Nat.le_of_ble_eq_true rfl⟩ n_X4_answer (Nat.le_of_ble_eq_true rfl) ?_
  refine c_answer_r hR (r := noTapeM ν a) (by have := noTapeM_le ν a; omega) h0 (fun μ1 hR => ?_)
  refine ⟨_, rfl, ?_⟩
  refine X.ret dX4_cells_30 ⟨trivial, ?_⟩
  exact hq _ hR
set_option maxRecDepth 100000 in
set_option maxHeartbeats 4000000 in
theorem c_cells_in {a : Nat} {ρ ν μ : xM} {φ κ : Nat → Nat} {B : Nat × Nat × Nat × (Nat → Prop)} {Q : Option Value → xM → Prop} (hR : Rel ρ ν μ φ κ B) (ha : a < 16) (h0 : noTapeM ν a = 0) (hq : ∀ μ1, Rel ρ (metM ν 0) μ1 φ κ B → Q (some (.int (nI (sz ν (tp ν a))))) μ1) : Mt kX4_cells [.ref 1, .int (nI a)] μ Q := by
  have hB := hR.2.1
  have hT := (hR.tr (live_c ha h0)).ts
  have ht := tp_lt hR.wt ha h0
  refine Mt.enter rfl (Nat.le_of_ble_eq_true rfl) ?_
  refine X.aload_n dX4_cells_0 rfl ?_
  refine X.iload_n dX4_cells_1 rfl ?_
  refine X.cV1a (k' := kX4_channelAt) dX4_cells_2 (hB.1 1 (by decide) (by decide)) ⟨by decide, rfl⟩ v_X4_channelAt wm_X4_59 wi_X4_channelAt ws_X4_channelAt ⟨Nat.le_of_ble_eq_true rfl, Nat.le_of_ble_eq_true rfl⟩ n_X4_channelAt (Nat.le_of_ble_eq_true rfl) ?_
  refine x_channelAt hB ha ?_
  refine ⟨_, rfl, ?_⟩
  refine X.astore_n dX4_cells_5 (Nat.le_of_ble_eq_true rfl) ?_
  refine X.aload_n dX4_cells_6 rfl ?_
  refine X.ifnonnull_r (tgt := 12) dX4_cells_7 (by decide) ?_
  refine X.aload_n dX4_cells_12 rfl ?_
  refine X.getR (b := (φ (tp ν a))) (kf := 1) dX4_cells_13 ((hB.2.2.1 a ha).1) (by decide) (by decide) rfl wf_X4_84 (hR.chT ha h0) ?_
  refine X.astore_n dX4_cells_16 (Nat.le_of_ble_eq_true rfl) ?_
  refine X.aload_n dX4_cells_17 rfl ?_
  refine X.ifnonnull_r (tgt := 31) dX4_cells_18 (by decide) ?_
  refine X.aload_n dX4_cells_31 rfl ?_
  refine X.iconst (v := 0) dX4_cells_32 (by decide) ?_
  refine X.aload_n dX4_cells_33 rfl ?_
  refine X.getI (kf := 1) dX4_cells_34 (hT.1.1) (by decide) (by decide) rfl wf_X4_145 ?_
  refine X.cV2i (k' := kX4_answer) dX4_cells_37 (hB.1 1 (by decide) (by decide)) ⟨by decide, rfl⟩ v_X4_answer wm_X4_67 wi_X4_answer ws_X4_answer ⟨Nat.le_of_ble_eq_true rfl, Nat.le_of_ble_eq_true rfl⟩ n_X4_answer (Nat.le_of_ble_eq_true rfl) ?_
  rw [hT.2.1.2]
  refine c_answer_0 hR (fun μ1 hR => ?_)
  refine ⟨_, rfl, ?_⟩
  refine X.ret dX4_cells_40 ⟨trivial, ?_⟩
  exact hq _ hR
set_option maxRecDepth 100000 in
set_option maxHeartbeats 4000000 in
theorem c_kind_o {c i : Int32} {ρ ν μ : xM} {φ κ : Nat → Nat} {B : Nat × Nat × Nat × (Nat → Prop)} {Q : Option Value → xM → Prop} (hR : Rel ρ ν μ φ κ B) (hc : rng c 16 = none) (hq : ∀ μ1, Rel ρ (ν) μ1 φ κ B → Q (some (.int (-1))) μ1) : Mt kX4_kind [.ref 1, .int (c), .int (i)] μ Q := by
  have hB := hR.2.1
  refine Mt.enter rfl (Nat.le_of_ble_eq_true rfl) ?_
  refine X.aload_n dX4_kind_0 rfl ?_
  refine X.iload_n dX4_kind_1 rfl ?_
  refine X.cV1n (k' := kX4_channelAt) dX4_kind_2 (hB.1 1 (by decide) (by decide)) ⟨by decide, rfl⟩ v_X4_channelAt wm_X4_59 wi_X4_channelAt ws_X4_channelAt ⟨Nat.le_of_ble_eq_true rfl, Nat.le_of_ble_eq_true rfl⟩ n_X4_channelAt (Nat.le_of_ble_eq_true rfl) ?_
  refine x_channelAt_o hB hc ?_
  refine ⟨rfl, ?_⟩
  refine X.astore_nN dX4_kind_5 (Nat.le_of_ble_eq_true rfl) ?_
  refine X.aload_nN dX4_kind_6 rfl ?_
  refine X.ifnonnull_n dX4_kind_7 ?_
  refine X.iconst (v := -1) dX4_kind_10 (by decide) ?_
  refine X.ret dX4_kind_11 ⟨trivial, ?_⟩
  exact hq _ hR
set_option maxRecDepth 100000 in
set_option maxHeartbeats 4000000 in
theorem c_kind_r {a : Nat} {i : Int32} {ρ ν μ : xM} {φ κ : Nat → Nat} {B : Nat × Nat × Nat × (Nat → Prop)} {Q : Option Value → xM → Prop} (hR : Rel ρ ν μ φ κ B) (ha : a < 16) (hz : ¬ noPlaceM ν a i = 0) (hq : ∀ μ1, Rel ρ (metM ν (noPlaceM ν a i)) μ1 φ κ B → Q (some (.int (rR (noPlaceM ν a i)))) μ1) : Mt kX4_kind [.ref 1, .int (nI a), .int (i)] μ Q := by
  have hB := hR.2.1
  refine Mt.enter rfl (Nat.le_of_ble_eq_true rfl) ?_
  refine X.aload_n dX4_kind_0 rfl ?_
  refine X.iload_n dX4_kind_1 rfl ?_
  refine X.cV1a (k' := kX4_channelAt) dX4_kind_2 (hB.1 1 (by decide) (by decide)) ⟨by decide, rfl⟩ v_X4_channelAt wm_X4_59 wi_X4_channelAt ws_X4_channelAt ⟨Nat.le_of_ble_eq_true rfl, Nat.le_of_ble_eq_true rfl⟩ n_X4_channelAt (Nat.le_of_ble_eq_true rfl) ?_
  refine x_channelAt hB ha ?_
  refine ⟨_, rfl, ?_⟩
  refine X.astore_n dX4_kind_5 (Nat.le_of_ble_eq_true rfl) ?_
  refine X.aload_n dX4_kind_6 rfl ?_
  refine X.ifnonnull_r (tgt := 12) dX4_kind_7 (by decide) ?_
  refine X.aload_n dX4_kind_12 rfl ?_
  refine X.iload_n dX4_kind_13 rfl ?_
  refine X.aload_n dX4_kind_14 rfl ?_
  refine X.getR (b := 26) (kf := 9) dX4_kind_15 (hB.1 1 (by decide) (by decide)) (by decide) (by decide) rfl wf_X4_49 (hB.2.1 9 (by decide)) ?_
  refine X.cV2i (k' := kX2_read) dX4_kind_18 ((hB.2.2.1 a ha).1) ⟨by decide, rfl⟩ v_X2_read wm_X4_123 wi_X2_read ws_X2_read ⟨Nat.le_of_ble_eq_true rfl, Nat.le_of_ble_eq_true rfl⟩ n_X2_read (Nat.le_of_ble_eq_true rfl) ?_
  refine c_read_o hR ha hz ?_
  refine ⟨_, rfl, ?_⟩
  refine X.istore dX4_kind_21 (Nat.le_of_ble_eq_true rfl) ?_
  refine X.aload_n dX4_kind_23 rfl ?_
  refine X.iload dX4_kind_24 rfl ?_
  refine X.aload_n dX4_kind_26 rfl ?_
  refine X.getR (b := 26) (kf := 9) dX4_kind_27 (hB.1 1 (by decide) (by decide)) (by decide) (by decide) rfl wf_X4_49 (hB.2.1 9 (by decide)) ?_
  refine X.getI (kf := 0) dX4_kind_30 (hB.1 26 (by decide) (by decide)) (by decide) (by decide) rfl wf_X4_126 ?_
  refine X.cV2i (k' := kX4_answer) dX4_kind_33 (hB.1 1 (by decide) (by decide)) ⟨by decide, rfl⟩ v_X4_answer wm_X4_67 wi_X4_answer ws_X4_answer ⟨Nat.le_of_ble_eq_true rfl, Nat.le_of_ble_eq_true rfl⟩ n_X4_answer (Nat.le_of_ble_eq_true rfl) ?_
  refine c_answer_r hR (r := noPlaceM ν a i) (by have := noPlace_le ν a i; omega) hz (fun μ1 hR => ?_)
  refine ⟨_, rfl, ?_⟩
  refine X.ret dX4_kind_36 ⟨trivial, ?_⟩
  exact hq _ hR
set_option maxRecDepth 100000 in
set_option maxHeartbeats 4000000 in
theorem c_kind_in {a : Nat} {i : Int32} {ρ ν μ : xM} {φ κ : Nat → Nat} {B : Nat × Nat × Nat × (Nat → Prop)} {Q : Option Value → xM → Prop} (hR : Rel ρ ν μ φ κ B) (ha : a < 16) (hz : noPlaceM ν a i = 0) (hq : ∀ μ1, Rel ρ (metM ν 0) μ1 φ κ B → Q (some (.int (nI (cellKindM ν (tp ν a) (ix i))))) μ1) : Mt kX4_kind [.ref 1, .int (nI a), .int (i)] μ Q := by
  have hB := hR.2.1
  refine Mt.enter rfl (Nat.le_of_ble_eq_true rfl) ?_
  refine X.aload_n dX4_kind_0 rfl ?_
  refine X.iload_n dX4_kind_1 rfl ?_
  refine X.cV1a (k' := kX4_channelAt) dX4_kind_2 (hB.1 1 (by decide) (by decide)) ⟨by decide, rfl⟩ v_X4_channelAt wm_X4_59 wi_X4_channelAt ws_X4_channelAt ⟨Nat.le_of_ble_eq_true rfl, Nat.le_of_ble_eq_true rfl⟩ n_X4_channelAt (Nat.le_of_ble_eq_true rfl) ?_
  refine x_channelAt hB ha ?_
  refine ⟨_, rfl, ?_⟩
  refine X.astore_n dX4_kind_5 (Nat.le_of_ble_eq_true rfl) ?_
  refine X.aload_n dX4_kind_6 rfl ?_
  refine X.ifnonnull_r (tgt := 12) dX4_kind_7 (by decide) ?_
  refine X.aload_n dX4_kind_12 rfl ?_
  refine X.iload_n dX4_kind_13 rfl ?_
  refine X.aload_n dX4_kind_14 rfl ?_
  refine X.getR (b := 26) (kf := 9) dX4_kind_15 (hB.1 1 (by decide) (by decide)) (by decide) (by decide) rfl wf_X4_49 (hB.2.1 9 (by decide)) ?_
  refine X.cV2i (k' := kX2_read) dX4_kind_18 ((hB.2.2.1 a ha).1) ⟨by decide, rfl⟩ v_X2_read wm_X4_123 wi_X2_read ws_X2_read ⟨Nat.le_of_ble_eq_true rfl, Nat.le_of_ble_eq_true rfl⟩ n_X2_read (Nat.le_of_ble_eq_true rfl) ?_
  refine c_read hR ha (Or.inl rfl) hz ?_
  refine ⟨_, rfl, ?_⟩
  have hR := hR.cell (Or.inl rfl) (nI (cellKindM ν (tp ν a) (ix i))) (numM ν (tp ν a) (ix i)) (tref ν φ (tp ν a) (ix i))
  have hB := hR.2.1
  refine X.istore dX4_kind_21 (Nat.le_of_ble_eq_true rfl) ?_
  refine X.aload_n dX4_kind_23 rfl ?_
  refine X.iload dX4_kind_24 rfl ?_
  refine X.aload_n dX4_kind_26 rfl ?_
  refine X.getR (b := 26) (kf := 9) dX4_kind_27 (hB.1 1 (by decide) (by decide)) (by decide) (by decide) rfl wf_X4_49 (hB.2.1 9 (by decide)) ?_
  refine X.getI (kf := 0) dX4_kind_30 (hB.1 26 (by decide) (by decide)) (by decide) (by decide) rfl wf_X4_126 ?_
  refine X.cV2i (k' := kX4_answer) dX4_kind_33 (hB.1 1 (by decide) (by decide)) ⟨by decide, rfl⟩ v_X4_answer wm_X4_67 wi_X4_answer ws_X4_answer ⟨Nat.le_of_ble_eq_true rfl, Nat.le_of_ble_eq_true rfl⟩ n_X4_answer (Nat.le_of_ble_eq_true rfl) ?_
  refine c_answer_0 hR (fun μ1 hR => ?_)
  refine ⟨_, rfl, ?_⟩
  refine X.ret dX4_kind_36 ⟨trivial, ?_⟩
  exact hq _ hR
set_option maxRecDepth 100000 in
set_option maxHeartbeats 4000000 in
theorem c_number_o {c i : Int32} {ρ ν μ : xM} {φ κ : Nat → Nat} {B : Nat × Nat × Nat × (Nat → Prop)} {Q : Option Value → xM → Prop} (hR : Rel ρ ν μ φ κ B) (hc : rng c 16 = none) (hq : ∀ μ1, Rel ρ (ν) μ1 φ κ B → Q (some (.long (0))) μ1) : Mt kX4_number [.ref 1, .int (c), .int (i)] μ Q := by
  have hB := hR.2.1
  refine Mt.enter rfl (Nat.le_of_ble_eq_true rfl) ?_
  refine X.aload_n dX4_number_0 rfl ?_
  refine X.iload_n dX4_number_1 rfl ?_
  refine X.cV1n (k' := kX4_channelAt) dX4_number_2 (hB.1 1 (by decide) (by decide)) ⟨by decide, rfl⟩ v_X4_channelAt wm_X4_59 wi_X4_channelAt ws_X4_channelAt ⟨Nat.le_of_ble_eq_true rfl, Nat.le_of_ble_eq_true rfl⟩ n_X4_channelAt (Nat.le_of_ble_eq_true rfl) ?_
  refine x_channelAt_o hB hc ?_
  refine ⟨rfl, ?_⟩
  refine X.astore_nN dX4_number_5 (Nat.le_of_ble_eq_true rfl) ?_
  refine X.aload_nN dX4_number_6 rfl ?_
  refine X.ifnonnull_n dX4_number_7 ?_
  refine X.lconst (v := 0) dX4_number_10 (by decide) ?_
  refine X.ret dX4_number_11 ⟨trivial, ?_⟩
  exact hq _ hR
set_option maxRecDepth 100000 in
set_option maxHeartbeats 4000000 in
theorem c_number_r {a : Nat} {i : Int32} {ρ ν μ : xM} {φ κ : Nat → Nat} {B : Nat × Nat × Nat × (Nat → Prop)} {Q : Option Value → xM → Prop} (hR : Rel ρ ν μ φ κ B) (ha : a < 16) (hz : ¬ noPlaceM ν a i = 0) (hq : ∀ μ1, Rel ρ (metM ν (noPlaceM ν a i)) μ1 φ κ B → Q (some (.long (0))) μ1) : Mt kX4_number [.ref 1, .int (nI a), .int (i)] μ Q := by
  have hB := hR.2.1
  refine Mt.enter rfl (Nat.le_of_ble_eq_true rfl) ?_
  refine X.aload_n dX4_number_0 rfl ?_
  refine X.iload_n dX4_number_1 rfl ?_
  refine X.cV1a (k' := kX4_channelAt) dX4_number_2 (hB.1 1 (by decide) (by decide)) ⟨by decide, rfl⟩ v_X4_channelAt wm_X4_59 wi_X4_channelAt ws_X4_channelAt ⟨Nat.le_of_ble_eq_true rfl, Nat.le_of_ble_eq_true rfl⟩ n_X4_channelAt (Nat.le_of_ble_eq_true rfl) ?_
  refine x_channelAt hB ha ?_
  refine ⟨_, rfl, ?_⟩
  refine X.astore_n dX4_number_5 (Nat.le_of_ble_eq_true rfl) ?_
  refine X.aload_n dX4_number_6 rfl ?_
  refine X.ifnonnull_r (tgt := 12) dX4_number_7 (by decide) ?_
  refine X.aload_n dX4_number_12 rfl ?_
  refine X.iload_n dX4_number_13 rfl ?_
  refine X.aload_n dX4_number_14 rfl ?_
  refine X.getR (b := 26) (kf := 9) dX4_number_15 (hB.1 1 (by decide) (by decide)) (by decide) (by decide) rfl wf_X4_49 (hB.2.1 9 (by decide)) ?_
  refine X.cV2i (k' := kX2_read) dX4_number_18 ((hB.2.2.1 a ha).1) ⟨by decide, rfl⟩ v_X2_read wm_X4_123 wi_X2_read ws_X2_read ⟨Nat.le_of_ble_eq_true rfl, Nat.le_of_ble_eq_true rfl⟩ n_X2_read (Nat.le_of_ble_eq_true rfl) ?_
  refine c_read_o hR ha hz ?_
  refine ⟨_, rfl, ?_⟩
  refine X.istore dX4_number_21 (Nat.le_of_ble_eq_true rfl) ?_
  refine X.aload_n dX4_number_23 rfl ?_
  refine X.iload dX4_number_24 rfl ?_
  refine X.cV1v (k' := kX4_note) dX4_number_26 (hB.1 1 (by decide) (by decide)) ⟨by decide, rfl⟩ v_X4_note wm_X4_133 wi_X4_note ws_X4_note ⟨Nat.le_of_ble_eq_true rfl, Nat.le_of_ble_eq_true rfl⟩ n_X4_note (Nat.le_of_ble_eq_true rfl) ?_
  refine c_note hR (by have := noPlace_le ν a i; omega) (fun μ1 hR => ?_)
  refine ⟨rfl, ?_⟩
  have hB := hR.2.1
  refine X.iload dX4_number_29 rfl ?_
  refine X.if_ne_t (tgt := 44) dX4_number_31 (by decide) ((fun q => hz (nI_z q (by have := noPlace_le ν a i; omega)))) ?_
  refine X.lconst (v := 0) dX4_number_44 (by decide) ?_
  refine X.ret dX4_number_45 ⟨trivial, ?_⟩
  exact hq _ hR
set_option maxRecDepth 100000 in
set_option maxHeartbeats 4000000 in
theorem c_number_in {a : Nat} {i : Int32} {ρ ν μ : xM} {φ κ : Nat → Nat} {B : Nat × Nat × Nat × (Nat → Prop)} {Q : Option Value → xM → Prop} (hR : Rel ρ ν μ φ κ B) (ha : a < 16) (hz : noPlaceM ν a i = 0) (hq : ∀ μ1, Rel ρ (metM ν 0) μ1 φ κ B → Q (some (.long (numM ν (tp ν a) (ix i)))) μ1) : Mt kX4_number [.ref 1, .int (nI a), .int (i)] μ Q := by
  have hB := hR.2.1
  refine Mt.enter rfl (Nat.le_of_ble_eq_true rfl) ?_
  refine X.aload_n dX4_number_0 rfl ?_
  refine X.iload_n dX4_number_1 rfl ?_
  refine X.cV1a (k' := kX4_channelAt) dX4_number_2 (hB.1 1 (by decide) (by decide)) ⟨by decide, rfl⟩ v_X4_channelAt wm_X4_59 wi_X4_channelAt ws_X4_channelAt ⟨Nat.le_of_ble_eq_true rfl, Nat.le_of_ble_eq_true rfl⟩ n_X4_channelAt (Nat.le_of_ble_eq_true rfl) ?_
  refine x_channelAt hB ha ?_
  refine ⟨_, rfl, ?_⟩
  refine X.astore_n dX4_number_5 (Nat.le_of_ble_eq_true rfl) ?_
  refine X.aload_n dX4_number_6 rfl ?_
  refine X.ifnonnull_r (tgt := 12) dX4_number_7 (by decide) ?_
  refine X.aload_n dX4_number_12 rfl ?_
  refine X.iload_n dX4_number_13 rfl ?_
  refine X.aload_n dX4_number_14 rfl ?_
  refine X.getR (b := 26) (kf := 9) dX4_number_15 (hB.1 1 (by decide) (by decide)) (by decide) (by decide) rfl wf_X4_49 (hB.2.1 9 (by decide)) ?_
  refine X.cV2i (k' := kX2_read) dX4_number_18 ((hB.2.2.1 a ha).1) ⟨by decide, rfl⟩ v_X2_read wm_X4_123 wi_X2_read ws_X2_read ⟨Nat.le_of_ble_eq_true rfl, Nat.le_of_ble_eq_true rfl⟩ n_X2_read (Nat.le_of_ble_eq_true rfl) ?_
  refine c_read hR ha (Or.inl rfl) hz ?_
  refine ⟨_, rfl, ?_⟩
  have hR := hR.cell (Or.inl rfl) (nI (cellKindM ν (tp ν a) (ix i))) (numM ν (tp ν a) (ix i)) (tref ν φ (tp ν a) (ix i))
  have hB := hR.2.1
  refine X.istore dX4_number_21 (Nat.le_of_ble_eq_true rfl) ?_
  refine X.aload_n dX4_number_23 rfl ?_
  refine X.iload dX4_number_24 rfl ?_
  refine X.cV1v (k' := kX4_note) dX4_number_26 (hB.1 1 (by decide) (by decide)) ⟨by decide, rfl⟩ v_X4_note wm_X4_133 wi_X4_note ws_X4_note ⟨Nat.le_of_ble_eq_true rfl, Nat.le_of_ble_eq_true rfl⟩ n_X4_note (Nat.le_of_ble_eq_true rfl) ?_
  refine x_note (r := 0) hB (by decide) ?_
  refine ⟨rfl, ?_⟩
  have hR := hR.note (r := 0) (by decide)
  have hB := hR.2.1
  refine X.iload dX4_number_29 rfl ?_
  refine X.if_ne_f (tgt := 44) dX4_number_31 (by decide) ((by decide)) ?_
  refine X.aload_n dX4_number_34 rfl ?_
  refine X.getR (b := 26) (kf := 9) dX4_number_35 (hB.1 1 (by decide) (by decide)) (by decide) (by decide) rfl wf_X4_49 (hB.2.1 9 (by decide)) ?_
  refine X.getJ (kf := 1) dX4_number_38 (hB.1 26 (by decide) (by decide)) (by decide) (by decide) rfl wf_X4_136 ?_
  refine X.goto (tgt := 45) dX4_number_41 (by decide) ?_
  refine X.ret dX4_number_45 ⟨trivial, ?_⟩
  exact hq _ hR
