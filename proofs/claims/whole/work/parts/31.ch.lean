/-! the class: channels under the relation (laid by wip/whole/mkpb3.py) -/
theorem c_refusal {c : Nat} {ρ ν μ : xM} {φ κ : Nat → Nat} {B : Nat × Nat × Nat × (Nat → Prop)} {Q : Option Value → xM → Prop} (hR : Rel ρ ν μ φ κ B) (hc : c < 16) (h0 : ¬ noTapeM ν c = 0) (hq : Q (some (.int (nI (noTapeM ν c)))) μ) : Mt kX2_refusalWithoutTape [.ref (28 + c)] μ Q := by
  refine x_refusal hR.2.1 hc ?_
  rw [(hR.ch hc).2.2.1]
  unfold noTapeM at h0 hq
  by_cases h1 : mI ν 50 c = -1
  · rw [if_pos h1] at hq
    rw [h1, if_pos (show (if (-1 : Int32) = -2 then (1 : Int32) else 0) = 0 by decide)]
    exact hq
  · rw [if_neg h1] at hq h0
    by_cases h2 : mI ν 50 c = -2
    · rw [if_pos h2] at hq
      rw [if_pos h2, if_neg (by decide)]
      exact hq
    · rw [if_neg h2] at h0
      exact absurd rfl h0
theorem c_has {c : Nat} {ρ ν μ : xM} {φ κ : Nat → Nat} {B : Nat × Nat × Nat × (Nat → Prop)} {Q : Option Value → xM → Prop} (hR : Rel ρ ν μ φ κ B) (hc : c < 16) (hq : Q (some (.int (sortM ν c))) μ) : Mt kX2_has [.ref (28 + c)] μ Q := by
  by_cases h0 : noTapeM ν c = 0
  · refine x_has_t hR.2.1 hc (hR.chT hc h0) ?_
    unfold noTapeM at h0
    unfold sortM at hq
    by_cases h1 : mI ν 50 c = -1
    · rw [if_pos h1] at h0; omega
    · rw [if_neg h1] at hq h0
      by_cases h2 : mI ν 50 c = -2
      · rw [if_pos h2] at h0; omega
      · rw [if_neg h2] at hq; exact hq
  · refine x_has_n hR.2.1 hc (hR.chN hc h0) ?_
    rw [(hR.ch hc).2.2.1]
    unfold noTapeM at h0
    unfold sortM at hq
    by_cases h1 : mI ν 50 c = -1
    · rw [if_pos h1] at hq
      rw [h1, if_pos (show (if (-1 : Int32) = -2 then (1 : Int32) else 0) = 0 by decide)]
      exact hq
    · rw [if_neg h1] at hq h0
      by_cases h2 : mI ν 50 c = -2
      · rw [if_pos h2] at hq
        rw [if_pos h2, if_neg (by decide)]
        exact hq
      · rw [if_neg h2] at h0
        exact absurd rfl h0
set_option maxRecDepth 100000 in
set_option maxHeartbeats 4000000 in
theorem c_refPlain1 {c : Nat} {ρ ν μ : xM} {φ κ : Nat → Nat} {B : Nat × Nat × Nat × (Nat → Prop)} {Q : Option Value → xM → Prop} (hR : Rel ρ ν μ φ κ B) (hc : c < 16) (h0 : ¬ noTapeM ν c = 0) (hq : Q (some (.int (nI (noTapeM ν c)))) μ) : Mt kX2_refusalOfPlain [.ref (28 + c)] μ Q := by
  refine Mt.enter rfl (Nat.le_of_ble_eq_true rfl) ?_
  refine X.aload_n dX2_refusalOfPlain_0 rfl ?_
  refine X.getN (kf := 1) dX2_refusalOfPlain_1 ((hR.2.1.2.2.1 c hc).1) (by decide) (by decide) rfl wf_X2_9 (hR.chN hc h0) ?_
  refine X.ifnonnull_n dX2_refusalOfPlain_4 ?_
  refine X.aload_n dX2_refusalOfPlain_7 rfl ?_
  refine X.cV0i (k' := kX2_refusalWithoutTape) dX2_refusalOfPlain_8 ((hR.2.1.2.2.1 c hc).1) ⟨by decide, rfl⟩ v_X2_refusalWithoutTape wm_X2_32 wi_X2_refusalWithoutTape ws_X2_refusalWithoutTape ⟨Nat.le_of_ble_eq_true rfl, Nat.le_of_ble_eq_true rfl⟩ n_X2_refusalWithoutTape (Nat.le_of_ble_eq_true rfl) ?_
  refine c_refusal hR hc h0 ?_
  refine ⟨_, rfl, ?_⟩
  refine X.ret dX2_refusalOfPlain_11 ⟨trivial, ?_⟩
  exact hq
set_option maxRecDepth 100000 in
set_option maxHeartbeats 4000000 in
theorem c_refPlain2 {c : Nat} {ρ ν μ : xM} {φ κ : Nat → Nat} {B : Nat × Nat × Nat × (Nat → Prop)} {Q : Option Value → xM → Prop} (hR : Rel ρ ν μ φ κ B) (hc : c < 16) (h0 : noTapeM ν c = 0) (h8 : kd ν (tp ν c) < 8) (hq : Q (some (.int (nI 0))) μ) : Mt kX2_refusalOfPlain [.ref (28 + c)] μ Q := by
  have hT := (hR.tr (live_c hc h0)).ts
  have hw := hR.wt
  have hk := kd_le hw (tp_lt hw hc h0)
  refine Mt.enter rfl (Nat.le_of_ble_eq_true rfl) ?_
  refine X.aload_n dX2_refusalOfPlain_0 rfl ?_
  refine X.getR (b := (φ (tp ν c))) (kf := 1) dX2_refusalOfPlain_1 ((hR.2.1.2.2.1 c hc).1) (by decide) (by decide) rfl wf_X2_9 (hR.chT hc h0) ?_
  refine X.ifnonnull_r (tgt := 12) dX2_refusalOfPlain_4 (by decide) ?_
  refine X.aload_n dX2_refusalOfPlain_12 rfl ?_
  refine X.getR (b := (φ (tp ν c))) (kf := 1) dX2_refusalOfPlain_13 ((hR.2.1.2.2.1 c hc).1) (by decide) (by decide) rfl wf_X2_9 (hR.chT hc h0) ?_
  refine X.getI (kf := 0) dX2_refusalOfPlain_16 (hT.1.1) (by decide) (by decide) rfl wf_X2_36 ?_
  refine X.cSN1i (k' := kX4_isPlain) dX2_refusalOfPlain_19 v_X4_isPlain (host := "PatchBay") (List.mem_of_getElem? (i := 2) rfl) wt_X4_isPlain ⟨Nat.le_of_ble_eq_true rfl, Nat.le_of_ble_eq_true rfl⟩ n_X4_isPlain (Nat.le_of_ble_eq_true rfl) ?_
  rw [hT.2.1.1]
  refine x_isPlain_t (rng_nI h8 (by decide)) ?_
  refine ⟨_, rfl, ?_⟩
  refine X.if_eq_f (tgt := 29) dX2_refusalOfPlain_22 (by decide) ((by decide)) ?_
  refine X.iconst (v := 0) dX2_refusalOfPlain_25 (by decide) ?_
  refine X.goto (tgt := 30) dX2_refusalOfPlain_26 (by decide) ?_
  refine X.ret dX2_refusalOfPlain_30 ⟨trivial, ?_⟩
  exact hq
set_option maxRecDepth 100000 in
set_option maxHeartbeats 4000000 in
theorem c_refPlain3 {c : Nat} {ρ ν μ : xM} {φ κ : Nat → Nat} {B : Nat × Nat × Nat × (Nat → Prop)} {Q : Option Value → xM → Prop} (hR : Rel ρ ν μ φ κ B) (hc : c < 16) (h0 : noTapeM ν c = 0) (h8 : ¬ kd ν (tp ν c) < 8) (hq : Q (some (.int (nI 2))) μ) : Mt kX2_refusalOfPlain [.ref (28 + c)] μ Q := by
  have hT := (hR.tr (live_c hc h0)).ts
  have hw := hR.wt
  have hk := kd_le hw (tp_lt hw hc h0)
  refine Mt.enter rfl (Nat.le_of_ble_eq_true rfl) ?_
  refine X.aload_n dX2_refusalOfPlain_0 rfl ?_
  refine X.getR (b := (φ (tp ν c))) (kf := 1) dX2_refusalOfPlain_1 ((hR.2.1.2.2.1 c hc).1) (by decide) (by decide) rfl wf_X2_9 (hR.chT hc h0) ?_
  refine X.ifnonnull_r (tgt := 12) dX2_refusalOfPlain_4 (by decide) ?_
  refine X.aload_n dX2_refusalOfPlain_12 rfl ?_
  refine X.getR (b := (φ (tp ν c))) (kf := 1) dX2_refusalOfPlain_13 ((hR.2.1.2.2.1 c hc).1) (by decide) (by decide) rfl wf_X2_9 (hR.chT hc h0) ?_
  refine X.getI (kf := 0) dX2_refusalOfPlain_16 (hT.1.1) (by decide) (by decide) rfl wf_X2_36 ?_
  refine X.cSN1i (k' := kX4_isPlain) dX2_refusalOfPlain_19 v_X4_isPlain (host := "PatchBay") (List.mem_of_getElem? (i := 2) rfl) wt_X4_isPlain ⟨Nat.le_of_ble_eq_true rfl, Nat.le_of_ble_eq_true rfl⟩ n_X4_isPlain (Nat.le_of_ble_eq_true rfl) ?_
  rw [hT.2.1.1]
  refine x_isPlain_f (rng_out (Nat.not_lt.mp h8) (by omega)) ?_
  refine ⟨_, rfl, ?_⟩
  refine X.if_eq_t (tgt := 29) dX2_refusalOfPlain_22 (by decide) ((by decide)) ?_
  refine X.iconst (v := 2) dX2_refusalOfPlain_29 (by decide) ?_
  refine X.ret dX2_refusalOfPlain_30 ⟨trivial, ?_⟩
  exact hq
set_option maxRecDepth 100000 in
set_option maxHeartbeats 4000000 in
theorem c_read_n {c h : Nat} {i : Int32} {ρ ν μ : xM} {φ κ : Nat → Nat} {B : Nat × Nat × Nat × (Nat → Prop)} {Q : Option Value → xM → Prop} (hR : Rel ρ ν μ φ κ B) (hc : c < 16) (h0 : ¬ noTapeM ν c = 0) (hq : Q (some (.int (nI (noTapeM ν c)))) μ) : Mt kX2_read [.ref (28 + c), .int i, .ref h] μ Q := by
  refine Mt.enter rfl (Nat.le_of_ble_eq_true rfl) ?_
  refine X.aload_n dX2_read_0 rfl ?_
  refine X.getN (kf := 1) dX2_read_1 ((hR.2.1.2.2.1 c hc).1) (by decide) (by decide) rfl wf_X2_9 (hR.chN hc h0) ?_
  refine X.ifnonnull_n dX2_read_4 ?_
  refine X.aload_n dX2_read_7 rfl ?_
  refine X.cV0i (k' := kX2_refusalWithoutTape) dX2_read_8 ((hR.2.1.2.2.1 c hc).1) ⟨by decide, rfl⟩ v_X2_refusalWithoutTape wm_X2_32 wi_X2_refusalWithoutTape ws_X2_refusalWithoutTape ⟨Nat.le_of_ble_eq_true rfl, Nat.le_of_ble_eq_true rfl⟩ n_X2_refusalWithoutTape (Nat.le_of_ble_eq_true rfl) ?_
  refine c_refusal hR hc h0 ?_
  refine ⟨_, rfl, ?_⟩
  refine X.goto (tgt := 23) dX2_read_11 (by decide) ?_
  refine X.ret dX2_read_23 ⟨trivial, ?_⟩
  exact hq
set_option maxRecDepth 100000 in
set_option maxHeartbeats 4000000 in
theorem c_read_t {c h : Nat} {i : Int32} {ρ ν μ : xM} {φ κ : Nat → Nat} {B : Nat × Nat × Nat × (Nat → Prop)} {Q : Option Value → xM → Prop} (hR : Rel ρ ν μ φ κ B) (hc : c < 16) (h0 : noTapeM ν c = 0) (hq : Mt kX3_copyTo [.ref (φ (tp ν c)), .int i, .ref h] μ (fun r μ1 => ∃ v, r = some (.int v) ∧ Q r μ1)) : Mt kX2_read [.ref (28 + c), .int i, .ref h] μ Q := by
  have hT := (hR.tr (live_c hc h0)).ts
  have hw := hR.wt
  have hk := kd_le hw (tp_lt hw hc h0)
  refine Mt.enter rfl (Nat.le_of_ble_eq_true rfl) ?_
  refine X.aload_n dX2_read_0 rfl ?_
  refine X.getR (b := (φ (tp ν c))) (kf := 1) dX2_read_1 ((hR.2.1.2.2.1 c hc).1) (by decide) (by decide) rfl wf_X2_9 (hR.chT hc h0) ?_
  refine X.ifnonnull_r (tgt := 14) dX2_read_4 (by decide) ?_
  refine X.aload_n dX2_read_14 rfl ?_
  refine X.getR (b := (φ (tp ν c))) (kf := 1) dX2_read_15 ((hR.2.1.2.2.1 c hc).1) (by decide) (by decide) rfl wf_X2_9 (hR.chT hc h0) ?_
  refine X.iload_n dX2_read_18 rfl ?_
  refine X.aload_n dX2_read_19 rfl ?_
  refine X.cV2i (k' := kX3_copyTo) dX2_read_20 (hT.1.1) ⟨by decide, rfl⟩ v_X3_copyTo wm_X2_45 wi_X3_copyTo ws_X3_copyTo ⟨Nat.le_of_ble_eq_true rfl, Nat.le_of_ble_eq_true rfl⟩ n_X3_copyTo (Nat.le_of_ble_eq_true rfl) ?_
  refine Mt.mono hq (fun r1 μ1 h1 => ?_)
  obtain ⟨v1, e1, h1⟩ := h1
  subst e1
  refine ⟨_, rfl, ?_⟩
  refine X.ret dX2_read_23 ⟨trivial, ?_⟩
  exact h1
set_option maxRecDepth 100000 in
set_option maxHeartbeats 4000000 in
theorem c_write_n {c h : Nat} {i : Int32} {ρ ν μ : xM} {φ κ : Nat → Nat} {B : Nat × Nat × Nat × (Nat → Prop)} {Q : Option Value → xM → Prop} (hR : Rel ρ ν μ φ κ B) (hc : c < 16) (h0 : ¬ noTapeM ν c = 0) (hq : Q (some (.int (nI (noTapeM ν c)))) μ) : Mt kX2_write [.ref (28 + c), .int i, .ref h] μ Q := by
  refine Mt.enter rfl (Nat.le_of_ble_eq_true rfl) ?_
  refine X.aload_n dX2_write_0 rfl ?_
  refine X.getN (kf := 1) dX2_write_1 ((hR.2.1.2.2.1 c hc).1) (by decide) (by decide) rfl wf_X2_9 (hR.chN hc h0) ?_
  refine X.ifnonnull_n dX2_write_4 ?_
  refine X.aload_n dX2_write_7 rfl ?_
  refine X.cV0i (k' := kX2_refusalWithoutTape) dX2_write_8 ((hR.2.1.2.2.1 c hc).1) ⟨by decide, rfl⟩ v_X2_refusalWithoutTape wm_X2_32 wi_X2_refusalWithoutTape ws_X2_refusalWithoutTape ⟨Nat.le_of_ble_eq_true rfl, Nat.le_of_ble_eq_true rfl⟩ n_X2_refusalWithoutTape (Nat.le_of_ble_eq_true rfl) ?_
  refine c_refusal hR hc h0 ?_
  refine ⟨_, rfl, ?_⟩
  refine X.goto (tgt := 23) dX2_write_11 (by decide) ?_
  refine X.ret dX2_write_23 ⟨trivial, ?_⟩
  exact hq
set_option maxRecDepth 100000 in
set_option maxHeartbeats 4000000 in
theorem c_write_t {c h : Nat} {i : Int32} {ρ ν μ : xM} {φ κ : Nat → Nat} {B : Nat × Nat × Nat × (Nat → Prop)} {Q : Option Value → xM → Prop} (hR : Rel ρ ν μ φ κ B) (hc : c < 16) (h0 : noTapeM ν c = 0) (hq : Mt kX3_accept [.ref (φ (tp ν c)), .int i, .ref h] μ (fun r μ1 => ∃ v, r = some (.int v) ∧ Q r μ1)) : Mt kX2_write [.ref (28 + c), .int i, .ref h] μ Q := by
  have hT := (hR.tr (live_c hc h0)).ts
  have hw := hR.wt
  have hk := kd_le hw (tp_lt hw hc h0)
  refine Mt.enter rfl (Nat.le_of_ble_eq_true rfl) ?_
  refine X.aload_n dX2_write_0 rfl ?_
  refine X.getR (b := (φ (tp ν c))) (kf := 1) dX2_write_1 ((hR.2.1.2.2.1 c hc).1) (by decide) (by decide) rfl wf_X2_9 (hR.chT hc h0) ?_
  refine X.ifnonnull_r (tgt := 14) dX2_write_4 (by decide) ?_
  refine X.aload_n dX2_write_14 rfl ?_
  refine X.getR (b := (φ (tp ν c))) (kf := 1) dX2_write_15 ((hR.2.1.2.2.1 c hc).1) (by decide) (by decide) rfl wf_X2_9 (hR.chT hc h0) ?_
  refine X.iload_n dX2_write_18 rfl ?_
  refine X.aload_n dX2_write_19 rfl ?_
  refine X.cV2i (k' := kX3_accept) dX2_write_20 (hT.1.1) ⟨by decide, rfl⟩ v_X3_accept wm_X2_49 wi_X3_accept ws_X3_accept ⟨Nat.le_of_ble_eq_true rfl, Nat.le_of_ble_eq_true rfl⟩ n_X3_accept (Nat.le_of_ble_eq_true rfl) ?_
  refine Mt.mono hq (fun r1 μ1 h1 => ?_)
  obtain ⟨v1, e1, h1⟩ := h1
  subst e1
  refine ⟨_, rfl, ?_⟩
  refine X.ret dX2_write_23 ⟨trivial, ?_⟩
  exact h1
theorem c_read_o {c h : Nat} {i : Int32} {ρ ν μ : xM} {φ κ : Nat → Nat} {B : Nat × Nat × Nat × (Nat → Prop)} {Q : Option Value → xM → Prop} (hR : Rel ρ ν μ φ κ B) (hc : c < 16) (hz : ¬ noPlaceM ν c i = 0) (hq : Q (some (.int (nI (noPlaceM ν c i)))) μ) : Mt kX2_read [.ref (28 + c), .int i, .ref h] μ Q := by
  by_cases h0 : noTapeM ν c = 0
  · have hw := hR.wt
    refine c_read_t hR hc h0 (x_copyTo_o (hR.tr (live_c hc h0)).ts (sz_le hw (tp_lt hw hc h0)) ?_ ⟨_, rfl, ?_⟩)
    · unfold noPlaceM at hz
      rw [if_pos h0] at hz
      cases e : rng i (sz ν (tp ν c)) with
      | none => rfl
      | some j => rw [e] at hz; exact absurd rfl hz
    · unfold noPlaceM at hq hz
      rw [if_pos h0] at hq hz
      cases e : rng i (sz ν (tp ν c)) with
      | none => rw [e] at hq; exact hq
      | some j => rw [e] at hz; exact absurd rfl hz
  · refine c_read_n hR hc h0 ?_
    unfold noPlaceM at hq
    rw [if_neg h0] at hq
    exact hq
theorem c_read {c h : Nat} {i : Int32} {ρ ν μ : xM} {φ κ : Nat → Nat} {B : Nat × Nat × Nat × (Nat → Prop)} {Q : Option Value → xM → Prop} (hR : Rel ρ ν μ φ κ B) (hc : c < 16) (hh : h = 26 ∨ h = 27) (hz : noPlaceM ν c i = 0) (hq : Q (some (.int (nI 0))) (cellP μ h (nI (cellKindM ν (tp ν c) (ix i))) (numM ν (tp ν c) (ix i)) (tref ν φ (tp ν c) (ix i)))) : Mt kX2_read [.ref (28 + c), .int i, .ref h] μ Q := by
  obtain ⟨h0, hr, -, hj⟩ := noPlace_0 hz
  have hw := hR.wt
  have hT := hR.tr (live_c hc h0)
  refine c_read_t hR hc h0 (x_copyTo hT.ts (sz_le hw (tp_lt hw hc h0)) (hR.hand hh) hr ⟨_, rfl, ?_⟩)
  obtain ⟨e1, e2, e3⟩ := hT.2.2.2.2 _ hj
  rw [e1, e2, e3]
  exact hq
theorem c_write_o {c h K : Nat} {i : Int32} {ρ ν μ : xM} {φ κ : Nat → Nat} {B : Nat × Nat × Nat × (Nat → Prop)} {Q : Option Value → xM → Prop} (hR : Rel ρ ν μ φ κ B) (hc : c < 16) (hh : h = 26 ∨ h = 27) (hK : mI μ h 0 = nI K) (hK2 : K ≤ 12) (hz : ¬ noWriteM ν c i K = 0) (hq : Q (some (.int (nI (noWriteM ν c i K)))) μ) : Mt kX2_write [.ref (28 + c), .int i, .ref h] μ Q := by
  by_cases h0 : noTapeM ν c = 0
  · have hw := hR.wt
    have hT := (hR.tr (live_c hc h0)).ts
    have hk := kd_le hw (tp_lt hw hc h0)
    have ls := sz_le hw (tp_lt hw hc h0)
    have hm := hR.hand hh
    refine c_write_t hR hc h0 ?_
    unfold noWriteM at hz hq
    rw [if_pos h0] at hz hq
    by_cases h1 : kd ν (tp ν c) < 8 ∧ K = 11
    · rw [if_pos h1] at hq
      exact x_accept_o1 hT ls hk hm hK hK2 h1.1 h1.2 ⟨_, rfl, hq⟩
    · rw [if_neg h1] at hz hq
      unfold noPlaceM at hz hq
      rw [if_pos h0] at hz hq
      cases e : rng i (sz ν (tp ν c)) with
      | none =>
        rw [e] at hz hq
        by_cases h8 : kd ν (tp ν c) < 8
        · exact x_accept_o2p hT ls hk hm hK hK2 h8 (fun q => h1 ⟨h8, q⟩) e ⟨_, rfl, hq⟩
        · exact x_accept_o2s hT ls hk hm hK hK2 h8 e ⟨_, rfl, hq⟩
      | some j =>
        rw [e] at hz hq
        have hz2 : ¬ noTakeM (kd ν (tp ν c)) K = 0 := hz
        have hq2 : Q (some (.int (nI (noTakeM (kd ν (tp ν c)) K)))) μ := hq
        unfold noTakeM at hz2 hq2
        cases et : takesM (kd ν (tp ν c)) K with
        | true => rw [et] at hz2; exact absurd rfl hz2
        | false =>
          rw [et] at hq2
          by_cases h8 : kd ν (tp ν c) < 8
          · exact x_accept_o3p hT ls hk hm hK hK2 h8 (fun q => h1 ⟨h8, q⟩) e et ⟨_, rfl, hq2⟩
          · exact x_accept_o3s hT ls hk hm hK hK2 h8 e et ⟨_, rfl, hq2⟩
  · refine c_write_n hR hc h0 ?_
    unfold noWriteM at hq
    rw [if_neg h0] at hq
    exact hq
theorem CellR.ref {ρ ν μ : xM} {φ κ : Nat → Nat} {B : Nat × Nat × Nat × (Nat → Prop)} (hR : Rel ρ ν μ φ κ B) {K : Nat} {v num : Int64} {r : Option Nat} (hc : CellR ν φ B.2.2.2 K v num r) : ∀ b, r = some b → mT μ b = (3, 0) := by
  intro b hb
  rcases hc with ⟨-, -, e⟩ | ⟨-, -, e, -⟩ | ⟨-, -, -, -, -, e, hl, -⟩ | ⟨-, -, -, e⟩
  · rw [e] at hb; exact nomatch hb
  · rw [e] at hb; exact nomatch hb
  · rw [e] at hb
    cases hb
    exact (hR.2.2.2.2.2.1.1 _ hl).2.1.1
  · rw [e] at hb; exact nomatch hb
def LoEq (μ μ1 : xM) : Prop := ∀ a, a < 66 → mI μ1 a = mI μ a ∧ mJ μ1 a = mJ μ a ∧ mR μ1 a = mR μ a
theorem lo_wr {μ : xM} {a j : Nat} {x : Int32} {y : Int64} {r : Option Nat} (h : 66 ≤ a) : LoEq μ (wrP μ a j x y r) := fun _ hb => wr_off (by omega) (by omega) (by omega)
theorem c_write {c h K : Nat} {i : Int32} {v : Int64} {ρ ν μ : xM} {φ κ : Nat → Nat} {B : Nat × Nat × Nat × (Nat → Prop)} {Q : Option Value → xM → Prop} (hR : Rel ρ ν μ φ κ B) (hc : c < 16) (hh : h = 26 ∨ h = 27) (hK : mI μ h 0 = nI K) (hK2 : K ≤ 12) (hcr : CellR ν φ B.2.2.2 K v (mJ μ h 1) (mR μ h 2)) (hz : noWriteM ν c i K = 0) (hq : ∀ μ1, Rel ρ (writesM ν c i K v) μ1 φ κ B → LoEq μ μ1 → Q (some (.int (nI 0))) μ1) : Mt kX2_write [.ref (28 + c), .int i, .ref h] μ Q := by
  obtain ⟨hp, ht⟩ := noWrite_0 hz
  obtain ⟨h0, hr, -, hj⟩ := noPlace_0 hp
  have hw := hR.wt
  have hT := (hR.tr (live_c hc h0)).ts
  have hk := kd_le hw (tp_lt hw hc h0)
  have ls := sz_le hw (tp_lt hw hc h0)
  have hm := hR.hand hh
  have w := hq _ (hR.write hc hz hcr) (lo_wr (hR.tr (live_c hc h0)).1.1)
  refine c_write_t hR hc h0 ?_
  by_cases h8 : kd ν (tp ν c) < 8
  · rw [if_pos h8] at w
    exact x_acceptp hT ls hk hm hK hK2 h8 (by have := takes_lt h8 ht; omega) hr ht (hcr.ref hR) ⟨_, rfl, w⟩
  · rw [if_neg h8] at w
    refine x_accepts hT ls hk hm hK hK2 h8 hr ht (hcr.ref hR) ⟨_, rfl, ?_⟩
    rw [hK]
    exact w
