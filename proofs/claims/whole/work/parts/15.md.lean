/-! the reference: writing, passing (laid by wip/whole/mkmodel4.py) -/
def noPassM (μ : xM) (c : Nat) (i : Int32) (d : Nat) (j : Int32) : Nat := if noPlaceM μ c i = 0 then noWriteM μ d j (cellKindM μ (tp μ c) (ix i)) else noPlaceM μ c i
def passM (μ : xM) (c : Nat) (i : Int32) (d : Nat) (j : Int32) : xM := if noPlaceM μ c i = 0 then writesM μ d j (cellKindM μ (tp μ c) (ix i)) (cv μ (tp μ c) (ix i)) else μ
def noPlainM (μ : xM) (c : Nat) (i : Int32) : Nat := if noTapeM μ c = 0 then (if kd μ (tp μ c) < 8 then noPlaceM μ c i else 2) else noTapeM μ c
theorem noWrite_0 {μ : xM} {c : Nat} {i : Int32} {K : Nat} (h : noWriteM μ c i K = 0) : noPlaceM μ c i = 0 ∧ takesM (kd μ (tp μ c)) K = true := by
  unfold noWriteM at h
  by_cases h0 : noTapeM μ c = 0
  · rw [if_pos h0] at h
    by_cases h1 : kd μ (tp μ c) < 8 ∧ K = 11
    · rw [if_pos h1] at h; cases h
    · rw [if_neg h1] at h
      by_cases h2 : noPlaceM μ c i = 0
      · rw [if_pos h2] at h
        unfold noTakeM at h
        by_cases h3 : takesM (kd μ (tp μ c)) K = true
        · exact ⟨h2, h3⟩
        · rw [if_neg h3] at h; cases h
      · rw [if_neg h2] at h; exact absurd h h2
  · rw [if_neg h0] at h; exact absurd h h0
theorem noPass_le (μ : xM) (c : Nat) (i : Int32) (d : Nat) (j : Int32) : noPassM μ c i d j < 6 := by
  unfold noPassM
  split
  · exact noWrite_le _ _ _ _
  · exact noPlace_le _ _ _
theorem noPlain_le (μ : xM) (c : Nat) (i : Int32) : noPlainM μ c i < 6 := by
  unfold noPlainM
  have := noTapeM_le μ c
  have := noPlace_le μ c i
  split
  · split <;> omega
  · omega
set_option maxRecDepth 100000 in
set_option maxHeartbeats 4000000 in
theorem m_noWrite1 {c K : Nat} {i : Int32} {μ : xM} {Q : Option Value → xM → Prop} (hM : ShM μ) (hw : WFt μ) (hc : c < 16) (hK : K ≤ 12) (h0 : ¬ noTapeM μ c = 0) (hq : Q (some (.int (nI (noWriteM μ c i K)))) μ) : Mt kX5_noWrite [.ref 44, .int (nI c), .int i, .int (nI K)] μ Q := by
  refine Mt.enter rfl (Nat.le_of_ble_eq_true rfl) ?_
  refine X.aload_n dX5_noWrite_0 rfl ?_
  refine X.iload_n dX5_noWrite_1 rfl ?_
  refine X.cV1i (k' := kX5_noTape) dX5_noWrite_2 (hM.1 44 (by decide) (by decide)) ⟨by decide, rfl⟩ v_X5_noTape wm_X5_102 wi_X5_noTape ws_X5_noTape ⟨Nat.le_of_ble_eq_true rfl, Nat.le_of_ble_eq_true rfl⟩ n_X5_noTape (Nat.le_of_ble_eq_true rfl) ?_
  refine m_noTape hM hc ?_
  refine ⟨_, rfl, ?_⟩
  refine X.istore dX5_noWrite_5 (Nat.le_of_ble_eq_true rfl) ?_
  refine X.iload dX5_noWrite_7 rfl ?_
  refine X.if_le_f (tgt := 15) dX5_noWrite_9 (by decide) (fun q => h0 (nI_le0 q (by have := noTapeM_le μ c; omega))) ?_
  refine X.iload dX5_noWrite_12 rfl ?_
  refine X.ret dX5_noWrite_14 ⟨trivial, ?_⟩
  unfold noWriteM at hq
  rw [if_neg h0] at hq
  exact hq
set_option maxRecDepth 100000 in
set_option maxHeartbeats 4000000 in
theorem m_noWrite2 {c K : Nat} {i : Int32} {μ : xM} {Q : Option Value → xM → Prop} (hM : ShM μ) (hw : WFt μ) (hc : c < 16) (hK : K ≤ 12) (h0 : noTapeM μ c = 0) (h1 : kd μ (tp μ c) < 8 ∧ K = 11) (hq : Q (some (.int (nI (noWriteM μ c i K)))) μ) : Mt kX5_noWrite [.ref 44, .int (nI c), .int i, .int (nI K)] μ Q := by
  obtain ⟨ht, et⟩ := hw.1 c hc h0
  obtain ⟨⟨ek, lk⟩, es, ls⟩ := hw.2.1 _ ht
  have h8 := h1.1
  refine Mt.enter rfl (Nat.le_of_ble_eq_true rfl) ?_
  refine X.aload_n dX5_noWrite_0 rfl ?_
  refine X.iload_n dX5_noWrite_1 rfl ?_
  refine X.cV1i (k' := kX5_noTape) dX5_noWrite_2 (hM.1 44 (by decide) (by decide)) ⟨by decide, rfl⟩ v_X5_noTape wm_X5_102 wi_X5_noTape ws_X5_noTape ⟨Nat.le_of_ble_eq_true rfl, Nat.le_of_ble_eq_true rfl⟩ n_X5_noTape (Nat.le_of_ble_eq_true rfl) ?_
  refine m_noTape hM hc ?_
  refine ⟨_, rfl, ?_⟩
  refine X.istore dX5_noWrite_5 (Nat.le_of_ble_eq_true rfl) ?_
  refine X.iload dX5_noWrite_7 rfl ?_
  refine X.if_le_t (tgt := 15) dX5_noWrite_9 (by decide) ((by rw [h0]; decide)) ?_
  refine X.aload_n dX5_noWrite_15 rfl ?_
  refine X.iload_n dX5_noWrite_16 rfl ?_
  refine X.cV1i (k' := kX5_kindOf) dX5_noWrite_17 (hM.1 44 (by decide) (by decide)) ⟨by decide, rfl⟩ v_X5_kindOf wm_X5_110 wi_X5_kindOf ws_X5_kindOf ⟨Nat.le_of_ble_eq_true rfl, Nat.le_of_ble_eq_true rfl⟩ n_X5_kindOf (Nat.le_of_ble_eq_true rfl) ?_
  refine m_kindOf hM hw hc h0 ?_
  refine ⟨_, rfl, ?_⟩
  refine X.bipush (v := 8) dX5_noWrite_20 (by decide) ?_
  refine X.icmp_ge_f (tgt := 33) dX5_noWrite_22 (by decide) (nI_ge (a := kd μ (tp μ c)) (b := 8) h8 (by decide)) ?_
  refine X.iload_n dX5_noWrite_25 rfl ?_
  refine X.bipush (v := 11) dX5_noWrite_26 (by decide) ?_
  refine X.icmp_ne_f (tgt := 33) dX5_noWrite_28 (by decide) ((by rw [h1.2]; rfl)) ?_
  refine X.iconst (v := 2) dX5_noWrite_31 (by decide) ?_
  refine X.ret dX5_noWrite_32 ⟨trivial, ?_⟩
  unfold noWriteM at hq
  rw [if_pos h0, if_pos h1] at hq
  exact hq
set_option maxRecDepth 100000 in
set_option maxHeartbeats 4000000 in
theorem m_noWrite3 {c K : Nat} {i : Int32} {μ : xM} {Q : Option Value → xM → Prop} (hM : ShM μ) (hw : WFt μ) (hc : c < 16) (hK : K ≤ 12) (h0 : noTapeM μ c = 0) (h1 : ¬ (kd μ (tp μ c) < 8 ∧ K = 11)) (h8 : kd μ (tp μ c) < 8) (hq : Q (some (.int (nI (noWriteM μ c i K)))) μ) : Mt kX5_noWrite [.ref 44, .int (nI c), .int i, .int (nI K)] μ Q := by
  obtain ⟨ht, et⟩ := hw.1 c hc h0
  obtain ⟨⟨ek, lk⟩, es, ls⟩ := hw.2.1 _ ht
  refine Mt.enter rfl (Nat.le_of_ble_eq_true rfl) ?_
  refine X.aload_n dX5_noWrite_0 rfl ?_
  refine X.iload_n dX5_noWrite_1 rfl ?_
  refine X.cV1i (k' := kX5_noTape) dX5_noWrite_2 (hM.1 44 (by decide) (by decide)) ⟨by decide, rfl⟩ v_X5_noTape wm_X5_102 wi_X5_noTape ws_X5_noTape ⟨Nat.le_of_ble_eq_true rfl, Nat.le_of_ble_eq_true rfl⟩ n_X5_noTape (Nat.le_of_ble_eq_true rfl) ?_
  refine m_noTape hM hc ?_
  refine ⟨_, rfl, ?_⟩
  refine X.istore dX5_noWrite_5 (Nat.le_of_ble_eq_true rfl) ?_
  refine X.iload dX5_noWrite_7 rfl ?_
  refine X.if_le_t (tgt := 15) dX5_noWrite_9 (by decide) ((by rw [h0]; decide)) ?_
  refine X.aload_n dX5_noWrite_15 rfl ?_
  refine X.iload_n dX5_noWrite_16 rfl ?_
  refine X.cV1i (k' := kX5_kindOf) dX5_noWrite_17 (hM.1 44 (by decide) (by decide)) ⟨by decide, rfl⟩ v_X5_kindOf wm_X5_110 wi_X5_kindOf ws_X5_kindOf ⟨Nat.le_of_ble_eq_true rfl, Nat.le_of_ble_eq_true rfl⟩ n_X5_kindOf (Nat.le_of_ble_eq_true rfl) ?_
  refine m_kindOf hM hw hc h0 ?_
  refine ⟨_, rfl, ?_⟩
  refine X.bipush (v := 8) dX5_noWrite_20 (by decide) ?_
  refine X.icmp_ge_f (tgt := 33) dX5_noWrite_22 (by decide) (nI_ge (a := kd μ (tp μ c)) (b := 8) h8 (by decide)) ?_
  refine X.iload_n dX5_noWrite_25 rfl ?_
  refine X.bipush (v := 11) dX5_noWrite_26 (by decide) ?_
  refine X.icmp_ne_t (tgt := 33) dX5_noWrite_28 (by decide) (nI_neq (a := K) (b := 11) (fun e => h1 ⟨h8, e⟩) (by omega) (by decide)) ?_
  refine X.aload_n dX5_noWrite_33 rfl ?_
  refine X.iload_n dX5_noWrite_34 rfl ?_
  refine X.iload_n dX5_noWrite_35 rfl ?_
  refine X.cV2i (k' := kX5_noPlace) dX5_noWrite_36 (hM.1 44 (by decide) (by decide)) ⟨by decide, rfl⟩ v_X5_noPlace wm_X5_113 wi_X5_noPlace ws_X5_noPlace ⟨Nat.le_of_ble_eq_true rfl, Nat.le_of_ble_eq_true rfl⟩ n_X5_noPlace (Nat.le_of_ble_eq_true rfl) ?_
  refine m_noPlace hM hw hc ?_
  refine ⟨_, rfl, ?_⟩
  refine X.istore dX5_noWrite_39 (Nat.le_of_ble_eq_true rfl) ?_
  refine X.iload dX5_noWrite_41 rfl ?_
  refine X.if_le (tgt := 51) dX5_noWrite_43 (by decide) (fun c43 => ?_) (fun c43 => ?_)
  · refine X.aload_n dX5_noWrite_51 rfl ?_
    refine X.iload_n dX5_noWrite_52 rfl ?_
    refine X.cV1i (k' := kX5_kindOf) dX5_noWrite_53 (hM.1 44 (by decide) (by decide)) ⟨by decide, rfl⟩ v_X5_kindOf wm_X5_110 wi_X5_kindOf ws_X5_kindOf ⟨Nat.le_of_ble_eq_true rfl, Nat.le_of_ble_eq_true rfl⟩ n_X5_kindOf (Nat.le_of_ble_eq_true rfl) ?_
    refine m_kindOf hM hw hc h0 ?_
    refine ⟨_, rfl, ?_⟩
    refine X.iload_n dX5_noWrite_56 rfl ?_
    refine X.cS2i (k' := kX5_noTake) dX5_noWrite_57 v_X5_noTake wm_X5_117 wt_X5_noTake ⟨Nat.le_of_ble_eq_true rfl, Nat.le_of_ble_eq_true rfl⟩ n_X5_noTake (Nat.le_of_ble_eq_true rfl) ?_
    refine m_noTake lk hK ?_
    refine ⟨_, rfl, ?_⟩
    refine X.ret dX5_noWrite_60 ⟨trivial, ?_⟩
    unfold noWriteM at hq
    rw [if_pos h0, if_neg h1] at hq
    first
      | (rw [if_neg (fun e => c43 (by rw [e]; decide))] at hq; exact hq)
      | (rw [if_pos (nI_le0 c43 (by have := noPlace_le μ c i; omega))] at hq; exact hq)
  · refine X.iload dX5_noWrite_46 rfl ?_
    refine X.goto (tgt := 60) dX5_noWrite_48 (by decide) ?_
    refine X.ret dX5_noWrite_60 ⟨trivial, ?_⟩
    unfold noWriteM at hq
    rw [if_pos h0, if_neg h1] at hq
    first
      | (rw [if_neg (fun e => c43 (by rw [e]; decide))] at hq; exact hq)
      | (rw [if_pos (nI_le0 c43 (by have := noPlace_le μ c i; omega))] at hq; exact hq)
set_option maxRecDepth 100000 in
set_option maxHeartbeats 4000000 in
theorem m_noWrite4 {c K : Nat} {i : Int32} {μ : xM} {Q : Option Value → xM → Prop} (hM : ShM μ) (hw : WFt μ) (hc : c < 16) (hK : K ≤ 12) (h0 : noTapeM μ c = 0) (h1 : ¬ (kd μ (tp μ c) < 8 ∧ K = 11)) (h8 : ¬ kd μ (tp μ c) < 8) (hq : Q (some (.int (nI (noWriteM μ c i K)))) μ) : Mt kX5_noWrite [.ref 44, .int (nI c), .int i, .int (nI K)] μ Q := by
  obtain ⟨ht, et⟩ := hw.1 c hc h0
  obtain ⟨⟨ek, lk⟩, es, ls⟩ := hw.2.1 _ ht
  refine Mt.enter rfl (Nat.le_of_ble_eq_true rfl) ?_
  refine X.aload_n dX5_noWrite_0 rfl ?_
  refine X.iload_n dX5_noWrite_1 rfl ?_
  refine X.cV1i (k' := kX5_noTape) dX5_noWrite_2 (hM.1 44 (by decide) (by decide)) ⟨by decide, rfl⟩ v_X5_noTape wm_X5_102 wi_X5_noTape ws_X5_noTape ⟨Nat.le_of_ble_eq_true rfl, Nat.le_of_ble_eq_true rfl⟩ n_X5_noTape (Nat.le_of_ble_eq_true rfl) ?_
  refine m_noTape hM hc ?_
  refine ⟨_, rfl, ?_⟩
  refine X.istore dX5_noWrite_5 (Nat.le_of_ble_eq_true rfl) ?_
  refine X.iload dX5_noWrite_7 rfl ?_
  refine X.if_le_t (tgt := 15) dX5_noWrite_9 (by decide) ((by rw [h0]; decide)) ?_
  refine X.aload_n dX5_noWrite_15 rfl ?_
  refine X.iload_n dX5_noWrite_16 rfl ?_
  refine X.cV1i (k' := kX5_kindOf) dX5_noWrite_17 (hM.1 44 (by decide) (by decide)) ⟨by decide, rfl⟩ v_X5_kindOf wm_X5_110 wi_X5_kindOf ws_X5_kindOf ⟨Nat.le_of_ble_eq_true rfl, Nat.le_of_ble_eq_true rfl⟩ n_X5_kindOf (Nat.le_of_ble_eq_true rfl) ?_
  refine m_kindOf hM hw hc h0 ?_
  refine ⟨_, rfl, ?_⟩
  refine X.bipush (v := 8) dX5_noWrite_20 (by decide) ?_
  refine X.icmp_ge_t (tgt := 33) dX5_noWrite_22 (by decide) (nI_le (a := 8) (b := kd μ (tp μ c)) (by omega) (by omega)) ?_
  refine X.aload_n dX5_noWrite_33 rfl ?_
  refine X.iload_n dX5_noWrite_34 rfl ?_
  refine X.iload_n dX5_noWrite_35 rfl ?_
  refine X.cV2i (k' := kX5_noPlace) dX5_noWrite_36 (hM.1 44 (by decide) (by decide)) ⟨by decide, rfl⟩ v_X5_noPlace wm_X5_113 wi_X5_noPlace ws_X5_noPlace ⟨Nat.le_of_ble_eq_true rfl, Nat.le_of_ble_eq_true rfl⟩ n_X5_noPlace (Nat.le_of_ble_eq_true rfl) ?_
  refine m_noPlace hM hw hc ?_
  refine ⟨_, rfl, ?_⟩
  refine X.istore dX5_noWrite_39 (Nat.le_of_ble_eq_true rfl) ?_
  refine X.iload dX5_noWrite_41 rfl ?_
  refine X.if_le (tgt := 51) dX5_noWrite_43 (by decide) (fun c43 => ?_) (fun c43 => ?_)
  · refine X.aload_n dX5_noWrite_51 rfl ?_
    refine X.iload_n dX5_noWrite_52 rfl ?_
    refine X.cV1i (k' := kX5_kindOf) dX5_noWrite_53 (hM.1 44 (by decide) (by decide)) ⟨by decide, rfl⟩ v_X5_kindOf wm_X5_110 wi_X5_kindOf ws_X5_kindOf ⟨Nat.le_of_ble_eq_true rfl, Nat.le_of_ble_eq_true rfl⟩ n_X5_kindOf (Nat.le_of_ble_eq_true rfl) ?_
    refine m_kindOf hM hw hc h0 ?_
    refine ⟨_, rfl, ?_⟩
    refine X.iload_n dX5_noWrite_56 rfl ?_
    refine X.cS2i (k' := kX5_noTake) dX5_noWrite_57 v_X5_noTake wm_X5_117 wt_X5_noTake ⟨Nat.le_of_ble_eq_true rfl, Nat.le_of_ble_eq_true rfl⟩ n_X5_noTake (Nat.le_of_ble_eq_true rfl) ?_
    refine m_noTake lk hK ?_
    refine ⟨_, rfl, ?_⟩
    refine X.ret dX5_noWrite_60 ⟨trivial, ?_⟩
    unfold noWriteM at hq
    rw [if_pos h0, if_neg h1] at hq
    first
      | (rw [if_neg (fun e => c43 (by rw [e]; decide))] at hq; exact hq)
      | (rw [if_pos (nI_le0 c43 (by have := noPlace_le μ c i; omega))] at hq; exact hq)
  · refine X.iload dX5_noWrite_46 rfl ?_
    refine X.goto (tgt := 60) dX5_noWrite_48 (by decide) ?_
    refine X.ret dX5_noWrite_60 ⟨trivial, ?_⟩
    unfold noWriteM at hq
    rw [if_pos h0, if_neg h1] at hq
    first
      | (rw [if_neg (fun e => c43 (by rw [e]; decide))] at hq; exact hq)
      | (rw [if_pos (nI_le0 c43 (by have := noPlace_le μ c i; omega))] at hq; exact hq)
theorem m_noWrite {c K : Nat} {i : Int32} {μ : xM} {Q : Option Value → xM → Prop} (hM : ShM μ) (hw : WFt μ) (hc : c < 16) (hK : K ≤ 12) (hq : Q (some (.int (nI (noWriteM μ c i K)))) μ) : Mt kX5_noWrite [.ref 44, .int (nI c), .int i, .int (nI K)] μ Q := by
  by_cases h0 : noTapeM μ c = 0
  · by_cases h1 : kd μ (tp μ c) < 8 ∧ K = 11
    · exact m_noWrite2 hM hw hc hK h0 h1 hq
    · by_cases h8 : kd μ (tp μ c) < 8
      · exact m_noWrite3 hM hw hc hK h0 h1 h8 hq
      · exact m_noWrite4 hM hw hc hK h0 h1 h8 hq
  · exact m_noWrite1 hM hw hc hK h0 hq
set_option maxRecDepth 100000 in
set_option maxHeartbeats 4000000 in
theorem m_writes {c K : Nat} {i : Int32} {v : Int64} {μ : xM} {Q : Option Value → xM → Prop} (hM : ShM μ) (hw : WFt μ) (hc : c < 16) (hK : K ≤ 12) (hq : Q (some (.int (nI (noWriteM μ c i K)))) (writesM μ c i K v)) : Mt kX5_writes [.ref 44, .int (nI c), .int i, .int (nI K), .long v] μ Q := by
  by_cases hz : noWriteM μ c i K = 0
  · obtain ⟨hp, -⟩ := noWrite_0 hz
    obtain ⟨h0, hr, ei, hi⟩ := noPlace_0 hp
    obtain ⟨ht, et⟩ := hw.1 c hc h0
    obtain ⟨⟨ek, lk⟩, es, ls⟩ := hw.2.1 _ ht
    unfold writesM at hq
    rw [if_pos hz] at hq
    generalize hj : ix i = j at ei hi hr hq
    subst ei
    refine Mt.enter rfl (Nat.le_of_ble_eq_true rfl) ?_
    refine X.aload_n dX5_writes_0 rfl ?_
    refine X.iload_n dX5_writes_1 rfl ?_
    refine X.iload_n dX5_writes_2 rfl ?_
    refine X.iload_n dX5_writes_3 rfl ?_
    refine X.cV3i (k' := kX5_noWrite) dX5_writes_4 (hM.1 44 (by decide) (by decide)) ⟨by decide, rfl⟩ v_X5_noWrite wm_X5_120 wi_X5_noWrite ws_X5_noWrite ⟨Nat.le_of_ble_eq_true rfl, Nat.le_of_ble_eq_true rfl⟩ n_X5_noWrite (Nat.le_of_ble_eq_true rfl) ?_
    refine m_noWrite hM hw hc hK ?_
    refine ⟨_, rfl, ?_⟩
    refine X.istore dX5_writes_7 (Nat.le_of_ble_eq_true rfl) ?_
    refine X.iload dX5_writes_9 rfl ?_
    refine X.if_ne_f (tgt := 35) dX5_writes_11 (by decide) ((by rw [hz]; rfl)) ?_
    refine X.aload_n dX5_writes_14 rfl ?_
    refine X.getR (b := 48) (kf := 3) dX5_writes_15 (hM.1 44 (by decide) (by decide)) (by decide) (by decide) rfl wf_X5_20 (hM.2 3 (by decide)) ?_
    refine X.aload_n dX5_writes_18 rfl ?_
    refine X.iload_n dX5_writes_19 rfl ?_
    refine X.iload_n dX5_writes_20 rfl ?_
    refine X.cV2i (k' := kX5_at) dX5_writes_21 (hM.1 44 (by decide) (by decide)) ⟨by decide, rfl⟩ v_X5_at wm_X5_124 wi_X5_at ws_X5_at ⟨Nat.le_of_ble_eq_true rfl, Nat.le_of_ble_eq_true rfl⟩ n_X5_at (Nat.le_of_ble_eq_true rfl) ?_
    refine m_at hM hw hc h0 ?_
    refine ⟨_, rfl, ?_⟩
    refine X.aload_n dX5_writes_24 rfl ?_
    refine X.iload_n dX5_writes_25 rfl ?_
    refine X.cV1i (k' := kX5_kindOf) dX5_writes_26 (hM.1 44 (by decide) (by decide)) ⟨by decide, rfl⟩ v_X5_kindOf wm_X5_110 wi_X5_kindOf ws_X5_kindOf ⟨Nat.le_of_ble_eq_true rfl, Nat.le_of_ble_eq_true rfl⟩ n_X5_kindOf (Nat.le_of_ble_eq_true rfl) ?_
    refine m_kindOf hM hw hc h0 ?_
    refine ⟨_, rfl, ?_⟩
    refine X.lload dX5_writes_29 rfl ?_
    refine X.cS2l (k' := kX5_kept) dX5_writes_31 v_X5_kept wm_X5_127 wt_X5_kept ⟨Nat.le_of_ble_eq_true rfl, Nat.le_of_ble_eq_true rfl⟩ n_X5_kept (Nat.le_of_ble_eq_true rfl) ?_
    refine m_kept lk ?_
    refine ⟨_, rfl, ?_⟩
    refine X.last dX5_writes_34 (hM.1 48 (by decide) (by decide)) (rfl) (cell_in ht (Nat.lt_of_lt_of_le hi ls)) (by decide) ?_
    refine X.iload dX5_writes_35 rfl ?_
    refine X.ret dX5_writes_37 ⟨trivial, ?_⟩
    exact hq
  · unfold writesM at hq
    rw [if_neg hz] at hq
    refine Mt.enter rfl (Nat.le_of_ble_eq_true rfl) ?_
    refine X.aload_n dX5_writes_0 rfl ?_
    refine X.iload_n dX5_writes_1 rfl ?_
    refine X.iload_n dX5_writes_2 rfl ?_
    refine X.iload_n dX5_writes_3 rfl ?_
    refine X.cV3i (k' := kX5_noWrite) dX5_writes_4 (hM.1 44 (by decide) (by decide)) ⟨by decide, rfl⟩ v_X5_noWrite wm_X5_120 wi_X5_noWrite ws_X5_noWrite ⟨Nat.le_of_ble_eq_true rfl, Nat.le_of_ble_eq_true rfl⟩ n_X5_noWrite (Nat.le_of_ble_eq_true rfl) ?_
    refine m_noWrite hM hw hc hK ?_
    refine ⟨_, rfl, ?_⟩
    refine X.istore dX5_writes_7 (Nat.le_of_ble_eq_true rfl) ?_
    refine X.iload dX5_writes_9 rfl ?_
    refine X.if_ne_t (tgt := 35) dX5_writes_11 (by decide) (nI_neq (b := 0) hz (by have := noWrite_le μ c i K; omega) (by decide)) ?_
    refine X.iload dX5_writes_35 rfl ?_
    refine X.ret dX5_writes_37 ⟨trivial, ?_⟩
    exact hq
set_option maxRecDepth 100000 in
set_option maxHeartbeats 4000000 in
theorem m_passes {c d : Nat} {i j : Int32} {μ : xM} {Q : Option Value → xM → Prop} (hM : ShM μ) (hw : WFt μ) (hc : c < 16) (hd : d < 16) (hq : Q (some (.int (nI (noPassM μ c i d j)))) (passM μ c i d j)) : Mt kX5_passes [.ref 44, .int (nI c), .int i, .int (nI d), .int j] μ Q := by
  by_cases hz : noPlaceM μ c i = 0
  · obtain ⟨h0, hr, ei, hi⟩ := noPlace_0 hz
    obtain ⟨ht, et⟩ := hw.1 c hc h0
    obtain ⟨⟨ek, lk⟩, es, ls⟩ := hw.2.1 _ ht
    unfold noPassM passM at hq
    rw [if_pos hz, if_pos hz] at hq
    generalize hj : ix i = i0 at ei hi hr hq
    subst ei
    refine Mt.enter rfl (Nat.le_of_ble_eq_true rfl) ?_
    refine X.aload_n dX5_passes_0 rfl ?_
    refine X.iload_n dX5_passes_1 rfl ?_
    refine X.iload_n dX5_passes_2 rfl ?_
    refine X.cV2i (k' := kX5_noPlace) dX5_passes_3 (hM.1 44 (by decide) (by decide)) ⟨by decide, rfl⟩ v_X5_noPlace wm_X5_113 wi_X5_noPlace ws_X5_noPlace ⟨Nat.le_of_ble_eq_true rfl, Nat.le_of_ble_eq_true rfl⟩ n_X5_noPlace (Nat.le_of_ble_eq_true rfl) ?_
    refine m_noPlace hM hw hc ?_
    refine ⟨_, rfl, ?_⟩
    refine X.istore dX5_passes_6 (Nat.le_of_ble_eq_true rfl) ?_
    refine X.iload dX5_passes_8 rfl ?_
    refine X.if_le_t (tgt := 18) dX5_passes_10 (by decide) ((by rw [hz]; decide)) ?_
    refine X.aload_n dX5_passes_18 rfl ?_
    refine X.iload_n dX5_passes_19 rfl ?_
    refine X.iload dX5_passes_20 rfl ?_
    refine X.aload_n dX5_passes_22 rfl ?_
    refine X.aload_n dX5_passes_23 rfl ?_
    refine X.getR (b := 50) (kf := 6) dX5_passes_24 (hM.1 44 (by decide) (by decide)) (by decide) (by decide) rfl wf_X5_27 (hM.2 6 (by decide)) ?_
    refine X.iload_n dX5_passes_27 rfl ?_
    refine X.iald dX5_passes_28 (hM.1 50 (by decide) (by decide)) (rfl) (hc) (by decide) ?_
    refine X.iload_n dX5_passes_29 rfl ?_
    refine X.cV2i (k' := kX5_cellKind) dX5_passes_30 (hM.1 44 (by decide) (by decide)) ⟨by decide, rfl⟩ v_X5_cellKind wm_X5_130 wi_X5_cellKind ws_X5_cellKind ⟨Nat.le_of_ble_eq_true rfl, Nat.le_of_ble_eq_true rfl⟩ n_X5_cellKind (Nat.le_of_ble_eq_true rfl) ?_
    rw [et]
    refine m_cellKind hM hw ht hi ?_
    refine ⟨_, rfl, ?_⟩
    refine X.aload_n dX5_passes_33 rfl ?_
    refine X.getR (b := 48) (kf := 3) dX5_passes_34 (hM.1 44 (by decide) (by decide)) (by decide) (by decide) rfl wf_X5_20 (hM.2 3 (by decide)) ?_
    refine X.aload_n dX5_passes_37 rfl ?_
    refine X.iload_n dX5_passes_38 rfl ?_
    refine X.iload_n dX5_passes_39 rfl ?_
    refine X.cV2i (k' := kX5_at) dX5_passes_40 (hM.1 44 (by decide) (by decide)) ⟨by decide, rfl⟩ v_X5_at wm_X5_124 wi_X5_at ws_X5_at ⟨Nat.le_of_ble_eq_true rfl, Nat.le_of_ble_eq_true rfl⟩ n_X5_at (Nat.le_of_ble_eq_true rfl) ?_
    refine m_at hM hw hc h0 ?_
    refine ⟨_, rfl, ?_⟩
    refine X.lald dX5_passes_43 (hM.1 48 (by decide) (by decide)) (rfl) (cell_in ht (Nat.lt_of_lt_of_le hi ls)) (by decide) ?_
    refine X.cV4i (k' := kX5_writes) dX5_passes_44 (hM.1 44 (by decide) (by decide)) ⟨by decide, rfl⟩ v_X5_writes wm_X5_133 wi_X5_writes ws_X5_writes ⟨Nat.le_of_ble_eq_true rfl, Nat.le_of_ble_eq_true rfl⟩ n_X5_writes (Nat.le_of_ble_eq_true rfl) ?_
    refine m_writes hM hw hd (Nat.le_trans cellKind_le (by decide)) ?_
    refine ⟨_, rfl, ?_⟩
    refine X.ret dX5_passes_47 ⟨trivial, ?_⟩
    exact hq
  · unfold noPassM passM at hq
    rw [if_neg hz, if_neg hz] at hq
    refine Mt.enter rfl (Nat.le_of_ble_eq_true rfl) ?_
    refine X.aload_n dX5_passes_0 rfl ?_
    refine X.iload_n dX5_passes_1 rfl ?_
    refine X.iload_n dX5_passes_2 rfl ?_
    refine X.cV2i (k' := kX5_noPlace) dX5_passes_3 (hM.1 44 (by decide) (by decide)) ⟨by decide, rfl⟩ v_X5_noPlace wm_X5_113 wi_X5_noPlace ws_X5_noPlace ⟨Nat.le_of_ble_eq_true rfl, Nat.le_of_ble_eq_true rfl⟩ n_X5_noPlace (Nat.le_of_ble_eq_true rfl) ?_
    refine m_noPlace hM hw hc ?_
    refine ⟨_, rfl, ?_⟩
    refine X.istore dX5_passes_6 (Nat.le_of_ble_eq_true rfl) ?_
    refine X.iload dX5_passes_8 rfl ?_
    refine X.if_le_f (tgt := 18) dX5_passes_10 (by decide) (fun q => hz (nI_le0 q (by have := noPlace_le μ c i; omega))) ?_
    refine X.iload dX5_passes_13 rfl ?_
    refine X.goto (tgt := 47) dX5_passes_15 (by decide) ?_
    refine X.ret dX5_passes_47 ⟨trivial, ?_⟩
    exact hq
set_option maxRecDepth 100000 in
set_option maxHeartbeats 4000000 in
theorem m_noPlain1 {c : Nat} {i : Int32} {μ : xM} {Q : Option Value → xM → Prop} (hM : ShM μ) (hw : WFt μ) (hc : c < 16) (h0 : noTapeM μ c = 0) (h8 : kd μ (tp μ c) < 8) (hq : Q (some (.int (nI (noPlainM μ c i)))) μ) : Mt kX5_noPlain [.ref 44, .int (nI c), .int i] μ Q := by
  obtain ⟨ht, et⟩ := hw.1 c hc h0
  obtain ⟨⟨ek, lk⟩, es, ls⟩ := hw.2.1 _ ht
  refine Mt.enter rfl (Nat.le_of_ble_eq_true rfl) ?_
  refine X.aload_n dX5_noPlain_0 rfl ?_
  refine X.iload_n dX5_noPlain_1 rfl ?_
  refine X.cV1i (k' := kX5_noTape) dX5_noPlain_2 (hM.1 44 (by decide) (by decide)) ⟨by decide, rfl⟩ v_X5_noTape wm_X5_102 wi_X5_noTape ws_X5_noTape ⟨Nat.le_of_ble_eq_true rfl, Nat.le_of_ble_eq_true rfl⟩ n_X5_noTape (Nat.le_of_ble_eq_true rfl) ?_
  refine m_noTape hM hc ?_
  refine ⟨_, rfl, ?_⟩
  refine X.istore_n dX5_noPlain_5 (Nat.le_of_ble_eq_true rfl) ?_
  refine X.iload_n dX5_noPlain_6 rfl ?_
  refine X.if_ne_f (tgt := 22) dX5_noPlain_7 (by decide) ((by rw [h0]; rfl)) ?_
  refine X.aload_n dX5_noPlain_10 rfl ?_
  refine X.iload_n dX5_noPlain_11 rfl ?_
  refine X.cV1i (k' := kX5_kindOf) dX5_noPlain_12 (hM.1 44 (by decide) (by decide)) ⟨by decide, rfl⟩ v_X5_kindOf wm_X5_110 wi_X5_kindOf ws_X5_kindOf ⟨Nat.le_of_ble_eq_true rfl, Nat.le_of_ble_eq_true rfl⟩ n_X5_kindOf (Nat.le_of_ble_eq_true rfl) ?_
  refine m_kindOf hM hw hc h0 ?_
  refine ⟨_, rfl, ?_⟩
  refine X.bipush (v := 7) dX5_noPlain_15 (by decide) ?_
  refine X.icmp_le_t (tgt := 22) dX5_noPlain_17 (by decide) (nI_le (a := kd μ (tp μ c)) (b := 7) (by omega) (by decide)) ?_
  refine X.iload_n dX5_noPlain_22 rfl ?_
  refine X.if_le_t (tgt := 30) dX5_noPlain_23 (by decide) ((by rw [h0]; decide)) ?_
  refine X.aload_n dX5_noPlain_30 rfl ?_
  refine X.iload_n dX5_noPlain_31 rfl ?_
  refine X.iload_n dX5_noPlain_32 rfl ?_
  refine X.cV2i (k' := kX5_noPlace) dX5_noPlain_33 (hM.1 44 (by decide) (by decide)) ⟨by decide, rfl⟩ v_X5_noPlace wm_X5_113 wi_X5_noPlace ws_X5_noPlace ⟨Nat.le_of_ble_eq_true rfl, Nat.le_of_ble_eq_true rfl⟩ n_X5_noPlace (Nat.le_of_ble_eq_true rfl) ?_
  refine m_noPlace hM hw hc ?_
  refine ⟨_, rfl, ?_⟩
  refine X.ret dX5_noPlain_36 ⟨trivial, ?_⟩
  unfold noPlainM at hq
  rw [if_pos h0, if_pos h8] at hq
  exact hq
set_option maxRecDepth 100000 in
set_option maxHeartbeats 4000000 in
theorem m_noPlain2 {c : Nat} {i : Int32} {μ : xM} {Q : Option Value → xM → Prop} (hM : ShM μ) (hw : WFt μ) (hc : c < 16) (h0 : noTapeM μ c = 0) (h8 : ¬ kd μ (tp μ c) < 8) (hq : Q (some (.int (nI (noPlainM μ c i)))) μ) : Mt kX5_noPlain [.ref 44, .int (nI c), .int i] μ Q := by
  obtain ⟨ht, et⟩ := hw.1 c hc h0
  obtain ⟨⟨ek, lk⟩, es, ls⟩ := hw.2.1 _ ht
  refine Mt.enter rfl (Nat.le_of_ble_eq_true rfl) ?_
  refine X.aload_n dX5_noPlain_0 rfl ?_
  refine X.iload_n dX5_noPlain_1 rfl ?_
  refine X.cV1i (k' := kX5_noTape) dX5_noPlain_2 (hM.1 44 (by decide) (by decide)) ⟨by decide, rfl⟩ v_X5_noTape wm_X5_102 wi_X5_noTape ws_X5_noTape ⟨Nat.le_of_ble_eq_true rfl, Nat.le_of_ble_eq_true rfl⟩ n_X5_noTape (Nat.le_of_ble_eq_true rfl) ?_
  refine m_noTape hM hc ?_
  refine ⟨_, rfl, ?_⟩
  refine X.istore_n dX5_noPlain_5 (Nat.le_of_ble_eq_true rfl) ?_
  refine X.iload_n dX5_noPlain_6 rfl ?_
  refine X.if_ne_f (tgt := 22) dX5_noPlain_7 (by decide) ((by rw [h0]; rfl)) ?_
  refine X.aload_n dX5_noPlain_10 rfl ?_
  refine X.iload_n dX5_noPlain_11 rfl ?_
  refine X.cV1i (k' := kX5_kindOf) dX5_noPlain_12 (hM.1 44 (by decide) (by decide)) ⟨by decide, rfl⟩ v_X5_kindOf wm_X5_110 wi_X5_kindOf ws_X5_kindOf ⟨Nat.le_of_ble_eq_true rfl, Nat.le_of_ble_eq_true rfl⟩ n_X5_kindOf (Nat.le_of_ble_eq_true rfl) ?_
  refine m_kindOf hM hw hc h0 ?_
  refine ⟨_, rfl, ?_⟩
  refine X.bipush (v := 7) dX5_noPlain_15 (by decide) ?_
  refine X.icmp_le_f (tgt := 22) dX5_noPlain_17 (by decide) (nI_ge (a := 7) (b := kd μ (tp μ c)) (by omega) (by omega)) ?_
  refine X.iconst (v := 2) dX5_noPlain_20 (by decide) ?_
  refine X.istore_n dX5_noPlain_21 (Nat.le_of_ble_eq_true rfl) ?_
  refine X.iload_n dX5_noPlain_22 rfl ?_
  refine X.if_le_f (tgt := 30) dX5_noPlain_23 (by decide) ((by decide)) ?_
  refine X.iload_n dX5_noPlain_26 rfl ?_
  refine X.goto (tgt := 36) dX5_noPlain_27 (by decide) ?_
  refine X.ret dX5_noPlain_36 ⟨trivial, ?_⟩
  unfold noPlainM at hq
  rw [if_pos h0, if_neg h8] at hq
  exact hq
set_option maxRecDepth 100000 in
set_option maxHeartbeats 4000000 in
theorem m_noPlain3 {c : Nat} {i : Int32} {μ : xM} {Q : Option Value → xM → Prop} (hM : ShM μ) (hw : WFt μ) (hc : c < 16) (h0 : ¬ noTapeM μ c = 0) (hq : Q (some (.int (nI (noPlainM μ c i)))) μ) : Mt kX5_noPlain [.ref 44, .int (nI c), .int i] μ Q := by
  refine Mt.enter rfl (Nat.le_of_ble_eq_true rfl) ?_
  refine X.aload_n dX5_noPlain_0 rfl ?_
  refine X.iload_n dX5_noPlain_1 rfl ?_
  refine X.cV1i (k' := kX5_noTape) dX5_noPlain_2 (hM.1 44 (by decide) (by decide)) ⟨by decide, rfl⟩ v_X5_noTape wm_X5_102 wi_X5_noTape ws_X5_noTape ⟨Nat.le_of_ble_eq_true rfl, Nat.le_of_ble_eq_true rfl⟩ n_X5_noTape (Nat.le_of_ble_eq_true rfl) ?_
  refine m_noTape hM hc ?_
  refine ⟨_, rfl, ?_⟩
  refine X.istore_n dX5_noPlain_5 (Nat.le_of_ble_eq_true rfl) ?_
  refine X.iload_n dX5_noPlain_6 rfl ?_
  refine X.if_ne_t (tgt := 22) dX5_noPlain_7 (by decide) (nI_neq (b := 0) h0 (by have := noTapeM_le μ c; omega) (by decide)) ?_
  refine X.iload_n dX5_noPlain_22 rfl ?_
  refine X.if_le_f (tgt := 30) dX5_noPlain_23 (by decide) (fun q => h0 (nI_le0 q (by have := noTapeM_le μ c; omega))) ?_
  refine X.iload_n dX5_noPlain_26 rfl ?_
  refine X.goto (tgt := 36) dX5_noPlain_27 (by decide) ?_
  refine X.ret dX5_noPlain_36 ⟨trivial, ?_⟩
  unfold noPlainM at hq
  rw [if_neg h0] at hq
  exact hq
theorem m_noPlain {c : Nat} {i : Int32} {μ : xM} {Q : Option Value → xM → Prop} (hM : ShM μ) (hw : WFt μ) (hc : c < 16) (hq : Q (some (.int (nI (noPlainM μ c i)))) μ) : Mt kX5_noPlain [.ref 44, .int (nI c), .int i] μ Q := by
  by_cases h0 : noTapeM μ c = 0
  · by_cases h8 : kd μ (tp μ c) < 8
    · exact m_noPlain1 hM hw hc h0 h8 hq
    · exact m_noPlain2 hM hw hc h0 h8 hq
  · exact m_noPlain3 hM hw hc h0 hq
