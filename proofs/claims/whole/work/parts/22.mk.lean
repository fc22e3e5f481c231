/-! the reference: what its calls answer, 2 (laid by wip/whole/mkmodelb.py) -/
def tag1M (μ : xM) (s : Int32) : xM := sI (sI μ 44 4 (mI μ 44 4 + 1)) 49 (gM μ + 1) s
def tagK (s : Int32) : Nat := if s = 0 then 8 else 9
def WFg (μ : xM) : Prop := mI μ 44 4 = nI (gM μ) ∧ gM μ ≤ 200
def rackK (μ : xM) (b : Nat) : Nat := if mI μ 50 b = -1 then 11 else if mI μ 50 b = -2 then 12 else if kd μ (tp μ b) = 4 then 10 else 12
def rackV (μ : xM) (b : Nat) : Int64 := if rackK μ b = 10 then (mI μ 50 b).toInt64 + 1 else 0
theorem rackK_le (μ : xM) (b : Nat) : rackK μ b ≤ 12 := by
  unfold rackK
  split
  · omega
  · split
    · omega
    · split <;> omega
theorem noTape_of {μ : xM} {b : Nat} (h1 : ¬ mI μ 50 b = -1) (h2 : ¬ mI μ 50 b = -2) : noTapeM μ b = 0 := by
  unfold noTapeM
  rw [if_neg h1, if_neg h2]
theorem neg1_ne2 : ¬ (-1 : Int32) = -2 := by decide
set_option maxRecDepth 100000 in
set_option maxHeartbeats 4000000 in
theorem m_tag_o {c i s : Int32} {μ : xM} {Q : Option Value → xM → Prop} (hc : rng c 16 = none) (hq : Q (some (.int (-1))) (μ)) : Mt kX5_tag [.ref 44, .int (c), .int (i), .int (s)] μ Q := by
  refine Mt.enter rfl (Nat.le_of_ble_eq_true rfl) ?_
  refine X.iload_n dX5_tag_0 rfl ?_
  refine X.cS1i (k' := kX5_isChannel) dX5_tag_1 v_X5_isChannel wm_X5_137 wt_X5_isChannel ⟨Nat.le_of_ble_eq_true rfl, Nat.le_of_ble_eq_true rfl⟩ n_X5_isChannel (Nat.le_of_ble_eq_true rfl) ?_
  refine m_isChannel_f hc ?_
  refine ⟨_, rfl, ?_⟩
  refine X.if_ne_f (tgt := 9) dX5_tag_4 (by decide) ((by decide)) ?_
  refine X.iconst (v := -1) dX5_tag_7 (by decide) ?_
  refine X.ret dX5_tag_8 ⟨trivial, ?_⟩
  exact hq
set_option maxRecDepth 100000 in
set_option maxHeartbeats 4000000 in
theorem m_tag_full {a : Nat} {i s : Int32} {μ : xM} {Q : Option Value → xM → Prop} (hM : ShM μ) (hg : WFg μ) (ha : a < 16) (h200 : gM μ = 200) (hq : Q (some (.int (-2))) (μ)) : Mt kX5_tag [.ref 44, .int (nI a), .int (i), .int (s)] μ Q := by
  refine Mt.enter rfl (Nat.le_of_ble_eq_true rfl) ?_
  refine X.iload_n dX5_tag_0 rfl ?_
  refine X.cS1i (k' := kX5_isChannel) dX5_tag_1 v_X5_isChannel wm_X5_137 wt_X5_isChannel ⟨Nat.le_of_ble_eq_true rfl, Nat.le_of_ble_eq_true rfl⟩ n_X5_isChannel (Nat.le_of_ble_eq_true rfl) ?_
  refine m_isChannel_t (chIn ha) ?_
  refine ⟨_, rfl, ?_⟩
  refine X.if_ne_t (tgt := 9) dX5_tag_4 (by decide) ((by decide)) ?_
  refine X.aload_n dX5_tag_9 rfl ?_
  refine X.getI (kf := 4) dX5_tag_10 (hM.1 44 (by decide) (by decide)) (by decide) (by decide) rfl wf_X5_153 ?_
  refine X.sipush (v := 200) dX5_tag_13 (by decide) ?_
  refine X.icmp_ne_f (tgt := 22) dX5_tag_16 (by decide) ((by rw [hg.1, h200]; rfl)) ?_
  refine X.bipush (v := -2) dX5_tag_19 (by decide) ?_
  refine X.ret dX5_tag_21 ⟨trivial, ?_⟩
  exact hq
set_option maxRecDepth 100000 in
set_option maxHeartbeats 4000000 in
theorem m_tag_in0 {a : Nat} {i s : Int32} {μ : xM} {Q : Option Value → xM → Prop} (hM : ShM μ) (hw : WFt μ) (hg : WFg μ) (ha : a < 16) (h200 : ¬ gM μ = 200) (hs : s = 0) (hz : noWriteM μ a i (tagK s) = 0) (hq : Q (some (.int (nI (gM μ + 1)))) (metM (writesM (tag1M μ s) a i (tagK s) (lN (gM μ + 1))) (noWriteM μ a i (tagK s)))) : Mt kX5_tag [.ref 44, .int (nI a), .int (i), .int (s)] μ Q := by
  have hl := hg.2
  have hw2 : WFt (tag1M μ s) := hw
  obtain ⟨w, ew⟩ := writes_form (tag1M μ s) a i (tagK s) (lN (gM μ + 1))
  have eg : mI μ 44 4 + 1 = nI (gM μ + 1) := by rw [hg.1, nI_1]
  have el : (mI μ 44 4 + 1).toInt64 = lN (gM μ + 1) := by rw [eg]; exact nI_l (by omega)
  have hwl := noWrite_le μ a i (tagK s)
  have hK : tagK s = 8 := by rw [hs]; rfl
  rw [ew] at hq
  refine Mt.enter rfl (Nat.le_of_ble_eq_true rfl) ?_
  refine X.iload_n dX5_tag_0 rfl ?_
  refine X.cS1i (k' := kX5_isChannel) dX5_tag_1 v_X5_isChannel wm_X5_137 wt_X5_isChannel ⟨Nat.le_of_ble_eq_true rfl, Nat.le_of_ble_eq_true rfl⟩ n_X5_isChannel (Nat.le_of_ble_eq_true rfl) ?_
  refine m_isChannel_t (chIn ha) ?_
  refine ⟨_, rfl, ?_⟩
  refine X.if_ne_t (tgt := 9) dX5_tag_4 (by decide) ((by decide)) ?_
  refine X.aload_n dX5_tag_9 rfl ?_
  refine X.getI (kf := 4) dX5_tag_10 (hM.1 44 (by decide) (by decide)) (by decide) (by decide) rfl wf_X5_153 ?_
  refine X.sipush (v := 200) dX5_tag_13 (by decide) ?_
  refine X.icmp_ne_t (tgt := 22) dX5_tag_16 (by decide) ((by rw [hg.1]; exact nI_neq h200 (by omega) (by decide))) ?_
  refine X.aload_n dX5_tag_22 rfl ?_
  refine X.dup dX5_tag_23 ?_
  refine X.getI (kf := 4) dX5_tag_24 (hM.1 44 (by decide) (by decide)) (by decide) (by decide) rfl wf_X5_153 ?_
  refine X.iconst (v := 1) dX5_tag_27 (by decide) ?_
  refine X.iadd dX5_tag_28 ?_
  refine X.putI (kf := 4) dX5_tag_29 (hM.1 44 (by decide) (by decide)) (by decide) (by decide) rfl (Or.inl rfl) ⟨rfl, rfl⟩ wf_X5_153 ?_
  refine X.aload_n dX5_tag_32 rfl ?_
  refine X.getR (b := 49) (kf := 5) dX5_tag_33 (hM.1 44 (by decide) (by decide)) (by decide) (by decide) rfl wf_X5_24 (hM.2 5 (by decide)) ?_
  refine X.aload_n dX5_tag_36 rfl ?_
  refine X.getI (kf := 4) dX5_tag_37 (hM.1 44 (by decide) (by decide)) (by decide) (by decide) rfl wf_X5_153 ?_
  refine X.iload_n dX5_tag_40 rfl ?_
  refine X.zast dX5_tag_41 (hM.1 49 (by decide) (by decide)) (eg) (by omega) (by decide) (by rw [hs]; first | exact Or.inl rfl | exact Or.inr rfl) ?_
  refine X.aload_n dX5_tag_42 rfl ?_
  refine X.aload_n dX5_tag_43 rfl ?_
  refine X.iload_n dX5_tag_44 rfl ?_
  refine X.iload_n dX5_tag_45 rfl ?_
  refine X.iload_n dX5_tag_46 rfl ?_
  refine X.if_eq_t (tgt := 55) dX5_tag_47 (by decide) (hs) ?_
  refine X.bipush (v := 8) dX5_tag_55 (by decide) ?_
  refine X.aload_n dX5_tag_57 rfl ?_
  refine X.getI (kf := 4) dX5_tag_58 (hM.1 44 (by decide) (by decide)) (by decide) (by decide) rfl wf_X5_153 ?_
  refine X.i2l dX5_tag_61 ?_
  refine X.cV4i (k' := kX5_writes) dX5_tag_62 (hM.1 44 (by decide) (by decide)) ⟨by decide, rfl⟩ v_X5_writes wm_X5_133 wi_X5_writes ws_X5_writes ⟨Nat.le_of_ble_eq_true rfl, Nat.le_of_ble_eq_true rfl⟩ n_X5_writes (Nat.le_of_ble_eq_true rfl) ?_
  rw [show (mI (sI (sI μ 44 4 (mI μ 44 4 + 1)) 49 (gM μ + 1) s) 44 4).toInt64 = lN (gM μ + 1) from el]
  refine m_writes (μ := tag1M μ s) (K := 8) hM hw2 ha (by decide) ?_
  rw [show writesM (tag1M μ s) a i 8 (lN (gM μ + 1)) = sB (tag1M μ s) w by rw [← ew, hK]]
  rw [show noWriteM (tag1M μ s) a i 8 = noWriteM μ a i (tagK s) by rw [hK]; rfl]
  refine ⟨_, rfl, ?_⟩
  refine X.cV1i (k' := kX5_met) dX5_tag_65 (hM.1 44 (by decide) (by decide)) ⟨by decide, rfl⟩ v_X5_met wm_X5_141 wi_X5_met ws_X5_met ⟨Nat.le_of_ble_eq_true rfl, Nat.le_of_ble_eq_true rfl⟩ n_X5_met (Nat.le_of_ble_eq_true rfl) ?_
  refine m_met (μ := sB (tag1M μ s) w) hM hwl ?_
  refine ⟨_, rfl, ?_⟩
  refine X.istore dX5_tag_68 (Nat.le_of_ble_eq_true rfl) ?_
  refine X.iload dX5_tag_70 rfl ?_
  refine X.if_le_t (tgt := 83) dX5_tag_72 (by decide) ((by show nI (noWriteM μ a i (tagK s)) ≤ 0; rw [hz]; decide)) ?_
  refine X.aload_n dX5_tag_83 rfl ?_
  refine X.getI (kf := 4) dX5_tag_84 (hM.1 44 (by decide) (by decide)) (by decide) (by decide) rfl wf_X5_153 ?_
  refine X.ret dX5_tag_87 ⟨trivial, ?_⟩
  rw [show mI (metM (sB (tag1M μ s) w) (noWriteM μ a i (tagK s))) 44 4 = nI (gM μ + 1) from eg]
  exact hq
set_option maxRecDepth 100000 in
set_option maxHeartbeats 4000000 in
theorem m_tag_r0 {a : Nat} {i s : Int32} {μ : xM} {Q : Option Value → xM → Prop} (hM : ShM μ) (hw : WFt μ) (hg : WFg μ) (ha : a < 16) (h200 : ¬ gM μ = 200) (hs : s = 0) (hz : ¬ noWriteM μ a i (tagK s) = 0) (hq : Q (some (.int (rR (noWriteM μ a i (tagK s))))) (metM (writesM (tag1M μ s) a i (tagK s) (lN (gM μ + 1))) (noWriteM μ a i (tagK s)))) : Mt kX5_tag [.ref 44, .int (nI a), .int (i), .int (s)] μ Q := by
  have hl := hg.2
  have hw2 : WFt (tag1M μ s) := hw
  obtain ⟨w, ew⟩ := writes_form (tag1M μ s) a i (tagK s) (lN (gM μ + 1))
  have eg : mI μ 44 4 + 1 = nI (gM μ + 1) := by rw [hg.1, nI_1]
  have el : (mI μ 44 4 + 1).toInt64 = lN (gM μ + 1) := by rw [eg]; exact nI_l (by omega)
  have hwl := noWrite_le μ a i (tagK s)
  have hK : tagK s = 8 := by rw [hs]; rfl
  rw [ew] at hq
  refine Mt.enter rfl (Nat.le_of_ble_eq_true rfl) ?_
  refine X.iload_n dX5_tag_0 rfl ?_
  refine X.cS1i (k' := kX5_isChannel) dX5_tag_1 v_X5_isChannel wm_X5_137 wt_X5_isChannel ⟨Nat.le_of_ble_eq_true rfl, Nat.le_of_ble_eq_true rfl⟩ n_X5_isChannel (Nat.le_of_ble_eq_true rfl) ?_
  refine m_isChannel_t (chIn ha) ?_
  refine ⟨_, rfl, ?_⟩
  refine X.if_ne_t (tgt := 9) dX5_tag_4 (by decide) ((by decide)) ?_
  refine X.aload_n dX5_tag_9 rfl ?_
  refine X.getI (kf := 4) dX5_tag_10 (hM.1 44 (by decide) (by decide)) (by decide) (by decide) rfl wf_X5_153 ?_
  refine X.sipush (v := 200) dX5_tag_13 (by decide) ?_
  refine X.icmp_ne_t (tgt := 22) dX5_tag_16 (by decide) ((by rw [hg.1]; exact nI_neq h200 (by omega) (by decide))) ?_
  refine X.aload_n dX5_tag_22 rfl ?_
  refine X.dup dX5_tag_23 ?_
  refine X.getI (kf := 4) dX5_tag_24 (hM.1 44 (by decide) (by decide)) (by decide) (by decide) rfl wf_X5_153 ?_
  refine X.iconst (v := 1) dX5_tag_27 (by decide) ?_
  refine X.iadd dX5_tag_28 ?_
  refine X.putI (kf := 4) dX5_tag_29 (hM.1 44 (by decide) (by decide)) (by decide) (by decide) rfl (Or.inl rfl) ⟨rfl, rfl⟩ wf_X5_153 ?_
  refine X.aload_n dX5_tag_32 rfl ?_
  refine X.getR (b := 49) (kf := 5) dX5_tag_33 (hM.1 44 (by decide) (by decide)) (by decide) (by decide) rfl wf_X5_24 (hM.2 5 (by decide)) ?_
  refine X.aload_n dX5_tag_36 rfl ?_
  refine X.getI (kf := 4) dX5_tag_37 (hM.1 44 (by decide) (by decide)) (by decide) (by decide) rfl wf_X5_153 ?_
  refine X.iload_n dX5_tag_40 rfl ?_
  refine X.zast dX5_tag_41 (hM.1 49 (by decide) (by decide)) (eg) (by omega) (by decide) (by rw [hs]; first | exact Or.inl rfl | exact Or.inr rfl) ?_
  refine X.aload_n dX5_tag_42 rfl ?_
  refine X.aload_n dX5_tag_43 rfl ?_
  refine X.iload_n dX5_tag_44 rfl ?_
  refine X.iload_n dX5_tag_45 rfl ?_
  refine X.iload_n dX5_tag_46 rfl ?_
  refine X.if_eq_t (tgt := 55) dX5_tag_47 (by decide) (hs) ?_
  refine X.bipush (v := 8) dX5_tag_55 (by decide) ?_
  refine X.aload_n dX5_tag_57 rfl ?_
  refine X.getI (kf := 4) dX5_tag_58 (hM.1 44 (by decide) (by decide)) (by decide) (by decide) rfl wf_X5_153 ?_
  refine X.i2l dX5_tag_61 ?_
  refine X.cV4i (k' := kX5_writes) dX5_tag_62 (hM.1 44 (by decide) (by decide)) ⟨by decide, rfl⟩ v_X5_writes wm_X5_133 wi_X5_writes ws_X5_writes ⟨Nat.le_of_ble_eq_true rfl, Nat.le_of_ble_eq_true rfl⟩ n_X5_writes (Nat.le_of_ble_eq_true rfl) ?_
  rw [show (mI (sI (sI μ 44 4 (mI μ 44 4 + 1)) 49 (gM μ + 1) s) 44 4).toInt64 = lN (gM μ + 1) from el]
  refine m_writes (μ := tag1M μ s) (K := 8) hM hw2 ha (by decide) ?_
  rw [show writesM (tag1M μ s) a i 8 (lN (gM μ + 1)) = sB (tag1M μ s) w by rw [← ew, hK]]
  rw [show noWriteM (tag1M μ s) a i 8 = noWriteM μ a i (tagK s) by rw [hK]; rfl]
  refine ⟨_, rfl, ?_⟩
  refine X.cV1i (k' := kX5_met) dX5_tag_65 (hM.1 44 (by decide) (by decide)) ⟨by decide, rfl⟩ v_X5_met wm_X5_141 wi_X5_met ws_X5_met ⟨Nat.le_of_ble_eq_true rfl, Nat.le_of_ble_eq_true rfl⟩ n_X5_met (Nat.le_of_ble_eq_true rfl) ?_
  refine m_met (μ := sB (tag1M μ s) w) hM hwl ?_
  refine ⟨_, rfl, ?_⟩
  refine X.istore dX5_tag_68 (Nat.le_of_ble_eq_true rfl) ?_
  refine X.iload dX5_tag_70 rfl ?_
  refine X.if_le_f (tgt := 83) dX5_tag_72 (by decide) (fun q => hz (nI_le0 q (by have := noWrite_le μ a i (tagK s); omega))) ?_
  refine X.bipush (v := -10) dX5_tag_75 (by decide) ?_
  refine X.iload dX5_tag_77 rfl ?_
  refine X.isub dX5_tag_79 ?_
  refine X.goto (tgt := 87) dX5_tag_80 (by decide) ?_
  refine X.ret dX5_tag_87 ⟨trivial, ?_⟩
  exact hq
set_option maxRecDepth 100000 in
set_option maxHeartbeats 4000000 in
theorem m_tag_in1 {a : Nat} {i s : Int32} {μ : xM} {Q : Option Value → xM → Prop} (hM : ShM μ) (hw : WFt μ) (hg : WFg μ) (ha : a < 16) (h200 : ¬ gM μ = 200) (hs : s = 1) (hz : noWriteM μ a i (tagK s) = 0) (hq : Q (some (.int (nI (gM μ + 1)))) (metM (writesM (tag1M μ s) a i (tagK s) (lN (gM μ + 1))) (noWriteM μ a i (tagK s)))) : Mt kX5_tag [.ref 44, .int (nI a), .int (i), .int (s)] μ Q := by
  have hl := hg.2
  have hw2 : WFt (tag1M μ s) := hw
  obtain ⟨w, ew⟩ := writes_form (tag1M μ s) a i (tagK s) (lN (gM μ + 1))
  have eg : mI μ 44 4 + 1 = nI (gM μ + 1) := by rw [hg.1, nI_1]
  have el : (mI μ 44 4 + 1).toInt64 = lN (gM μ + 1) := by rw [eg]; exact nI_l (by omega)
  have hwl := noWrite_le μ a i (tagK s)
  have hK : tagK s = 9 := by rw [hs]; rfl
  rw [ew] at hq
  refine Mt.enter rfl (Nat.le_of_ble_eq_true rfl) ?_
  refine X.iload_n dX5_tag_0 rfl ?_
  refine X.cS1i (k' := kX5_isChannel) dX5_tag_1 v_X5_isChannel wm_X5_137 wt_X5_isChannel ⟨Nat.le_of_ble_eq_true rfl, Nat.le_of_ble_eq_true rfl⟩ n_X5_isChannel (Nat.le_of_ble_eq_true rfl) ?_
  refine m_isChannel_t (chIn ha) ?_
  refine ⟨_, rfl, ?_⟩
  refine X.if_ne_t (tgt := 9) dX5_tag_4 (by decide) ((by decide)) ?_
  refine X.aload_n dX5_tag_9 rfl ?_
  refine X.getI (kf := 4) dX5_tag_10 (hM.1 44 (by decide) (by decide)) (by decide) (by decide) rfl wf_X5_153 ?_
  refine X.sipush (v := 200) dX5_tag_13 (by decide) ?_
  refine X.icmp_ne_t (tgt := 22) dX5_tag_16 (by decide) ((by rw [hg.1]; exact nI_neq h200 (by omega) (by decide))) ?_
  refine X.aload_n dX5_tag_22 rfl ?_
  refine X.dup dX5_tag_23 ?_
  refine X.getI (kf := 4) dX5_tag_24 (hM.1 44 (by decide) (by decide)) (by decide) (by decide) rfl wf_X5_153 ?_
  refine X.iconst (v := 1) dX5_tag_27 (by decide) ?_
  refine X.iadd dX5_tag_28 ?_
  refine X.putI (kf := 4) dX5_tag_29 (hM.1 44 (by decide) (by decide)) (by decide) (by decide) rfl (Or.inl rfl) ⟨rfl, rfl⟩ wf_X5_153 ?_
  refine X.aload_n dX5_tag_32 rfl ?_
  refine X.getR (b := 49) (kf := 5) dX5_tag_33 (hM.1 44 (by decide) (by decide)) (by decide) (by decide) rfl wf_X5_24 (hM.2 5 (by decide)) ?_
  refine X.aload_n dX5_tag_36 rfl ?_
  refine X.getI (kf := 4) dX5_tag_37 (hM.1 44 (by decide) (by decide)) (by decide) (by decide) rfl wf_X5_153 ?_
  refine X.iload_n dX5_tag_40 rfl ?_
  refine X.zast dX5_tag_41 (hM.1 49 (by decide) (by decide)) (eg) (by omega) (by decide) (by rw [hs]; first | exact Or.inl rfl | exact Or.inr rfl) ?_
  refine X.aload_n dX5_tag_42 rfl ?_
  refine X.aload_n dX5_tag_43 rfl ?_
  refine X.iload_n dX5_tag_44 rfl ?_
  refine X.iload_n dX5_tag_45 rfl ?_
  refine X.iload_n dX5_tag_46 rfl ?_
  refine X.if_eq_f (tgt := 55) dX5_tag_47 (by decide) ((by rw [hs]; decide)) ?_
  refine X.bipush (v := 9) dX5_tag_50 (by decide) ?_
  refine X.goto (tgt := 57) dX5_tag_52 (by decide) ?_
  refine X.aload_n dX5_tag_57 rfl ?_
  refine X.getI (kf := 4) dX5_tag_58 (hM.1 44 (by decide) (by decide)) (by decide) (by decide) rfl wf_X5_153 ?_
  refine X.i2l dX5_tag_61 ?_
  refine X.cV4i (k' := kX5_writes) dX5_tag_62 (hM.1 44 (by decide) (by decide)) ⟨by decide, rfl⟩ v_X5_writes wm_X5_133 wi_X5_writes ws_X5_writes ⟨Nat.le_of_ble_eq_true rfl, Nat.le_of_ble_eq_true rfl⟩ n_X5_writes (Nat.le_of_ble_eq_true rfl) ?_
  rw [show (mI (sI (sI μ 44 4 (mI μ 44 4 + 1)) 49 (gM μ + 1) s) 44 4).toInt64 = lN (gM μ + 1) from el]
  refine m_writes (μ := tag1M μ s) (K := 9) hM hw2 ha (by decide) ?_
  rw [show writesM (tag1M μ s) a i 9 (lN (gM μ + 1)) = sB (tag1M μ s) w by rw [← ew, hK]]
  rw [show noWriteM (tag1M μ s) a i 9 = noWriteM μ a i (tagK s) by rw [hK]; rfl]
  refine ⟨_, rfl, ?_⟩
  refine X.cV1i (k' := kX5_met) dX5_tag_65 (hM.1 44 (by decide) (by decide)) ⟨by decide, rfl⟩ v_X5_met wm_X5_141 wi_X5_met ws_X5_met ⟨Nat.le_of_ble_eq_true rfl, Nat.le_of_ble_eq_true rfl⟩ n_X5_met (Nat.le_of_ble_eq_true rfl) ?_
  refine m_met (μ := sB (tag1M μ s) w) hM hwl ?_
  refine ⟨_, rfl, ?_⟩
  refine X.istore dX5_tag_68 (Nat.le_of_ble_eq_true rfl) ?_
  refine X.iload dX5_tag_70 rfl ?_
  refine X.if_le_t (tgt := 83) dX5_tag_72 (by decide) ((by show nI (noWriteM μ a i (tagK s)) ≤ 0; rw [hz]; decide)) ?_
  refine X.aload_n dX5_tag_83 rfl ?_
  refine X.getI (kf := 4) dX5_tag_84 (hM.1 44 (by decide) (by decide)) (by decide) (by decide) rfl wf_X5_153 ?_
  refine X.ret dX5_tag_87 ⟨trivial, ?_⟩
  rw [show mI (metM (sB (tag1M μ s) w) (noWriteM μ a i (tagK s))) 44 4 = nI (gM μ + 1) from eg]
  exact hq
set_option maxRecDepth 100000 in
set_option maxHeartbeats 4000000 in
theorem m_tag_r1 {a : Nat} {i s : Int32} {μ : xM} {Q : Option Value → xM → Prop} (hM : ShM μ) (hw : WFt μ) (hg : WFg μ) (ha : a < 16) (h200 : ¬ gM μ = 200) (hs : s = 1) (hz : ¬ noWriteM μ a i (tagK s) = 0) (hq : Q (some (.int (rR (noWriteM μ a i (tagK s))))) (metM (writesM (tag1M μ s) a i (tagK s) (lN (gM μ + 1))) (noWriteM μ a i (tagK s)))) : Mt kX5_tag [.ref 44, .int (nI a), .int (i), .int (s)] μ Q := by
  have hl := hg.2
  have hw2 : WFt (tag1M μ s) := hw
  obtain ⟨w, ew⟩ := writes_form (tag1M μ s) a i (tagK s) (lN (gM μ + 1))
  have eg : mI μ 44 4 + 1 = nI (gM μ + 1) := by rw [hg.1, nI_1]
  have el : (mI μ 44 4 + 1).toInt64 = lN (gM μ + 1) := by rw [eg]; exact nI_l (by omega)
  have hwl := noWrite_le μ a i (tagK s)
  have hK : tagK s = 9 := by rw [hs]; rfl
  rw [ew] at hq
  refine Mt.enter rfl (Nat.le_of_ble_eq_true rfl) ?_
  refine X.iload_n dX5_tag_0 rfl ?_
  refine X.cS1i (k' := kX5_isChannel) dX5_tag_1 v_X5_isChannel wm_X5_137 wt_X5_isChannel ⟨Nat.le_of_ble_eq_true rfl, Nat.le_of_ble_eq_true rfl⟩ n_X5_isChannel (Nat.le_of_ble_eq_true rfl) ?_
  refine m_isChannel_t (chIn ha) ?_
  refine ⟨_, rfl, ?_⟩
  refine X.if_ne_t (tgt := 9) dX5_tag_4 (by decide) ((by decide)) ?_
  refine X.aload_n dX5_tag_9 rfl ?_
  refine X.getI (kf := 4) dX5_tag_10 (hM.1 44 (by decide) (by decide)) (by decide) (by decide) rfl wf_X5_153 ?_
  refine X.sipush (v := 200) dX5_tag_13 (by decide) ?_
  refine X.icmp_ne_t (tgt := 22) dX5_tag_16 (by decide) ((by rw [hg.1]; exact nI_neq h200 (by omega) (by decide))) ?_
  refine X.aload_n dX5_tag_22 rfl ?_
  refine X.dup dX5_tag_23 ?_
  refine X.getI (kf := 4) dX5_tag_24 (hM.1 44 (by decide) (by decide)) (by decide) (by decide) rfl wf_X5_153 ?_
  refine X.iconst (v := 1) dX5_tag_27 (by decide) ?_
  refine X.iadd dX5_tag_28 ?_
  refine X.putI (kf := 4) dX5_tag_29 (hM.1 44 (by decide) (by decide)) (by decide) (by decide) rfl (Or.inl rfl) ⟨rfl, rfl⟩ wf_X5_153 ?_
  refine X.aload_n dX5_tag_32 rfl ?_
  refine X.getR (b := 49) (kf := 5) dX5_tag_33 (hM.1 44 (by decide) (by decide)) (by decide) (by decide) rfl wf_X5_24 (hM.2 5 (by decide)) ?_
  refine X.aload_n dX5_tag_36 rfl ?_
  refine X.getI (kf := 4) dX5_tag_37 (hM.1 44 (by decide) (by decide)) (by decide) (by decide) rfl wf_X5_153 ?_
  refine X.iload_n dX5_tag_40 rfl ?_
  refine X.zast dX5_tag_41 (hM.1 49 (by decide) (by decide)) (eg) (by omega) (by decide) (by rw [hs]; first | exact Or.inl rfl | exact Or.inr rfl) ?_
  refine X.aload_n dX5_tag_42 rfl ?_
  refine X.aload_n dX5_tag_43 rfl ?_
  refine X.iload_n dX5_tag_44 rfl ?_
  refine X.iload_n dX5_tag_45 rfl ?_
  refine X.iload_n dX5_tag_46 rfl ?_
  refine X.if_eq_f (tgt := 55) dX5_tag_47 (by decide) ((by rw [hs]; decide)) ?_
  refine X.bipush (v := 9) dX5_tag_50 (by decide) ?_
  refine X.goto (tgt := 57) dX5_tag_52 (by decide) ?_
  refine X.aload_n dX5_tag_57 rfl ?_
  refine X.getI (kf := 4) dX5_tag_58 (hM.1 44 (by decide) (by decide)) (by decide) (by decide) rfl wf_X5_153 ?_
  refine X.i2l dX5_tag_61 ?_
  refine X.cV4i (k' := kX5_writes) dX5_tag_62 (hM.1 44 (by decide) (by decide)) ⟨by decide, rfl⟩ v_X5_writes wm_X5_133 wi_X5_writes ws_X5_writes ⟨Nat.le_of_ble_eq_true rfl, Nat.le_of_ble_eq_true rfl⟩ n_X5_writes (Nat.le_of_ble_eq_true rfl) ?_
  rw [show (mI (sI (sI μ 44 4 (mI μ 44 4 + 1)) 49 (gM μ + 1) s) 44 4).toInt64 = lN (gM μ + 1) from el]
  refine m_writes (μ := tag1M μ s) (K := 9) hM hw2 ha (by decide) ?_
  rw [show writesM (tag1M μ s) a i 9 (lN (gM μ + 1)) = sB (tag1M μ s) w by rw [← ew, hK]]
  rw [show noWriteM (tag1M μ s) a i 9 = noWriteM μ a i (tagK s) by rw [hK]; rfl]
  refine ⟨_, rfl, ?_⟩
  refine X.cV1i (k' := kX5_met) dX5_tag_65 (hM.1 44 (by decide) (by decide)) ⟨by decide, rfl⟩ v_X5_met wm_X5_141 wi_X5_met ws_X5_met ⟨Nat.le_of_ble_eq_true rfl, Nat.le_of_ble_eq_true rfl⟩ n_X5_met (Nat.le_of_ble_eq_true rfl) ?_
  refine m_met (μ := sB (tag1M μ s) w) hM hwl ?_
  refine ⟨_, rfl, ?_⟩
  refine X.istore dX5_tag_68 (Nat.le_of_ble_eq_true rfl) ?_
  refine X.iload dX5_tag_70 rfl ?_
  refine X.if_le_f (tgt := 83) dX5_tag_72 (by decide) (fun q => hz (nI_le0 q (by have := noWrite_le μ a i (tagK s); omega))) ?_
  refine X.bipush (v := -10) dX5_tag_75 (by decide) ?_
  refine X.iload dX5_tag_77 rfl ?_
  refine X.isub dX5_tag_79 ?_
  refine X.goto (tgt := 87) dX5_tag_80 (by decide) ?_
  refine X.ret dX5_tag_87 ⟨trivial, ?_⟩
  exact hq
set_option maxRecDepth 100000 in
set_option maxHeartbeats 4000000 in
theorem m_rack_o1 {c i d : Int32} {μ : xM} {Q : Option Value → xM → Prop} (hc : rng c 16 = none) (hq : Q (some (.int (-1))) (μ)) : Mt kX5_rack [.ref 44, .int (c), .int (i), .int (d)] μ Q := by
  refine Mt.enter rfl (Nat.le_of_ble_eq_true rfl) ?_
  refine X.iload_n dX5_rack_0 rfl ?_
  refine X.cS1i (k' := kX5_isChannel) dX5_rack_1 v_X5_isChannel wm_X5_137 wt_X5_isChannel ⟨Nat.le_of_ble_eq_true rfl, Nat.le_of_ble_eq_true rfl⟩ n_X5_isChannel (Nat.le_of_ble_eq_true rfl) ?_
  refine m_isChannel_f hc ?_
  refine ⟨_, rfl, ?_⟩
  refine X.if_eq_t (tgt := 14) dX5_rack_4 (by decide) ((by decide)) ?_
  refine X.iconst (v := -1) dX5_rack_14 (by decide) ?_
  refine X.ret dX5_rack_15 ⟨trivial, ?_⟩
  exact hq
set_option maxRecDepth 100000 in
set_option maxHeartbeats 4000000 in
theorem m_rack_o2 {a : Nat} {i d : Int32} {μ : xM} {Q : Option Value → xM → Prop} (ha : a < 16) (hd : rng d 16 = none) (hq : Q (some (.int (-1))) (μ)) : Mt kX5_rack [.ref 44, .int (nI a), .int (i), .int (d)] μ Q := by
  refine Mt.enter rfl (Nat.le_of_ble_eq_true rfl) ?_
  refine X.iload_n dX5_rack_0 rfl ?_
  refine X.cS1i (k' := kX5_isChannel) dX5_rack_1 v_X5_isChannel wm_X5_137 wt_X5_isChannel ⟨Nat.le_of_ble_eq_true rfl, Nat.le_of_ble_eq_true rfl⟩ n_X5_isChannel (Nat.le_of_ble_eq_true rfl) ?_
  refine m_isChannel_t (chIn ha) ?_
  refine ⟨_, rfl, ?_⟩
  refine X.if_eq_f (tgt := 14) dX5_rack_4 (by decide) ((by decide)) ?_
  refine X.iload_n dX5_rack_7 rfl ?_
  refine X.cS1i (k' := kX5_isChannel) dX5_rack_8 v_X5_isChannel wm_X5_137 wt_X5_isChannel ⟨Nat.le_of_ble_eq_true rfl, Nat.le_of_ble_eq_true rfl⟩ n_X5_isChannel (Nat.le_of_ble_eq_true rfl) ?_
  refine m_isChannel_f hd ?_
  refine ⟨_, rfl, ?_⟩
  refine X.if_ne_f (tgt := 16) dX5_rack_11 (by decide) ((by decide)) ?_
  refine X.iconst (v := -1) dX5_rack_14 (by decide) ?_
  refine X.ret dX5_rack_15 ⟨trivial, ?_⟩
  exact hq
set_option maxRecDepth 100000 in
set_option maxHeartbeats 4000000 in
theorem m_rack_ni {a b : Nat} {i : Int32} {μ : xM} {Q : Option Value → xM → Prop} (hM : ShM μ) (hw : WFt μ) (ha : a < 16) (hb : b < 16) (h1 : mI μ 50 b = -1) (hz : noWriteM μ a i (rackK μ b) = 0) (hq : Q (some (.int (1))) (metM (writesM μ a i (rackK μ b) (rackV μ b)) (noWriteM μ a i (rackK μ b)))) : Mt kX5_rack [.ref 44, .int (nI a), .int (i), .int (nI b)] μ Q := by
  have hK : rackK μ b = 11 := by unfold rackK; rw [if_pos h1]
  have hV : rackV μ b = 0 := by unfold rackV; rw [if_neg (by rw [hK]; decide)]
  obtain ⟨w, ew⟩ := writes_form μ a i (rackK μ b) (rackV μ b)
  rw [ew] at hq
  refine Mt.enter rfl (Nat.le_of_ble_eq_true rfl) ?_
  refine X.iload_n dX5_rack_0 rfl ?_
  refine X.cS1i (k' := kX5_isChannel) dX5_rack_1 v_X5_isChannel wm_X5_137 wt_X5_isChannel ⟨Nat.le_of_ble_eq_true rfl, Nat.le_of_ble_eq_true rfl⟩ n_X5_isChannel (Nat.le_of_ble_eq_true rfl) ?_
  refine m_isChannel_t (chIn ha) ?_
  refine ⟨_, rfl, ?_⟩
  refine X.if_eq_f (tgt := 14) dX5_rack_4 (by decide) ((by decide)) ?_
  refine X.iload_n dX5_rack_7 rfl ?_
  refine X.cS1i (k' := kX5_isChannel) dX5_rack_8 v_X5_isChannel wm_X5_137 wt_X5_isChannel ⟨Nat.le_of_ble_eq_true rfl, Nat.le_of_ble_eq_true rfl⟩ n_X5_isChannel (Nat.le_of_ble_eq_true rfl) ?_
  refine m_isChannel_t (chIn hb) ?_
  refine ⟨_, rfl, ?_⟩
  refine X.if_ne_t (tgt := 16) dX5_rack_11 (by decide) ((by decide)) ?_
  refine X.aload_n dX5_rack_16 rfl ?_
  refine X.getR (b := 50) (kf := 6) dX5_rack_17 (hM.1 44 (by decide) (by decide)) (by decide) (by decide) rfl wf_X5_27 (hM.2 6 (by decide)) ?_
  refine X.iload_n dX5_rack_20 rfl ?_
  refine X.iald dX5_rack_21 (hM.1 50 (by decide) (by decide)) (rfl) (hb) (by decide) ?_
  refine X.iconst (v := -1) dX5_rack_22 (by decide) ?_
  refine X.icmp_ne_f (tgt := 31) dX5_rack_23 (by decide) (h1) ?_
  refine X.bipush (v := 11) dX5_rack_26 (by decide) ?_
  refine X.goto (tgt := 58) dX5_rack_28 (by decide) ?_
  refine X.istore dX5_rack_58 (Nat.le_of_ble_eq_true rfl) ?_
  refine X.aload_n dX5_rack_60 rfl ?_
  refine X.aload_n dX5_rack_61 rfl ?_
  refine X.iload_n dX5_rack_62 rfl ?_
  refine X.iload_n dX5_rack_63 rfl ?_
  refine X.iload dX5_rack_64 rfl ?_
  refine X.iload dX5_rack_66 rfl ?_
  refine X.bipush (v := 10) dX5_rack_68 (by decide) ?_
  refine X.icmp_ne_t (tgt := 85) dX5_rack_70 (by decide) ((by decide)) ?_
  refine X.lconst (v := 0) dX5_rack_85 (by decide) ?_
  refine X.cV4i (k' := kX5_writes) dX5_rack_86 (hM.1 44 (by decide) (by decide)) ⟨by decide, rfl⟩ v_X5_writes wm_X5_133 wi_X5_writes ws_X5_writes ⟨Nat.le_of_ble_eq_true rfl, Nat.le_of_ble_eq_true rfl⟩ n_X5_writes (Nat.le_of_ble_eq_true rfl) ?_
  refine m_writes (K := 11) hM hw ha (by decide) ?_
  rw [← hK, ← hV, ew]
  refine ⟨_, rfl, ?_⟩
  refine X.cV1i (k' := kX5_met) dX5_rack_89 (hM.1 44 (by decide) (by decide)) ⟨by decide, rfl⟩ v_X5_met wm_X5_141 wi_X5_met ws_X5_met ⟨Nat.le_of_ble_eq_true rfl, Nat.le_of_ble_eq_true rfl⟩ n_X5_met (Nat.le_of_ble_eq_true rfl) ?_
  refine m_met (μ := sB μ w) hM (noWrite_le _ _ _ _) ?_
  refine ⟨_, rfl, ?_⟩
  refine X.istore dX5_rack_92 (Nat.le_of_ble_eq_true rfl) ?_
  refine X.iload dX5_rack_94 rfl ?_
  refine X.if_le_t (tgt := 107) dX5_rack_96 (by decide) ((by show nI (noWriteM μ a i (rackK μ b)) ≤ 0; rw [hz]; decide)) ?_
  refine X.iconst (v := 1) dX5_rack_107 (by decide) ?_
  refine X.ret dX5_rack_108 ⟨trivial, ?_⟩
  exact hq
set_option maxRecDepth 100000 in
set_option maxHeartbeats 4000000 in
theorem m_rack_nr {a b : Nat} {i : Int32} {μ : xM} {Q : Option Value → xM → Prop} (hM : ShM μ) (hw : WFt μ) (ha : a < 16) (hb : b < 16) (h1 : mI μ 50 b = -1) (hz : ¬ noWriteM μ a i (rackK μ b) = 0) (hq : Q (some (.int (rR (noWriteM μ a i (rackK μ b))))) (metM (writesM μ a i (rackK μ b) (rackV μ b)) (noWriteM μ a i (rackK μ b)))) : Mt kX5_rack [.ref 44, .int (nI a), .int (i), .int (nI b)] μ Q := by
  have hK : rackK μ b = 11 := by unfold rackK; rw [if_pos h1]
  have hV : rackV μ b = 0 := by unfold rackV; rw [if_neg (by rw [hK]; decide)]
  obtain ⟨w, ew⟩ := writes_form μ a i (rackK μ b) (rackV μ b)
  rw [ew] at hq
  refine Mt.enter rfl (Nat.le_of_ble_eq_true rfl) ?_
  refine X.iload_n dX5_rack_0 rfl ?_
  refine X.cS1i (k' := kX5_isChannel) dX5_rack_1 v_X5_isChannel wm_X5_137 wt_X5_isChannel ⟨Nat.le_of_ble_eq_true rfl, Nat.le_of_ble_eq_true rfl⟩ n_X5_isChannel (Nat.le_of_ble_eq_true rfl) ?_
  refine m_isChannel_t (chIn ha) ?_
  refine ⟨_, rfl, ?_⟩
  refine X.if_eq_f (tgt := 14) dX5_rack_4 (by decide) ((by decide)) ?_
  refine X.iload_n dX5_rack_7 rfl ?_
  refine X.cS1i (k' := kX5_isChannel) dX5_rack_8 v_X5_isChannel wm_X5_137 wt_X5_isChannel ⟨Nat.le_of_ble_eq_true rfl, Nat.le_of_ble_eq_true rfl⟩ n_X5_isChannel (Nat.le_of_ble_eq_true rfl) ?_
  refine m_isChannel_t (chIn hb) ?_
  refine ⟨_, rfl, ?_⟩
  refine X.if_ne_t (tgt := 16) dX5_rack_11 (by decide) ((by decide)) ?_
  refine X.aload_n dX5_rack_16 rfl ?_
  refine X.getR (b := 50) (kf := 6) dX5_rack_17 (hM.1 44 (by decide) (by decide)) (by decide) (by decide) rfl wf_X5_27 (hM.2 6 (by decide)) ?_
  refine X.iload_n dX5_rack_20 rfl ?_
  refine X.iald dX5_rack_21 (hM.1 50 (by decide) (by decide)) (rfl) (hb) (by decide) ?_
  refine X.iconst (v := -1) dX5_rack_22 (by decide) ?_
  refine X.icmp_ne_f (tgt := 31) dX5_rack_23 (by decide) (h1) ?_
  refine X.bipush (v := 11) dX5_rack_26 (by decide) ?_
  refine X.goto (tgt := 58) dX5_rack_28 (by decide) ?_
  refine X.istore dX5_rack_58 (Nat.le_of_ble_eq_true rfl) ?_
  refine X.aload_n dX5_rack_60 rfl ?_
  refine X.aload_n dX5_rack_61 rfl ?_
  refine X.iload_n dX5_rack_62 rfl ?_
  refine X.iload_n dX5_rack_63 rfl ?_
  refine X.iload dX5_rack_64 rfl ?_
  refine X.iload dX5_rack_66 rfl ?_
  refine X.bipush (v := 10) dX5_rack_68 (by decide) ?_
  refine X.icmp_ne_t (tgt := 85) dX5_rack_70 (by decide) ((by decide)) ?_
  refine X.lconst (v := 0) dX5_rack_85 (by decide) ?_
  refine X.cV4i (k' := kX5_writes) dX5_rack_86 (hM.1 44 (by decide) (by decide)) ⟨by decide, rfl⟩ v_X5_writes wm_X5_133 wi_X5_writes ws_X5_writes ⟨Nat.le_of_ble_eq_true rfl, Nat.le_of_ble_eq_true rfl⟩ n_X5_writes (Nat.le_of_ble_eq_true rfl) ?_
  refine m_writes (K := 11) hM hw ha (by decide) ?_
  rw [← hK, ← hV, ew]
  refine ⟨_, rfl, ?_⟩
  refine X.cV1i (k' := kX5_met) dX5_rack_89 (hM.1 44 (by decide) (by decide)) ⟨by decide, rfl⟩ v_X5_met wm_X5_141 wi_X5_met ws_X5_met ⟨Nat.le_of_ble_eq_true rfl, Nat.le_of_ble_eq_true rfl⟩ n_X5_met (Nat.le_of_ble_eq_true rfl) ?_
  refine m_met (μ := sB μ w) hM (noWrite_le _ _ _ _) ?_
  refine ⟨_, rfl, ?_⟩
  refine X.istore dX5_rack_92 (Nat.le_of_ble_eq_true rfl) ?_
  refine X.iload dX5_rack_94 rfl ?_
  refine X.if_le_f (tgt := 107) dX5_rack_96 (by decide) (fun q => hz (nI_le0 q (by have := noWrite_le μ a i (rackK μ b); omega))) ?_
  refine X.bipush (v := -10) dX5_rack_99 (by decide) ?_
  refine X.iload dX5_rack_101 rfl ?_
  refine X.isub dX5_rack_103 ?_
  refine X.goto (tgt := 108) dX5_rack_104 (by decide) ?_
  refine X.ret dX5_rack_108 ⟨trivial, ?_⟩
  exact hq
set_option maxRecDepth 100000 in
set_option maxHeartbeats 4000000 in
theorem m_rack_pi {a b : Nat} {i : Int32} {μ : xM} {Q : Option Value → xM → Prop} (hM : ShM μ) (hw : WFt μ) (ha : a < 16) (hb : b < 16) (h1 : mI μ 50 b = -2) (hz : noWriteM μ a i (rackK μ b) = 0) (hq : Q (some (.int (1))) (metM (writesM μ a i (rackK μ b) (rackV μ b)) (noWriteM μ a i (rackK μ b)))) : Mt kX5_rack [.ref 44, .int (nI a), .int (i), .int (nI b)] μ Q := by
  have hK : rackK μ b = 12 := by unfold rackK; rw [if_neg (by rw [h1]; decide), if_pos h1]
  have hV : rackV μ b = 0 := by unfold rackV; rw [if_neg (by rw [hK]; decide)]
  obtain ⟨w, ew⟩ := writes_form μ a i (rackK μ b) (rackV μ b)
  rw [ew] at hq
  refine Mt.enter rfl (Nat.le_of_ble_eq_true rfl) ?_
  refine X.iload_n dX5_rack_0 rfl ?_
  refine X.cS1i (k' := kX5_isChannel) dX5_rack_1 v_X5_isChannel wm_X5_137 wt_X5_isChannel ⟨Nat.le_of_ble_eq_true rfl, Nat.le_of_ble_eq_true rfl⟩ n_X5_isChannel (Nat.le_of_ble_eq_true rfl) ?_
  refine m_isChannel_t (chIn ha) ?_
  refine ⟨_, rfl, ?_⟩
  refine X.if_eq_f (tgt := 14) dX5_rack_4 (by decide) ((by decide)) ?_
  refine X.iload_n dX5_rack_7 rfl ?_
  refine X.cS1i (k' := kX5_isChannel) dX5_rack_8 v_X5_isChannel wm_X5_137 wt_X5_isChannel ⟨Nat.le_of_ble_eq_true rfl, Nat.le_of_ble_eq_true rfl⟩ n_X5_isChannel (Nat.le_of_ble_eq_true rfl) ?_
  refine m_isChannel_t (chIn hb) ?_
  refine ⟨_, rfl, ?_⟩
  refine X.if_ne_t (tgt := 16) dX5_rack_11 (by decide) ((by decide)) ?_
  refine X.aload_n dX5_rack_16 rfl ?_
  refine X.getR (b := 50) (kf := 6) dX5_rack_17 (hM.1 44 (by decide) (by decide)) (by decide) (by decide) rfl wf_X5_27 (hM.2 6 (by decide)) ?_
  refine X.iload_n dX5_rack_20 rfl ?_
  refine X.iald dX5_rack_21 (hM.1 50 (by decide) (by decide)) (rfl) (hb) (by decide) ?_
  refine X.iconst (v := -1) dX5_rack_22 (by decide) ?_
  refine X.icmp_ne_t (tgt := 31) dX5_rack_23 (by decide) ((by rw [h1]; decide)) ?_
  refine X.aload_n dX5_rack_31 rfl ?_
  refine X.getR (b := 50) (kf := 6) dX5_rack_32 (hM.1 44 (by decide) (by decide)) (by decide) (by decide) rfl wf_X5_27 (hM.2 6 (by decide)) ?_
  refine X.iload_n dX5_rack_35 rfl ?_
  refine X.iald dX5_rack_36 (hM.1 50 (by decide) (by decide)) (rfl) (hb) (by decide) ?_
  refine X.bipush (v := -2) dX5_rack_37 (by decide) ?_
  refine X.icmp_eq_t (tgt := 51) dX5_rack_39 (by decide) (h1) ?_
  refine X.bipush (v := 12) dX5_rack_51 (by decide) ?_
  refine X.goto (tgt := 58) dX5_rack_53 (by decide) ?_
  refine X.istore dX5_rack_58 (Nat.le_of_ble_eq_true rfl) ?_
  refine X.aload_n dX5_rack_60 rfl ?_
  refine X.aload_n dX5_rack_61 rfl ?_
  refine X.iload_n dX5_rack_62 rfl ?_
  refine X.iload_n dX5_rack_63 rfl ?_
  refine X.iload dX5_rack_64 rfl ?_
  refine X.iload dX5_rack_66 rfl ?_
  refine X.bipush (v := 10) dX5_rack_68 (by decide) ?_
  refine X.icmp_ne_t (tgt := 85) dX5_rack_70 (by decide) ((by decide)) ?_
  refine X.lconst (v := 0) dX5_rack_85 (by decide) ?_
  refine X.cV4i (k' := kX5_writes) dX5_rack_86 (hM.1 44 (by decide) (by decide)) ⟨by decide, rfl⟩ v_X5_writes wm_X5_133 wi_X5_writes ws_X5_writes ⟨Nat.le_of_ble_eq_true rfl, Nat.le_of_ble_eq_true rfl⟩ n_X5_writes (Nat.le_of_ble_eq_true rfl) ?_
  refine m_writes (K := 12) hM hw ha (by decide) ?_
  rw [← hK, ← hV, ew]
  refine ⟨_, rfl, ?_⟩
  refine X.cV1i (k' := kX5_met) dX5_rack_89 (hM.1 44 (by decide) (by decide)) ⟨by decide, rfl⟩ v_X5_met wm_X5_141 wi_X5_met ws_X5_met ⟨Nat.le_of_ble_eq_true rfl, Nat.le_of_ble_eq_true rfl⟩ n_X5_met (Nat.le_of_ble_eq_true rfl) ?_
  refine m_met (μ := sB μ w) hM (noWrite_le _ _ _ _) ?_
  refine ⟨_, rfl, ?_⟩
  refine X.istore dX5_rack_92 (Nat.le_of_ble_eq_true rfl) ?_
  refine X.iload dX5_rack_94 rfl ?_
  refine X.if_le_t (tgt := 107) dX5_rack_96 (by decide) ((by show nI (noWriteM μ a i (rackK μ b)) ≤ 0; rw [hz]; decide)) ?_
  refine X.iconst (v := 1) dX5_rack_107 (by decide) ?_
  refine X.ret dX5_rack_108 ⟨trivial, ?_⟩
  exact hq
set_option maxRecDepth 100000 in
set_option maxHeartbeats 4000000 in
theorem m_rack_pr {a b : Nat} {i : Int32} {μ : xM} {Q : Option Value → xM → Prop} (hM : ShM μ) (hw : WFt μ) (ha : a < 16) (hb : b < 16) (h1 : mI μ 50 b = -2) (hz : ¬ noWriteM μ a i (rackK μ b) = 0) (hq : Q (some (.int (rR (noWriteM μ a i (rackK μ b))))) (metM (writesM μ a i (rackK μ b) (rackV μ b)) (noWriteM μ a i (rackK μ b)))) : Mt kX5_rack [.ref 44, .int (nI a), .int (i), .int (nI b)] μ Q := by
  have hK : rackK μ b = 12 := by unfold rackK; rw [if_neg (by rw [h1]; decide), if_pos h1]
  have hV : rackV μ b = 0 := by unfold rackV; rw [if_neg (by rw [hK]; decide)]
  obtain ⟨w, ew⟩ := writes_form μ a i (rackK μ b) (rackV μ b)
  rw [ew] at hq
  refine Mt.enter rfl (Nat.le_of_ble_eq_true rfl) ?_
  refine X.iload_n dX5_rack_0 rfl ?_
  refine X.cS1i (k' := kX5_isChannel) dX5_rack_1 v_X5_isChannel wm_X5_137 wt_X5_isChannel ⟨Nat.le_of_ble_eq_true rfl, Nat.le_of_ble_eq_true rfl⟩ n_X5_isChannel (Nat.le_of_ble_eq_true rfl) ?_
  refine m_isChannel_t (chIn ha) ?_
  refine ⟨_, rfl, ?_⟩
  refine X.if_eq_f (tgt := 14) dX5_rack_4 (by decide) ((by decide)) ?_
  refine X.iload_n dX5_rack_7 rfl ?_
  refine X.cS1i (k' := kX5_isChannel) dX5_rack_8 v_X5_isChannel wm_X5_137 wt_X5_isChannel ⟨Nat.le_of_ble_eq_true rfl, Nat.le_of_ble_eq_true rfl⟩ n_X5_isChannel (Nat.le_of_ble_eq_true rfl) ?_
  refine m_isChannel_t (chIn hb) ?_
  refine ⟨_, rfl, ?_⟩
  refine X.if_ne_t (tgt := 16) dX5_rack_11 (by decide) ((by decide)) ?_
  refine X.aload_n dX5_rack_16 rfl ?_
  refine X.getR (b := 50) (kf := 6) dX5_rack_17 (hM.1 44 (by decide) (by decide)) (by decide) (by decide) rfl wf_X5_27 (hM.2 6 (by decide)) ?_
  refine X.iload_n dX5_rack_20 rfl ?_
  refine X.iald dX5_rack_21 (hM.1 50 (by decide) (by decide)) (rfl) (hb) (by decide) ?_
  refine X.iconst (v := -1) dX5_rack_22 (by decide) ?_
  refine X.icmp_ne_t (tgt := 31) dX5_rack_23 (by decide) ((by rw [h1]; decide)) ?_
  refine X.aload_n dX5_rack_31 rfl ?_
  refine X.getR (b := 50) (kf := 6) dX5_rack_32 (hM.1 44 (by decide) (by decide)) (by decide) (by decide) rfl wf_X5_27 (hM.2 6 (by decide)) ?_
  refine X.iload_n dX5_rack_35 rfl ?_
  refine X.iald dX5_rack_36 (hM.1 50 (by decide) (by decide)) (rfl) (hb) (by decide) ?_
  refine X.bipush (v := -2) dX5_rack_37 (by decide) ?_
  refine X.icmp_eq_t (tgt := 51) dX5_rack_39 (by decide) (h1) ?_
  refine X.bipush (v := 12) dX5_rack_51 (by decide) ?_
  refine X.goto (tgt := 58) dX5_rack_53 (by decide) ?_
  refine X.istore dX5_rack_58 (Nat.le_of_ble_eq_true rfl) ?_
  refine X.aload_n dX5_rack_60 rfl ?_
  refine X.aload_n dX5_rack_61 rfl ?_
  refine X.iload_n dX5_rack_62 rfl ?_
  refine X.iload_n dX5_rack_63 rfl ?_
  refine X.iload dX5_rack_64 rfl ?_
  refine X.iload dX5_rack_66 rfl ?_
  refine X.bipush (v := 10) dX5_rack_68 (by decide) ?_
  refine X.icmp_ne_t (tgt := 85) dX5_rack_70 (by decide) ((by decide)) ?_
  refine X.lconst (v := 0) dX5_rack_85 (by decide) ?_
  refine X.cV4i (k' := kX5_writes) dX5_rack_86 (hM.1 44 (by decide) (by decide)) ⟨by decide, rfl⟩ v_X5_writes wm_X5_133 wi_X5_writes ws_X5_writes ⟨Nat.le_of_ble_eq_true rfl, Nat.le_of_ble_eq_true rfl⟩ n_X5_writes (Nat.le_of_ble_eq_true rfl) ?_
  refine m_writes (K := 12) hM hw ha (by decide) ?_
  rw [← hK, ← hV, ew]
  refine ⟨_, rfl, ?_⟩
  refine X.cV1i (k' := kX5_met) dX5_rack_89 (hM.1 44 (by decide) (by decide)) ⟨by decide, rfl⟩ v_X5_met wm_X5_141 wi_X5_met ws_X5_met ⟨Nat.le_of_ble_eq_true rfl, Nat.le_of_ble_eq_true rfl⟩ n_X5_met (Nat.le_of_ble_eq_true rfl) ?_
  refine m_met (μ := sB μ w) hM (noWrite_le _ _ _ _) ?_
  refine ⟨_, rfl, ?_⟩
  refine X.istore dX5_rack_92 (Nat.le_of_ble_eq_true rfl) ?_
  refine X.iload dX5_rack_94 rfl ?_
  refine X.if_le_f (tgt := 107) dX5_rack_96 (by decide) (fun q => hz (nI_le0 q (by have := noWrite_le μ a i (rackK μ b); omega))) ?_
  refine X.bipush (v := -10) dX5_rack_99 (by decide) ?_
  refine X.iload dX5_rack_101 rfl ?_
  refine X.isub dX5_rack_103 ?_
  refine X.goto (tgt := 108) dX5_rack_104 (by decide) ?_
  refine X.ret dX5_rack_108 ⟨trivial, ?_⟩
  exact hq
set_option maxRecDepth 100000 in
set_option maxHeartbeats 4000000 in
theorem m_rack_ki {a b : Nat} {i : Int32} {μ : xM} {Q : Option Value → xM → Prop} (hM : ShM μ) (hw : WFt μ) (ha : a < 16) (hb : b < 16) (h1 : ¬ mI μ 50 b = -1) (h2 : ¬ mI μ 50 b = -2) (h4 : ¬ kd μ (tp μ b) = 4) (hz : noWriteM μ a i (rackK μ b) = 0) (hq : Q (some (.int (1))) (metM (writesM μ a i (rackK μ b) (rackV μ b)) (noWriteM μ a i (rackK μ b)))) : Mt kX5_rack [.ref 44, .int (nI a), .int (i), .int (nI b)] μ Q := by
  have h0 := noTape_of h1 h2
  obtain ⟨ht, et⟩ := hw.1 _ hb h0
  obtain ⟨⟨ek, lk⟩, es, ls⟩ := hw.2.1 _ ht
  have hK : rackK μ b = 12 := by unfold rackK; rw [if_neg h1, if_neg h2, if_neg h4]
  have hV : rackV μ b = 0 := by unfold rackV; rw [if_neg (by rw [hK]; decide)]
  obtain ⟨w, ew⟩ := writes_form μ a i (rackK μ b) (rackV μ b)
  rw [ew] at hq
  refine Mt.enter rfl (Nat.le_of_ble_eq_true rfl) ?_
  refine X.iload_n dX5_rack_0 rfl ?_
  refine X.cS1i (k' := kX5_isChannel) dX5_rack_1 v_X5_isChannel wm_X5_137 wt_X5_isChannel ⟨Nat.le_of_ble_eq_true rfl, Nat.le_of_ble_eq_true rfl⟩ n_X5_isChannel (Nat.le_of_ble_eq_true rfl) ?_
  refine m_isChannel_t (chIn ha) ?_
  refine ⟨_, rfl, ?_⟩
  refine X.if_eq_f (tgt := 14) dX5_rack_4 (by decide) ((by decide)) ?_
  refine X.iload_n dX5_rack_7 rfl ?_
  refine X.cS1i (k' := kX5_isChannel) dX5_rack_8 v_X5_isChannel wm_X5_137 wt_X5_isChannel ⟨Nat.le_of_ble_eq_true rfl, Nat.le_of_ble_eq_true rfl⟩ n_X5_isChannel (Nat.le_of_ble_eq_true rfl) ?_
  refine m_isChannel_t (chIn hb) ?_
  refine ⟨_, rfl, ?_⟩
  refine X.if_ne_t (tgt := 16) dX5_rack_11 (by decide) ((by decide)) ?_
  refine X.aload_n dX5_rack_16 rfl ?_
  refine X.getR (b := 50) (kf := 6) dX5_rack_17 (hM.1 44 (by decide) (by decide)) (by decide) (by decide) rfl wf_X5_27 (hM.2 6 (by decide)) ?_
  refine X.iload_n dX5_rack_20 rfl ?_
  refine X.iald dX5_rack_21 (hM.1 50 (by decide) (by decide)) (rfl) (hb) (by decide) ?_
  refine X.iconst (v := -1) dX5_rack_22 (by decide) ?_
  refine X.icmp_ne_t (tgt := 31) dX5_rack_23 (by decide) (h1) ?_
  refine X.aload_n dX5_rack_31 rfl ?_
  refine X.getR (b := 50) (kf := 6) dX5_rack_32 (hM.1 44 (by decide) (by decide)) (by decide) (by decide) rfl wf_X5_27 (hM.2 6 (by decide)) ?_
  refine X.iload_n dX5_rack_35 rfl ?_
  refine X.iald dX5_rack_36 (hM.1 50 (by decide) (by decide)) (rfl) (hb) (by decide) ?_
  refine X.bipush (v := -2) dX5_rack_37 (by decide) ?_
  refine X.icmp_eq_f (tgt := 51) dX5_rack_39 (by decide) (h2) ?_
  refine X.aload_n dX5_rack_42 rfl ?_
  refine X.iload_n dX5_rack_43 rfl ?_
  refine X.cV1i (k' := kX5_kindOf) dX5_rack_44 (hM.1 44 (by decide) (by decide)) ⟨by decide, rfl⟩ v_X5_kindOf wm_X5_110 wi_X5_kindOf ws_X5_kindOf ⟨Nat.le_of_ble_eq_true rfl, Nat.le_of_ble_eq_true rfl⟩ n_X5_kindOf (Nat.le_of_ble_eq_true rfl) ?_
  refine m_kindOf hM hw hb h0 ?_
  refine ⟨_, rfl, ?_⟩
  refine X.iconst (v := 4) dX5_rack_47 (by decide) ?_
  refine X.icmp_eq_f (tgt := 56) dX5_rack_48 (by decide) (nI_neq (b := 4) h4 (by omega) (by decide)) ?_
  refine X.bipush (v := 12) dX5_rack_51 (by decide) ?_
  refine X.goto (tgt := 58) dX5_rack_53 (by decide) ?_
  refine X.istore dX5_rack_58 (Nat.le_of_ble_eq_true rfl) ?_
  refine X.aload_n dX5_rack_60 rfl ?_
  refine X.aload_n dX5_rack_61 rfl ?_
  refine X.iload_n dX5_rack_62 rfl ?_
  refine X.iload_n dX5_rack_63 rfl ?_
  refine X.iload dX5_rack_64 rfl ?_
  refine X.iload dX5_rack_66 rfl ?_
  refine X.bipush (v := 10) dX5_rack_68 (by decide) ?_
  refine X.icmp_ne_t (tgt := 85) dX5_rack_70 (by decide) ((by decide)) ?_
  refine X.lconst (v := 0) dX5_rack_85 (by decide) ?_
  refine X.cV4i (k' := kX5_writes) dX5_rack_86 (hM.1 44 (by decide) (by decide)) ⟨by decide, rfl⟩ v_X5_writes wm_X5_133 wi_X5_writes ws_X5_writes ⟨Nat.le_of_ble_eq_true rfl, Nat.le_of_ble_eq_true rfl⟩ n_X5_writes (Nat.le_of_ble_eq_true rfl) ?_
  refine m_writes (K := 12) hM hw ha (by decide) ?_
  rw [← hK, ← hV, ew]
  refine ⟨_, rfl, ?_⟩
  refine X.cV1i (k' := kX5_met) dX5_rack_89 (hM.1 44 (by decide) (by decide)) ⟨by decide, rfl⟩ v_X5_met wm_X5_141 wi_X5_met ws_X5_met ⟨Nat.le_of_ble_eq_true rfl, Nat.le_of_ble_eq_true rfl⟩ n_X5_met (Nat.le_of_ble_eq_true rfl) ?_
  refine m_met (μ := sB μ w) hM (noWrite_le _ _ _ _) ?_
  refine ⟨_, rfl, ?_⟩
  refine X.istore dX5_rack_92 (Nat.le_of_ble_eq_true rfl) ?_
  refine X.iload dX5_rack_94 rfl ?_
  refine X.if_le_t (tgt := 107) dX5_rack_96 (by decide) ((by show nI (noWriteM μ a i (rackK μ b)) ≤ 0; rw [hz]; decide)) ?_
  refine X.iconst (v := 1) dX5_rack_107 (by decide) ?_
  refine X.ret dX5_rack_108 ⟨trivial, ?_⟩
  exact hq
set_option maxRecDepth 100000 in
set_option maxHeartbeats 4000000 in
theorem m_rack_kr {a b : Nat} {i : Int32} {μ : xM} {Q : Option Value → xM → Prop} (hM : ShM μ) (hw : WFt μ) (ha : a < 16) (hb : b < 16) (h1 : ¬ mI μ 50 b = -1) (h2 : ¬ mI μ 50 b = -2) (h4 : ¬ kd μ (tp μ b) = 4) (hz : ¬ noWriteM μ a i (rackK μ b) = 0) (hq : Q (some (.int (rR (noWriteM μ a i (rackK μ b))))) (metM (writesM μ a i (rackK μ b) (rackV μ b)) (noWriteM μ a i (rackK μ b)))) : Mt kX5_rack [.ref 44, .int (nI a), .int (i), .int (nI b)] μ Q := by
  have h0 := noTape_of h1 h2
  obtain ⟨ht, et⟩ := hw.1 _ hb h0
  obtain ⟨⟨ek, lk⟩, es, ls⟩ := hw.2.1 _ ht
  have hK : rackK μ b = 12 := by unfold rackK; rw [if_neg h1, if_neg h2, if_neg h4]
  have hV : rackV μ b = 0 := by unfold rackV; rw [if_neg (by rw [hK]; decide)]
  obtain ⟨w, ew⟩ := writes_form μ a i (rackK μ b) (rackV μ b)
  rw [ew] at hq
  refine Mt.enter rfl (Nat.le_of_ble_eq_true rfl) ?_
  refine X.iload_n dX5_rack_0 rfl ?_
  refine X.cS1i (k' := kX5_isChannel) dX5_rack_1 v_X5_isChannel wm_X5_137 wt_X5_isChannel ⟨Nat.le_of_ble_eq_true rfl, Nat.le_of_ble_eq_true rfl⟩ n_X5_isChannel (Nat.le_of_ble_eq_true rfl) ?_
  refine m_isChannel_t (chIn ha) ?_
  refine ⟨_, rfl, ?_⟩
  refine X.if_eq_f (tgt := 14) dX5_rack_4 (by decide) ((by decide)) ?_
  refine X.iload_n dX5_rack_7 rfl ?_
  refine X.cS1i (k' := kX5_isChannel) dX5_rack_8 v_X5_isChannel wm_X5_137 wt_X5_isChannel ⟨Nat.le_of_ble_eq_true rfl, Nat.le_of_ble_eq_true rfl⟩ n_X5_isChannel (Nat.le_of_ble_eq_true rfl) ?_
  refine m_isChannel_t (chIn hb) ?_
  refine ⟨_, rfl, ?_⟩
  refine X.if_ne_t (tgt := 16) dX5_rack_11 (by decide) ((by decide)) ?_
  refine X.aload_n dX5_rack_16 rfl ?_
  refine X.getR (b := 50) (kf := 6) dX5_rack_17 (hM.1 44 (by decide) (by decide)) (by decide) (by decide) rfl wf_X5_27 (hM.2 6 (by decide)) ?_
  refine X.iload_n dX5_rack_20 rfl ?_
  refine X.iald dX5_rack_21 (hM.1 50 (by decide) (by decide)) (rfl) (hb) (by decide) ?_
  refine X.iconst (v := -1) dX5_rack_22 (by decide) ?_
  refine X.icmp_ne_t (tgt := 31) dX5_rack_23 (by decide) (h1) ?_
  refine X.aload_n dX5_rack_31 rfl ?_
  refine X.getR (b := 50) (kf := 6) dX5_rack_32 (hM.1 44 (by decide) (by decide)) (by decide) (by decide) rfl wf_X5_27 (hM.2 6 (by decide)) ?_
  refine X.iload_n dX5_rack_35 rfl ?_
  refine X.iald dX5_rack_36 (hM.1 50 (by decide) (by decide)) (rfl) (hb) (by decide) ?_
  refine X.bipush (v := -2) dX5_rack_37 (by decide) ?_
  refine X.icmp_eq_f (tgt := 51) dX5_rack_39 (by decide) (h2) ?_
  refine X.aload_n dX5_rack_42 rfl ?_
  refine X.iload_n dX5_rack_43 rfl ?_
  refine X.cV1i (k' := kX5_kindOf) dX5_rack_44 (hM.1 44 (by decide) (by decide)) ⟨by decide, rfl⟩ v_X5_kindOf wm_X5_110 wi_X5_kindOf ws_X5_kindOf ⟨Nat.le_of_ble_eq_true rfl, Nat.le_of_ble_eq_true rfl⟩ n_X5_kindOf (Nat.le_of_ble_eq_true rfl) ?_
  refine m_kindOf hM hw hb h0 ?_
  refine ⟨_, rfl, ?_⟩
  refine X.iconst (v := 4) dX5_rack_47 (by decide) ?_
  refine X.icmp_eq_f (tgt := 56) dX5_rack_48 (by decide) (nI_neq (b := 4) h4 (by omega) (by decide)) ?_
  refine X.bipush (v := 12) dX5_rack_51 (by decide) ?_
  refine X.goto (tgt := 58) dX5_rack_53 (by decide) ?_
  refine X.istore dX5_rack_58 (Nat.le_of_ble_eq_true rfl) ?_
  refine X.aload_n dX5_rack_60 rfl ?_
  refine X.aload_n dX5_rack_61 rfl ?_
  refine X.iload_n dX5_rack_62 rfl ?_
  refine X.iload_n dX5_rack_63 rfl ?_
  refine X.iload dX5_rack_64 rfl ?_
  refine X.iload dX5_rack_66 rfl ?_
  refine X.bipush (v := 10) dX5_rack_68 (by decide) ?_
  refine X.icmp_ne_t (tgt := 85) dX5_rack_70 (by decide) ((by decide)) ?_
  refine X.lconst (v := 0) dX5_rack_85 (by decide) ?_
  refine X.cV4i (k' := kX5_writes) dX5_rack_86 (hM.1 44 (by decide) (by decide)) ⟨by decide, rfl⟩ v_X5_writes wm_X5_133 wi_X5_writes ws_X5_writes ⟨Nat.le_of_ble_eq_true rfl, Nat.le_of_ble_eq_true rfl⟩ n_X5_writes (Nat.le_of_ble_eq_true rfl) ?_
  refine m_writes (K := 12) hM hw ha (by decide) ?_
  rw [← hK, ← hV, ew]
  refine ⟨_, rfl, ?_⟩
  refine X.cV1i (k' := kX5_met) dX5_rack_89 (hM.1 44 (by decide) (by decide)) ⟨by decide, rfl⟩ v_X5_met wm_X5_141 wi_X5_met ws_X5_met ⟨Nat.le_of_ble_eq_true rfl, Nat.le_of_ble_eq_true rfl⟩ n_X5_met (Nat.le_of_ble_eq_true rfl) ?_
  refine m_met (μ := sB μ w) hM (noWrite_le _ _ _ _) ?_
  refine ⟨_, rfl, ?_⟩
  refine X.istore dX5_rack_92 (Nat.le_of_ble_eq_true rfl) ?_
  refine X.iload dX5_rack_94 rfl ?_
  refine X.if_le_f (tgt := 107) dX5_rack_96 (by decide) (fun q => hz (nI_le0 q (by have := noWrite_le μ a i (rackK μ b); omega))) ?_
  refine X.bipush (v := -10) dX5_rack_99 (by decide) ?_
  refine X.iload dX5_rack_101 rfl ?_
  refine X.isub dX5_rack_103 ?_
  refine X.goto (tgt := 108) dX5_rack_104 (by decide) ?_
  refine X.ret dX5_rack_108 ⟨trivial, ?_⟩
  exact hq
set_option maxRecDepth 100000 in
set_option maxHeartbeats 4000000 in
theorem m_rack_ti {a b : Nat} {i : Int32} {μ : xM} {Q : Option Value → xM → Prop} (hM : ShM μ) (hw : WFt μ) (ha : a < 16) (hb : b < 16) (h1 : ¬ mI μ 50 b = -1) (h2 : ¬ mI μ 50 b = -2) (h4 : kd μ (tp μ b) = 4) (hz : noWriteM μ a i (rackK μ b) = 0) (hq : Q (some (.int (1))) (metM (writesM μ a i (rackK μ b) (rackV μ b)) (noWriteM μ a i (rackK μ b)))) : Mt kX5_rack [.ref 44, .int (nI a), .int (i), .int (nI b)] μ Q := by
  have h0 := noTape_of h1 h2
  obtain ⟨ht, et⟩ := hw.1 _ hb h0
  obtain ⟨⟨ek, lk⟩, es, ls⟩ := hw.2.1 _ ht
  have hK : rackK μ b = 10 := by unfold rackK; rw [if_neg h1, if_neg h2, if_pos h4]
  have hV : rackV μ b = (mI μ 50 b).toInt64 + 1 := by unfold rackV; rw [if_pos hK]
  obtain ⟨w, ew⟩ := writes_form μ a i (rackK μ b) (rackV μ b)
  rw [ew] at hq
  refine Mt.enter rfl (Nat.le_of_ble_eq_true rfl) ?_
  refine X.iload_n dX5_rack_0 rfl ?_
  refine X.cS1i (k' := kX5_isChannel) dX5_rack_1 v_X5_isChannel wm_X5_137 wt_X5_isChannel ⟨Nat.le_of_ble_eq_true rfl, Nat.le_of_ble_eq_true rfl⟩ n_X5_isChannel (Nat.le_of_ble_eq_true rfl) ?_
  refine m_isChannel_t (chIn ha) ?_
  refine ⟨_, rfl, ?_⟩
  refine X.if_eq_f (tgt := 14) dX5_rack_4 (by decide) ((by decide)) ?_
  refine X.iload_n dX5_rack_7 rfl ?_
  refine X.cS1i (k' := kX5_isChannel) dX5_rack_8 v_X5_isChannel wm_X5_137 wt_X5_isChannel ⟨Nat.le_of_ble_eq_true rfl, Nat.le_of_ble_eq_true rfl⟩ n_X5_isChannel (Nat.le_of_ble_eq_true rfl) ?_
  refine m_isChannel_t (chIn hb) ?_
  refine ⟨_, rfl, ?_⟩
  refine X.if_ne_t (tgt := 16) dX5_rack_11 (by decide) ((by decide)) ?_
  refine X.aload_n dX5_rack_16 rfl ?_
  refine X.getR (b := 50) (kf := 6) dX5_rack_17 (hM.1 44 (by decide) (by decide)) (by decide) (by decide) rfl wf_X5_27 (hM.2 6 (by decide)) ?_
  refine X.iload_n dX5_rack_20 rfl ?_
  refine X.iald dX5_rack_21 (hM.1 50 (by decide) (by decide)) (rfl) (hb) (by decide) ?_
  refine X.iconst (v := -1) dX5_rack_22 (by decide) ?_
  refine X.icmp_ne_t (tgt := 31) dX5_rack_23 (by decide) (h1) ?_
  refine X.aload_n dX5_rack_31 rfl ?_
  refine X.getR (b := 50) (kf := 6) dX5_rack_32 (hM.1 44 (by decide) (by decide)) (by decide) (by decide) rfl wf_X5_27 (hM.2 6 (by decide)) ?_
  refine X.iload_n dX5_rack_35 rfl ?_
  refine X.iald dX5_rack_36 (hM.1 50 (by decide) (by decide)) (rfl) (hb) (by decide) ?_
  refine X.bipush (v := -2) dX5_rack_37 (by decide) ?_
  refine X.icmp_eq_f (tgt := 51) dX5_rack_39 (by decide) (h2) ?_
  refine X.aload_n dX5_rack_42 rfl ?_
  refine X.iload_n dX5_rack_43 rfl ?_
  refine X.cV1i (k' := kX5_kindOf) dX5_rack_44 (hM.1 44 (by decide) (by decide)) ⟨by decide, rfl⟩ v_X5_kindOf wm_X5_110 wi_X5_kindOf ws_X5_kindOf ⟨Nat.le_of_ble_eq_true rfl, Nat.le_of_ble_eq_true rfl⟩ n_X5_kindOf (Nat.le_of_ble_eq_true rfl) ?_
  refine m_kindOf hM hw hb h0 ?_
  refine ⟨_, rfl, ?_⟩
  refine X.iconst (v := 4) dX5_rack_47 (by decide) ?_
  refine X.icmp_eq_t (tgt := 56) dX5_rack_48 (by decide) ((by rw [h4]; rfl)) ?_
  refine X.bipush (v := 10) dX5_rack_56 (by decide) ?_
  refine X.istore dX5_rack_58 (Nat.le_of_ble_eq_true rfl) ?_
  refine X.aload_n dX5_rack_60 rfl ?_
  refine X.aload_n dX5_rack_61 rfl ?_
  refine X.iload_n dX5_rack_62 rfl ?_
  refine X.iload_n dX5_rack_63 rfl ?_
  refine X.iload dX5_rack_64 rfl ?_
  refine X.iload dX5_rack_66 rfl ?_
  refine X.bipush (v := 10) dX5_rack_68 (by decide) ?_
  refine X.icmp_ne_f (tgt := 85) dX5_rack_70 (by decide) ((by decide)) ?_
  refine X.aload_n dX5_rack_73 rfl ?_
  refine X.getR (b := 50) (kf := 6) dX5_rack_74 (hM.1 44 (by decide) (by decide)) (by decide) (by decide) rfl wf_X5_27 (hM.2 6 (by decide)) ?_
  refine X.iload_n dX5_rack_77 rfl ?_
  refine X.iald dX5_rack_78 (hM.1 50 (by decide) (by decide)) (rfl) (hb) (by decide) ?_
  refine X.i2l dX5_rack_79 ?_
  refine X.lconst (v := 1) dX5_rack_80 (by decide) ?_
  refine X.ladd dX5_rack_81 ?_
  refine X.goto (tgt := 86) dX5_rack_82 (by decide) ?_
  refine X.cV4i (k' := kX5_writes) dX5_rack_86 (hM.1 44 (by decide) (by decide)) ⟨by decide, rfl⟩ v_X5_writes wm_X5_133 wi_X5_writes ws_X5_writes ⟨Nat.le_of_ble_eq_true rfl, Nat.le_of_ble_eq_true rfl⟩ n_X5_writes (Nat.le_of_ble_eq_true rfl) ?_
  refine m_writes (K := 10) hM hw ha (by decide) ?_
  rw [← hK, ← hV, ew]
  refine ⟨_, rfl, ?_⟩
  refine X.cV1i (k' := kX5_met) dX5_rack_89 (hM.1 44 (by decide) (by decide)) ⟨by decide, rfl⟩ v_X5_met wm_X5_141 wi_X5_met ws_X5_met ⟨Nat.le_of_ble_eq_true rfl, Nat.le_of_ble_eq_true rfl⟩ n_X5_met (Nat.le_of_ble_eq_true rfl) ?_
  refine m_met (μ := sB μ w) hM (noWrite_le _ _ _ _) ?_
  refine ⟨_, rfl, ?_⟩
  refine X.istore dX5_rack_92 (Nat.le_of_ble_eq_true rfl) ?_
  refine X.iload dX5_rack_94 rfl ?_
  refine X.if_le_t (tgt := 107) dX5_rack_96 (by decide) ((by show nI (noWriteM μ a i (rackK μ b)) ≤ 0; rw [hz]; decide)) ?_
  refine X.iconst (v := 1) dX5_rack_107 (by decide) ?_
  refine X.ret dX5_rack_108 ⟨trivial, ?_⟩
  exact hq
set_option maxRecDepth 100000 in
set_option maxHeartbeats 4000000 in
theorem m_rack_tr {a b : Nat} {i : Int32} {μ : xM} {Q : Option Value → xM → Prop} (hM : ShM μ) (hw : WFt μ) (ha : a < 16) (hb : b < 16) (h1 : ¬ mI μ 50 b = -1) (h2 : ¬ mI μ 50 b = -2) (h4 : kd μ (tp μ b) = 4) (hz : ¬ noWriteM μ a i (rackK μ b) = 0) (hq : Q (some (.int (rR (noWriteM μ a i (rackK μ b))))) (metM (writesM μ a i (rackK μ b) (rackV μ b)) (noWriteM μ a i (rackK μ b)))) : Mt kX5_rack [.ref 44, .int (nI a), .int (i), .int (nI b)] μ Q := by
  have h0 := noTape_of h1 h2
  obtain ⟨ht, et⟩ := hw.1 _ hb h0
  obtain ⟨⟨ek, lk⟩, es, ls⟩ := hw.2.1 _ ht
  have hK : rackK μ b = 10 := by unfold rackK; rw [if_neg h1, if_neg h2, if_pos h4]
  have hV : rackV μ b = (mI μ 50 b).toInt64 + 1 := by unfold rackV; rw [if_pos hK]
  obtain ⟨w, ew⟩ := writes_form μ a i (rackK μ b) (rackV μ b)
  rw [ew] at hq
  refine Mt.enter rfl (Nat.le_of_ble_eq_true rfl) ?_
  refine X.iload_n dX5_rack_0 rfl ?_
  refine X.cS1i (k' := kX5_isChannel) dX5_rack_1 v_X5_isChannel wm_X5_137 wt_X5_isChannel ⟨Nat.le_of_ble_eq_true rfl, Nat.le_of_ble_eq_true rfl⟩ n_X5_isChannel (Nat.le_of_ble_eq_true rfl) ?_
  refine m_isChannel_t (chIn ha) ?_
  refine ⟨_, rfl, ?_⟩
  refine X.if_eq_f (tgt := 14) dX5_rack_4 (by decide) ((by decide)) ?_
  refine X.iload_n dX5_rack_7 rfl ?_
  refine X.cS1i (k' := kX5_isChannel) dX5_rack_8 v_X5_isChannel wm_X5_137 wt_X5_isChannel ⟨Nat.le_of_ble_eq_true rfl, Nat.le_of_ble_eq_true rfl⟩ n_X5_isChannel (Nat.le_of_ble_eq_true rfl) ?_
  refine m_isChannel_t (chIn hb) ?_
  refine ⟨_, rfl, ?_⟩
  refine X.if_ne_t (tgt := 16) dX5_rack_11 (by decide) ((by decide)) ?_
  refine X.aload_n dX5_rack_16 rfl ?_
  refine X.getR (b := 50) (kf := 6) dX5_rack_17 (hM.1 44 (by decide) (by decide)) (by decide) (by decide) rfl wf_X5_27 (hM.2 6 (by decide)) ?_
  refine X.iload_n dX5_rack_20 rfl ?_
  refine X.iald dX5_rack_21 (hM.1 50 (by decide) (by decide)) (rfl) (hb) (by decide) ?_
  refine X.iconst (v := -1) dX5_rack_22 (by decide) ?_
  refine X.icmp_ne_t (tgt := 31) dX5_rack_23 (by decide) (h1) ?_
  refine X.aload_n dX5_rack_31 rfl ?_
  refine X.getR (b := 50) (kf := 6) dX5_rack_32 (hM.1 44 (by decide) (by decide)) (by decide) (by decide) rfl wf_X5_27 (hM.2 6 (by decide)) ?_
  refine X.iload_n dX5_rack_35 rfl ?_
  refine X.iald dX5_rack_36 (hM.1 50 (by decide) (by decide)) (rfl) (hb) (by decide) ?_
  refine X.bipush (v := -2) dX5_rack_37 (by decide) ?_
  refine X.icmp_eq_f (tgt := 51) dX5_rack_39 (by decide) (h2) ?_
  refine X.aload_n dX5_rack_42 rfl ?_
  refine X.iload_n dX5_rack_43 rfl ?_
  refine X.cV1i (k' := kX5_kindOf) dX5_rack_44 (hM.1 44 (by decide) (by decide)) ⟨by decide, rfl⟩ v_X5_kindOf wm_X5_110 wi_X5_kindOf ws_X5_kindOf ⟨Nat.le_of_ble_eq_true rfl, Nat.le_of_ble_eq_true rfl⟩ n_X5_kindOf (Nat.le_of_ble_eq_true rfl) ?_
  refine m_kindOf hM hw hb h0 ?_
  refine ⟨_, rfl, ?_⟩
  refine X.iconst (v := 4) dX5_rack_47 (by decide) ?_
  refine X.icmp_eq_t (tgt := 56) dX5_rack_48 (by decide) ((by rw [h4]; rfl)) ?_
  refine X.bipush (v := 10) dX5_rack_56 (by decide) ?_
  refine X.istore dX5_rack_58 (Nat.le_of_ble_eq_true rfl) ?_
  refine X.aload_n dX5_rack_60 rfl ?_
  refine X.aload_n dX5_rack_61 rfl ?_
  refine X.iload_n dX5_rack_62 rfl ?_
  refine X.iload_n dX5_rack_63 rfl ?_
  refine X.iload dX5_rack_64 rfl ?_
  refine X.iload dX5_rack_66 rfl ?_
  refine X.bipush (v := 10) dX5_rack_68 (by decide) ?_
  refine X.icmp_ne_f (tgt := 85) dX5_rack_70 (by decide) ((by decide)) ?_
  refine X.aload_n dX5_rack_73 rfl ?_
  refine X.getR (b := 50) (kf := 6) dX5_rack_74 (hM.1 44 (by decide) (by decide)) (by decide) (by decide) rfl wf_X5_27 (hM.2 6 (by decide)) ?_
  refine X.iload_n dX5_rack_77 rfl ?_
  refine X.iald dX5_rack_78 (hM.1 50 (by decide) (by decide)) (rfl) (hb) (by decide) ?_
  refine X.i2l dX5_rack_79 ?_
  refine X.lconst (v := 1) dX5_rack_80 (by decide) ?_
  refine X.ladd dX5_rack_81 ?_
  refine X.goto (tgt := 86) dX5_rack_82 (by decide) ?_
  refine X.cV4i (k' := kX5_writes) dX5_rack_86 (hM.1 44 (by decide) (by decide)) ⟨by decide, rfl⟩ v_X5_writes wm_X5_133 wi_X5_writes ws_X5_writes ⟨Nat.le_of_ble_eq_true rfl, Nat.le_of_ble_eq_true rfl⟩ n_X5_writes (Nat.le_of_ble_eq_true rfl) ?_
  refine m_writes (K := 10) hM hw ha (by decide) ?_
  rw [← hK, ← hV, ew]
  refine ⟨_, rfl, ?_⟩
  refine X.cV1i (k' := kX5_met) dX5_rack_89 (hM.1 44 (by decide) (by decide)) ⟨by decide, rfl⟩ v_X5_met wm_X5_141 wi_X5_met ws_X5_met ⟨Nat.le_of_ble_eq_true rfl, Nat.le_of_ble_eq_true rfl⟩ n_X5_met (Nat.le_of_ble_eq_true rfl) ?_
  refine m_met (μ := sB μ w) hM (noWrite_le _ _ _ _) ?_
  refine ⟨_, rfl, ?_⟩
  refine X.istore dX5_rack_92 (Nat.le_of_ble_eq_true rfl) ?_
  refine X.iload dX5_rack_94 rfl ?_
  refine X.if_le_f (tgt := 107) dX5_rack_96 (by decide) (fun q => hz (nI_le0 q (by have := noWrite_le μ a i (rackK μ b); omega))) ?_
  refine X.bipush (v := -10) dX5_rack_99 (by decide) ?_
  refine X.iload dX5_rack_101 rfl ?_
  refine X.isub dX5_rack_103 ?_
  refine X.goto (tgt := 108) dX5_rack_104 (by decide) ?_
  refine X.ret dX5_rack_108 ⟨trivial, ?_⟩
  exact hq
set_option maxRecDepth 100000 in
set_option maxHeartbeats 4000000 in
theorem m_unrack_o1 {c i d : Int32} {μ : xM} {Q : Option Value → xM → Prop} (hc : rng c 16 = none) (hq : Q (some (.int (-1))) (μ)) : Mt kX5_unrack [.ref 44, .int (c), .int (i), .int (d)] μ Q := by
  refine Mt.enter rfl (Nat.le_of_ble_eq_true rfl) ?_
  refine X.iload_n dX5_unrack_0 rfl ?_
  refine X.cS1i (k' := kX5_isChannel) dX5_unrack_1 v_X5_isChannel wm_X5_137 wt_X5_isChannel ⟨Nat.le_of_ble_eq_true rfl, Nat.le_of_ble_eq_true rfl⟩ n_X5_isChannel (Nat.le_of_ble_eq_true rfl) ?_
  refine m_isChannel_f hc ?_
  refine ⟨_, rfl, ?_⟩
  refine X.if_eq_t (tgt := 14) dX5_unrack_4 (by decide) ((by decide)) ?_
  refine X.iconst (v := -1) dX5_unrack_14 (by decide) ?_
  refine X.ret dX5_unrack_15 ⟨trivial, ?_⟩
  exact hq
set_option maxRecDepth 100000 in
set_option maxHeartbeats 4000000 in
theorem m_unrack_o2 {a : Nat} {i d : Int32} {μ : xM} {Q : Option Value → xM → Prop} (ha : a < 16) (hd : rng d 16 = none) (hq : Q (some (.int (-1))) (μ)) : Mt kX5_unrack [.ref 44, .int (nI a), .int (i), .int (d)] μ Q := by
  refine Mt.enter rfl (Nat.le_of_ble_eq_true rfl) ?_
  refine X.iload_n dX5_unrack_0 rfl ?_
  refine X.cS1i (k' := kX5_isChannel) dX5_unrack_1 v_X5_isChannel wm_X5_137 wt_X5_isChannel ⟨Nat.le_of_ble_eq_true rfl, Nat.le_of_ble_eq_true rfl⟩ n_X5_isChannel (Nat.le_of_ble_eq_true rfl) ?_
  refine m_isChannel_t (chIn ha) ?_
  refine ⟨_, rfl, ?_⟩
  refine X.if_eq_f (tgt := 14) dX5_unrack_4 (by decide) ((by decide)) ?_
  refine X.iload_n dX5_unrack_7 rfl ?_
  refine X.cS1i (k' := kX5_isChannel) dX5_unrack_8 v_X5_isChannel wm_X5_137 wt_X5_isChannel ⟨Nat.le_of_ble_eq_true rfl, Nat.le_of_ble_eq_true rfl⟩ n_X5_isChannel (Nat.le_of_ble_eq_true rfl) ?_
  refine m_isChannel_f hd ?_
  refine ⟨_, rfl, ?_⟩
  refine X.if_ne_f (tgt := 16) dX5_unrack_11 (by decide) ((by decide)) ?_
  refine X.iconst (v := -1) dX5_unrack_14 (by decide) ?_
  refine X.ret dX5_unrack_15 ⟨trivial, ?_⟩
  exact hq
set_option maxRecDepth 100000 in
set_option maxHeartbeats 4000000 in
theorem m_unrack_r1 {a b : Nat} {i : Int32} {μ : xM} {Q : Option Value → xM → Prop} (hM : ShM μ) (hw : WFt μ) (ha : a < 16) (hb : b < 16) (hz : ¬ noPlaceM μ a i = 0) (hq : Q (some (.int (rR (noPlaceM μ a i)))) (metM μ (noPlaceM μ a i))) : Mt kX5_unrack [.ref 44, .int (nI a), .int (i), .int (nI b)] μ Q := by
  refine Mt.enter rfl (Nat.le_of_ble_eq_true rfl) ?_
  refine X.iload_n dX5_unrack_0 rfl ?_
  refine X.cS1i (k' := kX5_isChannel) dX5_unrack_1 v_X5_isChannel wm_X5_137 wt_X5_isChannel ⟨Nat.le_of_ble_eq_true rfl, Nat.le_of_ble_eq_true rfl⟩ n_X5_isChannel (Nat.le_of_ble_eq_true rfl) ?_
  refine m_isChannel_t (chIn ha) ?_
  refine ⟨_, rfl, ?_⟩
  refine X.if_eq_f (tgt := 14) dX5_unrack_4 (by decide) ((by decide)) ?_
  refine X.iload_n dX5_unrack_7 rfl ?_
  refine X.cS1i (k' := kX5_isChannel) dX5_unrack_8 v_X5_isChannel wm_X5_137 wt_X5_isChannel ⟨Nat.le_of_ble_eq_true rfl, Nat.le_of_ble_eq_true rfl⟩ n_X5_isChannel (Nat.le_of_ble_eq_true rfl) ?_
  refine m_isChannel_t (chIn hb) ?_
  refine ⟨_, rfl, ?_⟩
  refine X.if_ne_t (tgt := 16) dX5_unrack_11 (by decide) ((by decide)) ?_
  refine X.aload_n dX5_unrack_16 rfl ?_
  refine X.iload_n dX5_unrack_17 rfl ?_
  refine X.iload_n dX5_unrack_18 rfl ?_
  refine X.cV2i (k' := kX5_noPlace) dX5_unrack_19 (hM.1 44 (by decide) (by decide)) ⟨by decide, rfl⟩ v_X5_noPlace wm_X5_113 wi_X5_noPlace ws_X5_noPlace ⟨Nat.le_of_ble_eq_true rfl, Nat.le_of_ble_eq_true rfl⟩ n_X5_noPlace (Nat.le_of_ble_eq_true rfl) ?_
  refine m_noPlace hM hw ha ?_
  refine ⟨_, rfl, ?_⟩
  refine X.istore dX5_unrack_22 (Nat.le_of_ble_eq_true rfl) ?_
  refine X.iload dX5_unrack_24 rfl ?_
  refine X.if_le_f (tgt := 33) dX5_unrack_26 (by decide) (fun q => hz (nI_le0 q (by have := noPlace_le μ a i; omega))) ?_
  refine X.iconst (v := 0) dX5_unrack_29 (by decide) ?_
  refine X.goto (tgt := 44) dX5_unrack_30 (by decide) ?_
  refine X.istore dX5_unrack_44 (Nat.le_of_ble_eq_true rfl) ?_
  refine X.iload dX5_unrack_46 rfl ?_
  refine X.if_ne_t (tgt := 61) dX5_unrack_48 (by decide) (nI_neq (b := 0) hz (by have := noPlace_le μ a i; omega) (by decide)) ?_
  refine X.aload_n dX5_unrack_61 rfl ?_
  refine X.iload dX5_unrack_62 rfl ?_
  refine X.cV1i (k' := kX5_met) dX5_unrack_64 (hM.1 44 (by decide) (by decide)) ⟨by decide, rfl⟩ v_X5_met wm_X5_141 wi_X5_met ws_X5_met ⟨Nat.le_of_ble_eq_true rfl, Nat.le_of_ble_eq_true rfl⟩ n_X5_met (Nat.le_of_ble_eq_true rfl) ?_
  refine m_met (r := noPlaceM μ a i) hM (by exact noPlace_le _ _ _) ?_
  refine ⟨_, rfl, ?_⟩
  refine X.if_le_f (tgt := 76) dX5_unrack_67 (by decide) (fun q => hz (nI_le0 q (by have := noPlace_le μ a i; omega))) ?_
  refine X.bipush (v := -10) dX5_unrack_70 (by decide) ?_
  refine X.iload dX5_unrack_72 rfl ?_
  refine X.isub dX5_unrack_74 ?_
  refine X.ret dX5_unrack_75 ⟨trivial, ?_⟩
  exact hq
set_option maxRecDepth 100000 in
set_option maxHeartbeats 4000000 in
theorem m_unrack_r2 {a b : Nat} {i : Int32} {μ : xM} {Q : Option Value → xM → Prop} (hM : ShM μ) (hw : WFt μ) (ha : a < 16) (hb : b < 16) (hz : noPlaceM μ a i = 0) (hk : cellKindM μ (tp μ a) (ix i) < 10) (hq : Q (some (.int (rR 2))) (metM μ 2)) : Mt kX5_unrack [.ref 44, .int (nI a), .int (i), .int (nI b)] μ Q := by
  obtain ⟨h0, hr, ei, hi⟩ := noPlace_0 hz
  obtain ⟨ht, et⟩ := hw.1 _ ha h0
  obtain ⟨⟨ek, lk⟩, es, ls⟩ := hw.2.1 _ ht
  have hck := cellKind_le (μ := μ) (t := tp μ a) (j := ix i)
  generalize hj : ix i = j at *
  subst ei
  refine Mt.enter rfl (Nat.le_of_ble_eq_true rfl) ?_
  refine X.iload_n dX5_unrack_0 rfl ?_
  refine X.cS1i (k' := kX5_isChannel) dX5_unrack_1 v_X5_isChannel wm_X5_137 wt_X5_isChannel ⟨Nat.le_of_ble_eq_true rfl, Nat.le_of_ble_eq_true rfl⟩ n_X5_isChannel (Nat.le_of_ble_eq_true rfl) ?_
  refine m_isChannel_t (chIn ha) ?_
  refine ⟨_, rfl, ?_⟩
  refine X.if_eq_f (tgt := 14) dX5_unrack_4 (by decide) ((by decide)) ?_
  refine X.iload_n dX5_unrack_7 rfl ?_
  refine X.cS1i (k' := kX5_isChannel) dX5_unrack_8 v_X5_isChannel wm_X5_137 wt_X5_isChannel ⟨Nat.le_of_ble_eq_true rfl, Nat.le_of_ble_eq_true rfl⟩ n_X5_isChannel (Nat.le_of_ble_eq_true rfl) ?_
  refine m_isChannel_t (chIn hb) ?_
  refine ⟨_, rfl, ?_⟩
  refine X.if_ne_t (tgt := 16) dX5_unrack_11 (by decide) ((by decide)) ?_
  refine X.aload_n dX5_unrack_16 rfl ?_
  refine X.iload_n dX5_unrack_17 rfl ?_
  refine X.iload_n dX5_unrack_18 rfl ?_
  refine X.cV2i (k' := kX5_noPlace) dX5_unrack_19 (hM.1 44 (by decide) (by decide)) ⟨by decide, rfl⟩ v_X5_noPlace wm_X5_113 wi_X5_noPlace ws_X5_noPlace ⟨Nat.le_of_ble_eq_true rfl, Nat.le_of_ble_eq_true rfl⟩ n_X5_noPlace (Nat.le_of_ble_eq_true rfl) ?_
  refine m_noPlace hM hw ha ?_
  refine ⟨_, rfl, ?_⟩
  refine X.istore dX5_unrack_22 (Nat.le_of_ble_eq_true rfl) ?_
  refine X.iload dX5_unrack_24 rfl ?_
  refine X.if_le_t (tgt := 33) dX5_unrack_26 (by decide) ((by rw [hz]; decide)) ?_
  refine X.aload_n dX5_unrack_33 rfl ?_
  refine X.aload_n dX5_unrack_34 rfl ?_
  refine X.getR (b := 50) (kf := 6) dX5_unrack_35 (hM.1 44 (by decide) (by decide)) (by decide) (by decide) rfl wf_X5_27 (hM.2 6 (by decide)) ?_
  refine X.iload_n dX5_unrack_38 rfl ?_
  refine X.iald dX5_unrack_39 (hM.1 50 (by decide) (by decide)) (rfl) (ha) (by decide) ?_
  refine X.iload_n dX5_unrack_40 rfl ?_
  refine X.cV2i (k' := kX5_cellKind) dX5_unrack_41 (hM.1 44 (by decide) (by decide)) ⟨by decide, rfl⟩ v_X5_cellKind wm_X5_130 wi_X5_cellKind ws_X5_cellKind ⟨Nat.le_of_ble_eq_true rfl, Nat.le_of_ble_eq_true rfl⟩ n_X5_cellKind (Nat.le_of_ble_eq_true rfl) ?_
  rw [et]
  refine m_cellKind hM hw ht hi ?_
  refine ⟨_, rfl, ?_⟩
  refine X.istore dX5_unrack_44 (Nat.le_of_ble_eq_true rfl) ?_
  refine X.iload dX5_unrack_46 rfl ?_
  refine X.if_ne_f (tgt := 61) dX5_unrack_48 (by decide) ((by rw [hz]; rfl)) ?_
  refine X.iload dX5_unrack_51 rfl ?_
  refine X.bipush (v := 10) dX5_unrack_53 (by decide) ?_
  refine X.icmp_ge_f (tgt := 61) dX5_unrack_55 (by decide) (nI_ge (a := cellKindM μ (tp μ a) j) (b := 10) hk (by decide)) ?_
  refine X.iconst (v := 2) dX5_unrack_58 (by decide) ?_
  refine X.istore dX5_unrack_59 (Nat.le_of_ble_eq_true rfl) ?_
  refine X.aload_n dX5_unrack_61 rfl ?_
  refine X.iload dX5_unrack_62 rfl ?_
  refine X.cV1i (k' := kX5_met) dX5_unrack_64 (hM.1 44 (by decide) (by decide)) ⟨by decide, rfl⟩ v_X5_met wm_X5_141 wi_X5_met ws_X5_met ⟨Nat.le_of_ble_eq_true rfl, Nat.le_of_ble_eq_true rfl⟩ n_X5_met (Nat.le_of_ble_eq_true rfl) ?_
  refine m_met (r := 2) hM (by decide) ?_
  refine ⟨_, rfl, ?_⟩
  refine X.if_le_f (tgt := 76) dX5_unrack_67 (by decide) ((by decide)) ?_
  refine X.bipush (v := -10) dX5_unrack_70 (by decide) ?_
  refine X.iload dX5_unrack_72 rfl ?_
  refine X.isub dX5_unrack_74 ?_
  refine X.ret dX5_unrack_75 ⟨trivial, ?_⟩
  exact hq
set_option maxRecDepth 100000 in
set_option maxHeartbeats 4000000 in
theorem m_unrack_e {a b : Nat} {i : Int32} {μ : xM} {Q : Option Value → xM → Prop} (hM : ShM μ) (hw : WFt μ) (ha : a < 16) (hb : b < 16) (hz : noPlaceM μ a i = 0) (hk : cellKindM μ (tp μ a) (ix i) = 11) (hq : Q (some (.int (0))) (sI (metM μ 0) 50 b (-1))) : Mt kX5_unrack [.ref 44, .int (nI a), .int (i), .int (nI b)] μ Q := by
  obtain ⟨h0, hr, ei, hi⟩ := noPlace_0 hz
  obtain ⟨ht, et⟩ := hw.1 _ ha h0
  obtain ⟨⟨ek, lk⟩, es, ls⟩ := hw.2.1 _ ht
  have hck := cellKind_le (μ := μ) (t := tp μ a) (j := ix i)
  generalize hj : ix i = j at *
  subst ei
  refine Mt.enter rfl (Nat.le_of_ble_eq_true rfl) ?_
  refine X.iload_n dX5_unrack_0 rfl ?_
  refine X.cS1i (k' := kX5_isChannel) dX5_unrack_1 v_X5_isChannel wm_X5_137 wt_X5_isChannel ⟨Nat.le_of_ble_eq_true rfl, Nat.le_of_ble_eq_true rfl⟩ n_X5_isChannel (Nat.le_of_ble_eq_true rfl) ?_
  refine m_isChannel_t (chIn ha) ?_
  refine ⟨_, rfl, ?_⟩
  refine X.if_eq_f (tgt := 14) dX5_unrack_4 (by decide) ((by decide)) ?_
  refine X.iload_n dX5_unrack_7 rfl ?_
  refine X.cS1i (k' := kX5_isChannel) dX5_unrack_8 v_X5_isChannel wm_X5_137 wt_X5_isChannel ⟨Nat.le_of_ble_eq_true rfl, Nat.le_of_ble_eq_true rfl⟩ n_X5_isChannel (Nat.le_of_ble_eq_true rfl) ?_
  refine m_isChannel_t (chIn hb) ?_
  refine ⟨_, rfl, ?_⟩
  refine X.if_ne_t (tgt := 16) dX5_unrack_11 (by decide) ((by decide)) ?_
  refine X.aload_n dX5_unrack_16 rfl ?_
  refine X.iload_n dX5_unrack_17 rfl ?_
  refine X.iload_n dX5_unrack_18 rfl ?_
  refine X.cV2i (k' := kX5_noPlace) dX5_unrack_19 (hM.1 44 (by decide) (by decide)) ⟨by decide, rfl⟩ v_X5_noPlace wm_X5_113 wi_X5_noPlace ws_X5_noPlace ⟨Nat.le_of_ble_eq_true rfl, Nat.le_of_ble_eq_true rfl⟩ n_X5_noPlace (Nat.le_of_ble_eq_true rfl) ?_
  refine m_noPlace hM hw ha ?_
  refine ⟨_, rfl, ?_⟩
  refine X.istore dX5_unrack_22 (Nat.le_of_ble_eq_true rfl) ?_
  refine X.iload dX5_unrack_24 rfl ?_
  refine X.if_le_t (tgt := 33) dX5_unrack_26 (by decide) ((by rw [hz]; decide)) ?_
  refine X.aload_n dX5_unrack_33 rfl ?_
  refine X.aload_n dX5_unrack_34 rfl ?_
  refine X.getR (b := 50) (kf := 6) dX5_unrack_35 (hM.1 44 (by decide) (by decide)) (by decide) (by decide) rfl wf_X5_27 (hM.2 6 (by decide)) ?_
  refine X.iload_n dX5_unrack_38 rfl ?_
  refine X.iald dX5_unrack_39 (hM.1 50 (by decide) (by decide)) (rfl) (ha) (by decide) ?_
  refine X.iload_n dX5_unrack_40 rfl ?_
  refine X.cV2i (k' := kX5_cellKind) dX5_unrack_41 (hM.1 44 (by decide) (by decide)) ⟨by decide, rfl⟩ v_X5_cellKind wm_X5_130 wi_X5_cellKind ws_X5_cellKind ⟨Nat.le_of_ble_eq_true rfl, Nat.le_of_ble_eq_true rfl⟩ n_X5_cellKind (Nat.le_of_ble_eq_true rfl) ?_
  rw [et]
  refine m_cellKind hM hw ht hi ?_
  refine ⟨_, rfl, ?_⟩
  refine X.istore dX5_unrack_44 (Nat.le_of_ble_eq_true rfl) ?_
  refine X.iload dX5_unrack_46 rfl ?_
  refine X.if_ne_f (tgt := 61) dX5_unrack_48 (by decide) ((by rw [hz]; rfl)) ?_
  refine X.iload dX5_unrack_51 rfl ?_
  refine X.bipush (v := 10) dX5_unrack_53 (by decide) ?_
  refine X.icmp_ge_t (tgt := 61) dX5_unrack_55 (by decide) ((by rw [hk]; decide)) ?_
  refine X.aload_n dX5_unrack_61 rfl ?_
  refine X.iload dX5_unrack_62 rfl ?_
  refine X.cV1i (k' := kX5_met) dX5_unrack_64 (hM.1 44 (by decide) (by decide)) ⟨by decide, rfl⟩ v_X5_met wm_X5_141 wi_X5_met ws_X5_met ⟨Nat.le_of_ble_eq_true rfl, Nat.le_of_ble_eq_true rfl⟩ n_X5_met (Nat.le_of_ble_eq_true rfl) ?_
  refine m_met (r := noPlaceM μ a (nI j)) hM (noPlace_le _ _ _) ?_
  rw [hz]
  refine ⟨_, rfl, ?_⟩
  refine X.if_le_t (tgt := 76) dX5_unrack_67 (by decide) ((by decide)) ?_
  refine X.aload_n dX5_unrack_76 rfl ?_
  refine X.getR (b := 50) (kf := 6) dX5_unrack_77 (hM.1 44 (by decide) (by decide)) (by decide) (by decide) rfl wf_X5_27 (hM.2 6 (by decide)) ?_
  refine X.iload_n dX5_unrack_80 rfl ?_
  refine X.iload dX5_unrack_81 rfl ?_
  refine X.bipush (v := 11) dX5_unrack_83 (by decide) ?_
  refine X.icmp_ne_f (tgt := 94) dX5_unrack_85 (by decide) ((by rw [hk]; rfl)) ?_
  refine X.ldc2 dX5_unrack_88 wk_X5_156 ?_
  refine X.goto (tgt := 107) dX5_unrack_91 (by decide) ?_
  refine X.l2i dX5_unrack_107 ?_
  refine X.iast dX5_unrack_108 (hM.1 50 (by decide) (by decide)) (rfl) (hb) (by decide) ?_
  refine X.iload dX5_unrack_109 rfl ?_
  refine X.bipush (v := 11) dX5_unrack_111 (by decide) ?_
  refine X.icmp_ne_f (tgt := 120) dX5_unrack_113 (by decide) ((by rw [hk]; rfl)) ?_
  refine X.iconst (v := 0) dX5_unrack_116 (by decide) ?_
  refine X.goto (tgt := 131) dX5_unrack_117 (by decide) ?_
  refine X.ret dX5_unrack_131 ⟨trivial, ?_⟩
  rw [show (-1 : Int64).toInt32 = -1 by decide]
  exact hq
set_option maxRecDepth 100000 in
set_option maxHeartbeats 4000000 in
theorem m_unrack_t {a b : Nat} {i : Int32} {μ : xM} {Q : Option Value → xM → Prop} (hM : ShM μ) (hw : WFt μ) (ha : a < 16) (hb : b < 16) (hz : noPlaceM μ a i = 0) (hk : cellKindM μ (tp μ a) (ix i) = 10) (hq : Q (some (.int (mI μ 46 (lx (cv μ (tp μ a) (ix i)) - 1)))) (sI (metM μ 0) 50 b (nI (lx (cv μ (tp μ a) (ix i)) - 1)))) : Mt kX5_unrack [.ref 44, .int (nI a), .int (i), .int (nI b)] μ Q := by
  obtain ⟨h0, hr, ei, hi⟩ := noPlace_0 hz
  obtain ⟨ht, et⟩ := hw.1 _ ha h0
  obtain ⟨⟨ek, lk⟩, es, ls⟩ := hw.2.1 _ ht
  have hck := cellKind_le (μ := μ) (t := tp μ a) (j := ix i)
  generalize hj : ix i = j at *
  subst ei
  have hk8 : ¬ kd μ (tp μ a) < 8 := fun q => by unfold cellKindM at hk; rw [if_pos q] at hk; omega
  have hv0 : ¬ cv μ (tp μ a) j = 0 := fun q => by unfold cellKindM at hk; rw [if_neg hk8, if_pos q] at hk; omega
  obtain ⟨ew, lw, lw2⟩ := hw.2.2 _ ht (by omega) j hi
  have hp : lx (cv μ (tp μ a) j) ≠ 0 := fun e => hv0 (by rw [ew, e]; rfl)
  have e9 : (mJ μ 48 (32 * tp μ a + j) - 1).toInt32 = nI (lx (cv μ (tp μ a) j) - 1) := by
    rw [show mJ μ 48 (32 * tp μ a + j) = lN (lx (cv μ (tp μ a) j)) from ew, show (1 : Int64) = lN 1 from rfl, lN_sub (by omega), lN_i]
  refine Mt.enter rfl (Nat.le_of_ble_eq_true rfl) ?_
  refine X.iload_n dX5_unrack_0 rfl ?_
  refine X.cS1i (k' := kX5_isChannel) dX5_unrack_1 v_X5_isChannel wm_X5_137 wt_X5_isChannel ⟨Nat.le_of_ble_eq_true rfl, Nat.le_of_ble_eq_true rfl⟩ n_X5_isChannel (Nat.le_of_ble_eq_true rfl) ?_
  refine m_isChannel_t (chIn ha) ?_
  refine ⟨_, rfl, ?_⟩
  refine X.if_eq_f (tgt := 14) dX5_unrack_4 (by decide) ((by decide)) ?_
  refine X.iload_n dX5_unrack_7 rfl ?_
  refine X.cS1i (k' := kX5_isChannel) dX5_unrack_8 v_X5_isChannel wm_X5_137 wt_X5_isChannel ⟨Nat.le_of_ble_eq_true rfl, Nat.le_of_ble_eq_true rfl⟩ n_X5_isChannel (Nat.le_of_ble_eq_true rfl) ?_
  refine m_isChannel_t (chIn hb) ?_
  refine ⟨_, rfl, ?_⟩
  refine X.if_ne_t (tgt := 16) dX5_unrack_11 (by decide) ((by decide)) ?_
  refine X.aload_n dX5_unrack_16 rfl ?_
  refine X.iload_n dX5_unrack_17 rfl ?_
  refine X.iload_n dX5_unrack_18 rfl ?_
  refine X.cV2i (k' := kX5_noPlace) dX5_unrack_19 (hM.1 44 (by decide) (by decide)) ⟨by decide, rfl⟩ v_X5_noPlace wm_X5_113 wi_X5_noPlace ws_X5_noPlace ⟨Nat.le_of_ble_eq_true rfl, Nat.le_of_ble_eq_true rfl⟩ n_X5_noPlace (Nat.le_of_ble_eq_true rfl) ?_
  refine m_noPlace hM hw ha ?_
  refine ⟨_, rfl, ?_⟩
  refine X.istore dX5_unrack_22 (Nat.le_of_ble_eq_true rfl) ?_
  refine X.iload dX5_unrack_24 rfl ?_
  refine X.if_le_t (tgt := 33) dX5_unrack_26 (by decide) ((by rw [hz]; decide)) ?_
  refine X.aload_n dX5_unrack_33 rfl ?_
  refine X.aload_n dX5_unrack_34 rfl ?_
  refine X.getR (b := 50) (kf := 6) dX5_unrack_35 (hM.1 44 (by decide) (by decide)) (by decide) (by decide) rfl wf_X5_27 (hM.2 6 (by decide)) ?_
  refine X.iload_n dX5_unrack_38 rfl ?_
  refine X.iald dX5_unrack_39 (hM.1 50 (by decide) (by decide)) (rfl) (ha) (by decide) ?_
  refine X.iload_n dX5_unrack_40 rfl ?_
  refine X.cV2i (k' := kX5_cellKind) dX5_unrack_41 (hM.1 44 (by decide) (by decide)) ⟨by decide, rfl⟩ v_X5_cellKind wm_X5_130 wi_X5_cellKind ws_X5_cellKind ⟨Nat.le_of_ble_eq_true rfl, Nat.le_of_ble_eq_true rfl⟩ n_X5_cellKind (Nat.le_of_ble_eq_true rfl) ?_
  rw [et]
  refine m_cellKind hM hw ht hi ?_
  refine ⟨_, rfl, ?_⟩
  refine X.istore dX5_unrack_44 (Nat.le_of_ble_eq_true rfl) ?_
  refine X.iload dX5_unrack_46 rfl ?_
  refine X.if_ne_f (tgt := 61) dX5_unrack_48 (by decide) ((by rw [hz]; rfl)) ?_
  refine X.iload dX5_unrack_51 rfl ?_
  refine X.bipush (v := 10) dX5_unrack_53 (by decide) ?_
  refine X.icmp_ge_t (tgt := 61) dX5_unrack_55 (by decide) ((by rw [hk]; decide)) ?_
  refine X.aload_n dX5_unrack_61 rfl ?_
  refine X.iload dX5_unrack_62 rfl ?_
  refine X.cV1i (k' := kX5_met) dX5_unrack_64 (hM.1 44 (by decide) (by decide)) ⟨by decide, rfl⟩ v_X5_met wm_X5_141 wi_X5_met ws_X5_met ⟨Nat.le_of_ble_eq_true rfl, Nat.le_of_ble_eq_true rfl⟩ n_X5_met (Nat.le_of_ble_eq_true rfl) ?_
  refine m_met (r := noPlaceM μ a (nI j)) hM (noPlace_le _ _ _) ?_
  rw [hz]
  refine ⟨_, rfl, ?_⟩
  refine X.if_le_t (tgt := 76) dX5_unrack_67 (by decide) ((by decide)) ?_
  refine X.aload_n dX5_unrack_76 rfl ?_
  refine X.getR (b := 50) (kf := 6) dX5_unrack_77 (hM.1 44 (by decide) (by decide)) (by decide) (by decide) rfl wf_X5_27 (hM.2 6 (by decide)) ?_
  refine X.iload_n dX5_unrack_80 rfl ?_
  refine X.iload dX5_unrack_81 rfl ?_
  refine X.bipush (v := 11) dX5_unrack_83 (by decide) ?_
  refine X.icmp_ne_t (tgt := 94) dX5_unrack_85 (by decide) ((by rw [hk]; decide)) ?_
  refine X.aload_n dX5_unrack_94 rfl ?_
  refine X.getR (b := 48) (kf := 3) dX5_unrack_95 (hM.1 44 (by decide) (by decide)) (by decide) (by decide) rfl wf_X5_20 (hM.2 3 (by decide)) ?_
  refine X.aload_n dX5_unrack_98 rfl ?_
  refine X.iload_n dX5_unrack_99 rfl ?_
  refine X.iload_n dX5_unrack_100 rfl ?_
  refine X.cV2i (k' := kX5_at) dX5_unrack_101 (hM.1 44 (by decide) (by decide)) ⟨by decide, rfl⟩ v_X5_at wm_X5_124 wi_X5_at ws_X5_at ⟨Nat.le_of_ble_eq_true rfl, Nat.le_of_ble_eq_true rfl⟩ n_X5_at (Nat.le_of_ble_eq_true rfl) ?_
  refine m_at (μ := metM μ 0) hM hw ha h0 ?_
  refine ⟨_, rfl, ?_⟩
  refine X.lald dX5_unrack_104 (hM.1 48 (by decide) (by decide)) (rfl) (cell_in ht (Nat.lt_of_lt_of_le hi ls)) (by decide) ?_
  refine X.lconst (v := 1) dX5_unrack_105 (by decide) ?_
  refine X.lsub dX5_unrack_106 ?_
  refine X.l2i dX5_unrack_107 ?_
  refine X.iast dX5_unrack_108 (hM.1 50 (by decide) (by decide)) (rfl) (hb) (by decide) ?_
  refine X.iload dX5_unrack_109 rfl ?_
  refine X.bipush (v := 11) dX5_unrack_111 (by decide) ?_
  refine X.icmp_ne_t (tgt := 120) dX5_unrack_113 (by decide) ((by rw [hk]; decide)) ?_
  refine X.aload_n dX5_unrack_120 rfl ?_
  refine X.getR (b := 46) (kf := 1) dX5_unrack_121 (hM.1 44 (by decide) (by decide)) (by decide) (by decide) rfl wf_X5_13 (hM.2 1 (by decide)) ?_
  refine X.aload_n dX5_unrack_124 rfl ?_
  refine X.getR (b := 50) (kf := 6) dX5_unrack_125 (hM.1 44 (by decide) (by decide)) (by decide) (by decide) rfl wf_X5_27 (hM.2 6 (by decide)) ?_
  refine X.iload_n dX5_unrack_128 rfl ?_
  refine X.iald dX5_unrack_129 (hM.1 50 (by decide) (by decide)) (rfl) (hb) (by decide) ?_
  refine X.iald dX5_unrack_130 (hM.1 46 (by decide) (by decide)) ((by rw [mI_sI, up2_s]; exact e9)) (by omega) (by decide) ?_
  refine X.ret dX5_unrack_131 ⟨trivial, ?_⟩
  rw [show (mJ (metM μ 0) 48 (32 * tp (metM μ 0) a + j) - 1).toInt32 = nI (lx (cv μ (tp μ a) j) - 1) from e9]
  exact hq
