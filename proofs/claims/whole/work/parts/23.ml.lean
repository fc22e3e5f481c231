/-! the reference: what its calls answer, 3 (laid by wip/whole/mkmodelc.py) -/
def cabNewM (μ : xM) (k f t : Nat) : xM := sI (sI (sI (sI (sI (sI μ 54 (qM μ) (nI k)) 55 (qM μ) (nI f)) 56 (qM μ) (nI t)) 57 (qM μ) 1) 58 (qM μ) 1) 44 10 (mI μ 44 10 + 1)
theorem nI_up (q : Nat) : nI q + 1 - 1 = nI q := by rw [nI_1]; exact nI_pred q
set_option maxRecDepth 100000 in
set_option maxHeartbeats 4000000 in
theorem m_cable_o1 {k c d : Int32} {μ : xM} {Q : Option Value → xM → Prop} (hk : rng k 4 = none) (hq : Q (some (.int (-1))) (μ)) : Mt kX5_cable [.ref 44, .int (k), .int (c), .int (d)] μ Q := by
  refine Mt.enter rfl (Nat.le_of_ble_eq_true rfl) ?_
  refine X.iload_n dX5_cable_0 rfl ?_
  refine X.iconst (v := 0) dX5_cable_1 (by decide) ?_
  refine X.iconst (v := 3) dX5_cable_2 (by decide) ?_
  refine X.cS3i (k' := kX5_isIn) dX5_cable_3 v_X5_isIn wm_X5_75 wt_X5_isIn ⟨Nat.le_of_ble_eq_true rfl, Nat.le_of_ble_eq_true rfl⟩ n_X5_isIn (Nat.le_of_ble_eq_true rfl) ?_
  refine m_isIn_f (rng_no hk (by decide) rfl) ?_
  refine ⟨_, rfl, ?_⟩
  refine X.if_eq_t (tgt := 23) dX5_cable_6 (by decide) ((by decide)) ?_
  refine X.iconst (v := -1) dX5_cable_23 (by decide) ?_
  refine X.ret dX5_cable_24 ⟨trivial, ?_⟩
  exact hq
set_option maxRecDepth 100000 in
set_option maxHeartbeats 4000000 in
theorem m_cable_o2 {k : Nat} {c d : Int32} {μ : xM} {Q : Option Value → xM → Prop} (hk : k < 4) (hc : rng c 16 = none) (hq : Q (some (.int (-1))) (μ)) : Mt kX5_cable [.ref 44, .int (nI k), .int (c), .int (d)] μ Q := by
  refine Mt.enter rfl (Nat.le_of_ble_eq_true rfl) ?_
  refine X.iload_n dX5_cable_0 rfl ?_
  refine X.iconst (v := 0) dX5_cable_1 (by decide) ?_
  refine X.iconst (v := 3) dX5_cable_2 (by decide) ?_
  refine X.cS3i (k' := kX5_isIn) dX5_cable_3 v_X5_isIn wm_X5_75 wt_X5_isIn ⟨Nat.le_of_ble_eq_true rfl, Nat.le_of_ble_eq_true rfl⟩ n_X5_isIn (Nat.le_of_ble_eq_true rfl) ?_
  refine m_isIn_t (rng_in (rng_nI (i := k) (n := 4) hk (by decide)) (by decide) rfl) ?_
  refine ⟨_, rfl, ?_⟩
  refine X.if_eq_f (tgt := 23) dX5_cable_6 (by decide) ((by decide)) ?_
  refine X.iload_n dX5_cable_9 rfl ?_
  refine X.cS1i (k' := kX5_isChannel) dX5_cable_10 v_X5_isChannel wm_X5_137 wt_X5_isChannel ⟨Nat.le_of_ble_eq_true rfl, Nat.le_of_ble_eq_true rfl⟩ n_X5_isChannel (Nat.le_of_ble_eq_true rfl) ?_
  refine m_isChannel_f hc ?_
  refine ⟨_, rfl, ?_⟩
  refine X.if_eq_t (tgt := 23) dX5_cable_13 (by decide) ((by decide)) ?_
  refine X.iconst (v := -1) dX5_cable_23 (by decide) ?_
  refine X.ret dX5_cable_24 ⟨trivial, ?_⟩
  exact hq
set_option maxRecDepth 100000 in
set_option maxHeartbeats 4000000 in
theorem m_cable_o3 {k a : Nat} {d : Int32} {μ : xM} {Q : Option Value → xM → Prop} (hk : k < 4) (ha : a < 16) (hd : rng d 16 = none) (hq : Q (some (.int (-1))) (μ)) : Mt kX5_cable [.ref 44, .int (nI k), .int (nI a), .int (d)] μ Q := by
  refine Mt.enter rfl (Nat.le_of_ble_eq_true rfl) ?_
  refine X.iload_n dX5_cable_0 rfl ?_
  refine X.iconst (v := 0) dX5_cable_1 (by decide) ?_
  refine X.iconst (v := 3) dX5_cable_2 (by decide) ?_
  refine X.cS3i (k' := kX5_isIn) dX5_cable_3 v_X5_isIn wm_X5_75 wt_X5_isIn ⟨Nat.le_of_ble_eq_true rfl, Nat.le_of_ble_eq_true rfl⟩ n_X5_isIn (Nat.le_of_ble_eq_true rfl) ?_
  refine m_isIn_t (rng_in (rng_nI (i := k) (n := 4) hk (by decide)) (by decide) rfl) ?_
  refine ⟨_, rfl, ?_⟩
  refine X.if_eq_f (tgt := 23) dX5_cable_6 (by decide) ((by decide)) ?_
  refine X.iload_n dX5_cable_9 rfl ?_
  refine X.cS1i (k' := kX5_isChannel) dX5_cable_10 v_X5_isChannel wm_X5_137 wt_X5_isChannel ⟨Nat.le_of_ble_eq_true rfl, Nat.le_of_ble_eq_true rfl⟩ n_X5_isChannel (Nat.le_of_ble_eq_true rfl) ?_
  refine m_isChannel_t (chIn ha) ?_
  refine ⟨_, rfl, ?_⟩
  refine X.if_eq_f (tgt := 23) dX5_cable_13 (by decide) ((by decide)) ?_
  refine X.iload_n dX5_cable_16 rfl ?_
  refine X.cS1i (k' := kX5_isChannel) dX5_cable_17 v_X5_isChannel wm_X5_137 wt_X5_isChannel ⟨Nat.le_of_ble_eq_true rfl, Nat.le_of_ble_eq_true rfl⟩ n_X5_isChannel (Nat.le_of_ble_eq_true rfl) ?_
  refine m_isChannel_f hd ?_
  refine ⟨_, rfl, ?_⟩
  refine X.if_ne_f (tgt := 25) dX5_cable_20 (by decide) ((by decide)) ?_
  refine X.iconst (v := -1) dX5_cable_23 (by decide) ?_
  refine X.ret dX5_cable_24 ⟨trivial, ?_⟩
  exact hq
set_option maxRecDepth 100000 in
set_option maxHeartbeats 4000000 in
theorem m_cable_full {k a b : Nat} {μ : xM} {Q : Option Value → xM → Prop} (hM : ShM μ) (hcb : WFc μ) (hk : k < 4) (ha : a < 16) (hb : b < 16) (hq24 : qM μ = 24) (hq : Q (some (.int (-2))) (μ)) : Mt kX5_cable [.ref 44, .int (nI k), .int (nI a), .int (nI b)] μ Q := by
  refine Mt.enter rfl (Nat.le_of_ble_eq_true rfl) ?_
  refine X.iload_n dX5_cable_0 rfl ?_
  refine X.iconst (v := 0) dX5_cable_1 (by decide) ?_
  refine X.iconst (v := 3) dX5_cable_2 (by decide) ?_
  refine X.cS3i (k' := kX5_isIn) dX5_cable_3 v_X5_isIn wm_X5_75 wt_X5_isIn ⟨Nat.le_of_ble_eq_true rfl, Nat.le_of_ble_eq_true rfl⟩ n_X5_isIn (Nat.le_of_ble_eq_true rfl) ?_
  refine m_isIn_t (rng_in (rng_nI (i := k) (n := 4) hk (by decide)) (by decide) rfl) ?_
  refine ⟨_, rfl, ?_⟩
  refine X.if_eq_f (tgt := 23) dX5_cable_6 (by decide) ((by decide)) ?_
  refine X.iload_n dX5_cable_9 rfl ?_
  refine X.cS1i (k' := kX5_isChannel) dX5_cable_10 v_X5_isChannel wm_X5_137 wt_X5_isChannel ⟨Nat.le_of_ble_eq_true rfl, Nat.le_of_ble_eq_true rfl⟩ n_X5_isChannel (Nat.le_of_ble_eq_true rfl) ?_
  refine m_isChannel_t (chIn ha) ?_
  refine ⟨_, rfl, ?_⟩
  refine X.if_eq_f (tgt := 23) dX5_cable_13 (by decide) ((by decide)) ?_
  refine X.iload_n dX5_cable_16 rfl ?_
  refine X.cS1i (k' := kX5_isChannel) dX5_cable_17 v_X5_isChannel wm_X5_137 wt_X5_isChannel ⟨Nat.le_of_ble_eq_true rfl, Nat.le_of_ble_eq_true rfl⟩ n_X5_isChannel (Nat.le_of_ble_eq_true rfl) ?_
  refine m_isChannel_t (chIn hb) ?_
  refine ⟨_, rfl, ?_⟩
  refine X.if_ne_t (tgt := 25) dX5_cable_20 (by decide) ((by decide)) ?_
  refine X.aload_n dX5_cable_25 rfl ?_
  refine X.getI (kf := 10) dX5_cable_26 (hM.1 44 (by decide) (by decide)) (by decide) (by decide) rfl wf_X5_79 ?_
  refine X.bipush (v := 24) dX5_cable_29 (by decide) ?_
  refine X.icmp_ne_f (tgt := 37) dX5_cable_31 (by decide) ((by rw [hcb.1.1, hq24]; rfl)) ?_
  refine X.bipush (v := -2) dX5_cable_34 (by decide) ?_
  refine X.ret dX5_cable_36 ⟨trivial, ?_⟩
  exact hq
set_option maxRecDepth 100000 in
set_option maxHeartbeats 4000000 in
theorem m_cable_in {k a b : Nat} {μ : xM} {Q : Option Value → xM → Prop} (hM : ShM μ) (hcb : WFc μ) (hk : k < 4) (ha : a < 16) (hb : b < 16) (hq24 : ¬ qM μ = 24) (hq : Q (some (.int (nI (qM μ)))) (cabNewM μ k a b)) : Mt kX5_cable [.ref 44, .int (nI k), .int (nI a), .int (nI b)] μ Q := by
  have e10 := hcb.1.1
  have l10 := hcb.1.2
  have e11 : mI μ 44 10 + 1 - 1 = nI (qM μ) := by rw [e10]; exact nI_up _
  refine Mt.enter rfl (Nat.le_of_ble_eq_true rfl) ?_
  refine X.iload_n dX5_cable_0 rfl ?_
  refine X.iconst (v := 0) dX5_cable_1 (by decide) ?_
  refine X.iconst (v := 3) dX5_cable_2 (by decide) ?_
  refine X.cS3i (k' := kX5_isIn) dX5_cable_3 v_X5_isIn wm_X5_75 wt_X5_isIn ⟨Nat.le_of_ble_eq_true rfl, Nat.le_of_ble_eq_true rfl⟩ n_X5_isIn (Nat.le_of_ble_eq_true rfl) ?_
  refine m_isIn_t (rng_in (rng_nI (i := k) (n := 4) hk (by decide)) (by decide) rfl) ?_
  refine ⟨_, rfl, ?_⟩
  refine X.if_eq_f (tgt := 23) dX5_cable_6 (by decide) ((by decide)) ?_
  refine X.iload_n dX5_cable_9 rfl ?_
  refine X.cS1i (k' := kX5_isChannel) dX5_cable_10 v_X5_isChannel wm_X5_137 wt_X5_isChannel ⟨Nat.le_of_ble_eq_true rfl, Nat.le_of_ble_eq_true rfl⟩ n_X5_isChannel (Nat.le_of_ble_eq_true rfl) ?_
  refine m_isChannel_t (chIn ha) ?_
  refine ⟨_, rfl, ?_⟩
  refine X.if_eq_f (tgt := 23) dX5_cable_13 (by decide) ((by decide)) ?_
  refine X.iload_n dX5_cable_16 rfl ?_
  refine X.cS1i (k' := kX5_isChannel) dX5_cable_17 v_X5_isChannel wm_X5_137 wt_X5_isChannel ⟨Nat.le_of_ble_eq_true rfl, Nat.le_of_ble_eq_true rfl⟩ n_X5_isChannel (Nat.le_of_ble_eq_true rfl) ?_
  refine m_isChannel_t (chIn hb) ?_
  refine ⟨_, rfl, ?_⟩
  refine X.if_ne_t (tgt := 25) dX5_cable_20 (by decide) ((by decide)) ?_
  refine X.aload_n dX5_cable_25 rfl ?_
  refine X.getI (kf := 10) dX5_cable_26 (hM.1 44 (by decide) (by decide)) (by decide) (by decide) rfl wf_X5_79 ?_
  refine X.bipush (v := 24) dX5_cable_29 (by decide) ?_
  refine X.icmp_ne_t (tgt := 37) dX5_cable_31 (by decide) ((by rw [e10]; exact nI_neq hq24 (by omega) (by decide))) ?_
  refine X.aload_n dX5_cable_37 rfl ?_
  refine X.getR (b := 54) (kf := 11) dX5_cable_38 (hM.1 44 (by decide) (by decide)) (by decide) (by decide) rfl wf_X5_39 (hM.2 11 (by decide)) ?_
  refine X.aload_n dX5_cable_41 rfl ?_
  refine X.getI (kf := 10) dX5_cable_42 (hM.1 44 (by decide) (by decide)) (by decide) (by decide) rfl wf_X5_79 ?_
  refine X.iload_n dX5_cable_45 rfl ?_
  refine X.iast dX5_cable_46 (hM.1 54 (by decide) (by decide)) (e10) (by omega) (by decide) ?_
  refine X.aload_n dX5_cable_47 rfl ?_
  refine X.getR (b := 55) (kf := 12) dX5_cable_48 (hM.1 44 (by decide) (by decide)) (by decide) (by decide) rfl wf_X5_42 (hM.2 12 (by decide)) ?_
  refine X.aload_n dX5_cable_51 rfl ?_
  refine X.getI (kf := 10) dX5_cable_52 (hM.1 44 (by decide) (by decide)) (by decide) (by decide) rfl wf_X5_79 ?_
  refine X.iload_n dX5_cable_55 rfl ?_
  refine X.iast dX5_cable_56 (hM.1 55 (by decide) (by decide)) (e10) (by omega) (by decide) ?_
  refine X.aload_n dX5_cable_57 rfl ?_
  refine X.getR (b := 56) (kf := 13) dX5_cable_58 (hM.1 44 (by decide) (by decide)) (by decide) (by decide) rfl wf_X5_45 (hM.2 13 (by decide)) ?_
  refine X.aload_n dX5_cable_61 rfl ?_
  refine X.getI (kf := 10) dX5_cable_62 (hM.1 44 (by decide) (by decide)) (by decide) (by decide) rfl wf_X5_79 ?_
  refine X.iload_n dX5_cable_65 rfl ?_
  refine X.iast dX5_cable_66 (hM.1 56 (by decide) (by decide)) (e10) (by omega) (by decide) ?_
  refine X.aload_n dX5_cable_67 rfl ?_
  refine X.getR (b := 57) (kf := 14) dX5_cable_68 (hM.1 44 (by decide) (by decide)) (by decide) (by decide) rfl wf_X5_48 (hM.2 14 (by decide)) ?_
  refine X.aload_n dX5_cable_71 rfl ?_
  refine X.getI (kf := 10) dX5_cable_72 (hM.1 44 (by decide) (by decide)) (by decide) (by decide) rfl wf_X5_79 ?_
  refine X.iconst (v := 1) dX5_cable_75 (by decide) ?_
  refine X.zast dX5_cable_76 (hM.1 57 (by decide) (by decide)) (e10) (by omega) (by decide) (Or.inr rfl) ?_
  refine X.aload_n dX5_cable_77 rfl ?_
  refine X.getR (b := 58) (kf := 15) dX5_cable_78 (hM.1 44 (by decide) (by decide)) (by decide) (by decide) rfl wf_X5_51 (hM.2 15 (by decide)) ?_
  refine X.aload_n dX5_cable_81 rfl ?_
  refine X.getI (kf := 10) dX5_cable_82 (hM.1 44 (by decide) (by decide)) (by decide) (by decide) rfl wf_X5_79 ?_
  refine X.iconst (v := 1) dX5_cable_85 (by decide) ?_
  refine X.iast dX5_cable_86 (hM.1 58 (by decide) (by decide)) (e10) (by omega) (by decide) ?_
  refine X.aload_n dX5_cable_87 rfl ?_
  refine X.dup dX5_cable_88 ?_
  refine X.getI (kf := 10) dX5_cable_89 (hM.1 44 (by decide) (by decide)) (by decide) (by decide) rfl wf_X5_79 ?_
  refine X.iconst (v := 1) dX5_cable_92 (by decide) ?_
  refine X.iadd dX5_cable_93 ?_
  refine X.putI (kf := 10) dX5_cable_94 (hM.1 44 (by decide) (by decide)) (by decide) (by decide) rfl (Or.inl rfl) ⟨rfl, rfl⟩ wf_X5_79 ?_
  refine X.aload_n dX5_cable_97 rfl ?_
  refine X.getI (kf := 10) dX5_cable_98 (hM.1 44 (by decide) (by decide)) (by decide) (by decide) rfl wf_X5_79 ?_
  refine X.iconst (v := 1) dX5_cable_101 (by decide) ?_
  refine X.isub dX5_cable_102 ?_
  refine X.ret dX5_cable_103 ⟨trivial, ?_⟩
  rw [← e11] at hq
  exact hq
set_option maxRecDepth 100000 in
set_option maxHeartbeats 4000000 in
theorem m_patience_o1 {c n : Int32} {μ : xM} {Q : Option Value → xM → Prop} (hM : ShM μ) (hcb : WFc μ) (hc : rng c (qM μ) = none) (hq : Q (some (.int (-1))) (μ)) : Mt kX5_patience [.ref 44, .int (c), .int (n)] μ Q := by
  refine Mt.enter rfl (Nat.le_of_ble_eq_true rfl) ?_
  refine X.aload_n dX5_patience_0 rfl ?_
  refine X.iload_n dX5_patience_1 rfl ?_
  refine X.cV1i (k' := kX5_isCable) dX5_patience_2 (hM.1 44 (by decide) (by decide)) ⟨by decide, rfl⟩ v_X5_isCable wm_X5_158 wi_X5_isCable ws_X5_isCable ⟨Nat.le_of_ble_eq_true rfl, Nat.le_of_ble_eq_true rfl⟩ n_X5_isCable (Nat.le_of_ble_eq_true rfl) ?_
  refine m_isCable_f hM hcb.1.1 hcb.1.2 hc ?_
  refine ⟨_, rfl, ?_⟩
  refine X.if_eq_t (tgt := 18) dX5_patience_5 (by decide) ((by decide)) ?_
  refine X.iconst (v := -1) dX5_patience_18 (by decide) ?_
  refine X.ret dX5_patience_19 ⟨trivial, ?_⟩
  exact hq
set_option maxRecDepth 100000 in
set_option maxHeartbeats 4000000 in
theorem m_patience_o2 {k : Nat} {n : Int32} {μ : xM} {Q : Option Value → xM → Prop} (hM : ShM μ) (hcb : WFc μ) (hk : k < qM μ) (hn : ¬ (1 ≤ n ∧ n ≤ 9)) (hq : Q (some (.int (-1))) (μ)) : Mt kX5_patience [.ref 44, .int (nI k), .int (n)] μ Q := by
  refine Mt.enter rfl (Nat.le_of_ble_eq_true rfl) ?_
  refine X.aload_n dX5_patience_0 rfl ?_
  refine X.iload_n dX5_patience_1 rfl ?_
  refine X.cV1i (k' := kX5_isCable) dX5_patience_2 (hM.1 44 (by decide) (by decide)) ⟨by decide, rfl⟩ v_X5_isCable wm_X5_158 wi_X5_isCable ws_X5_isCable ⟨Nat.le_of_ble_eq_true rfl, Nat.le_of_ble_eq_true rfl⟩ n_X5_isCable (Nat.le_of_ble_eq_true rfl) ?_
  refine m_isCable_t hM hcb.1.1 hcb.1.2 (rng_nI hk (by have := hcb.1.2; omega)) ?_
  refine ⟨_, rfl, ?_⟩
  refine X.if_eq_f (tgt := 18) dX5_patience_5 (by decide) ((by decide)) ?_
  refine X.iload_n dX5_patience_8 rfl ?_
  refine X.iconst (v := 1) dX5_patience_9 (by decide) ?_
  refine X.bipush (v := 9) dX5_patience_10 (by decide) ?_
  refine X.cS3i (k' := kX5_isIn) dX5_patience_12 v_X5_isIn wm_X5_75 wt_X5_isIn ⟨Nat.le_of_ble_eq_true rfl, Nat.le_of_ble_eq_true rfl⟩ n_X5_isIn (Nat.le_of_ble_eq_true rfl) ?_
  refine m_isIn_f hn ?_
  refine ⟨_, rfl, ?_⟩
  refine X.if_ne_f (tgt := 20) dX5_patience_15 (by decide) ((by decide)) ?_
  refine X.iconst (v := -1) dX5_patience_18 (by decide) ?_
  refine X.ret dX5_patience_19 ⟨trivial, ?_⟩
  exact hq
set_option maxRecDepth 100000 in
set_option maxHeartbeats 4000000 in
theorem m_patience_in {k : Nat} {n : Int32} {μ : xM} {Q : Option Value → xM → Prop} (hM : ShM μ) (hcb : WFc μ) (hk : k < qM μ) (hn : 1 ≤ n ∧ n ≤ 9) (hq : Q (some (.int (mI μ 58 k))) (sI μ 58 k n)) : Mt kX5_patience [.ref 44, .int (nI k), .int (n)] μ Q := by
  have hk24 : k < 24 := by have := hcb.1.2; omega
  refine Mt.enter rfl (Nat.le_of_ble_eq_true rfl) ?_
  refine X.aload_n dX5_patience_0 rfl ?_
  refine X.iload_n dX5_patience_1 rfl ?_
  refine X.cV1i (k' := kX5_isCable) dX5_patience_2 (hM.1 44 (by decide) (by decide)) ⟨by decide, rfl⟩ v_X5_isCable wm_X5_158 wi_X5_isCable ws_X5_isCable ⟨Nat.le_of_ble_eq_true rfl, Nat.le_of_ble_eq_true rfl⟩ n_X5_isCable (Nat.le_of_ble_eq_true rfl) ?_
  refine m_isCable_t hM hcb.1.1 hcb.1.2 (rng_nI hk (by have := hcb.1.2; omega)) ?_
  refine ⟨_, rfl, ?_⟩
  refine X.if_eq_f (tgt := 18) dX5_patience_5 (by decide) ((by decide)) ?_
  refine X.iload_n dX5_patience_8 rfl ?_
  refine X.iconst (v := 1) dX5_patience_9 (by decide) ?_
  refine X.bipush (v := 9) dX5_patience_10 (by decide) ?_
  refine X.cS3i (k' := kX5_isIn) dX5_patience_12 v_X5_isIn wm_X5_75 wt_X5_isIn ⟨Nat.le_of_ble_eq_true rfl, Nat.le_of_ble_eq_true rfl⟩ n_X5_isIn (Nat.le_of_ble_eq_true rfl) ?_
  refine m_isIn_t hn ?_
  refine ⟨_, rfl, ?_⟩
  refine X.if_ne_t (tgt := 20) dX5_patience_15 (by decide) ((by decide)) ?_
  refine X.aload_n dX5_patience_20 rfl ?_
  refine X.getR (b := 58) (kf := 15) dX5_patience_21 (hM.1 44 (by decide) (by decide)) (by decide) (by decide) rfl wf_X5_51 (hM.2 15 (by decide)) ?_
  refine X.iload_n dX5_patience_24 rfl ?_
  refine X.iald dX5_patience_25 (hM.1 58 (by decide) (by decide)) (rfl) (hk24) (by decide) ?_
  refine X.istore_n dX5_patience_26 (Nat.le_of_ble_eq_true rfl) ?_
  refine X.aload_n dX5_patience_27 rfl ?_
  refine X.getR (b := 58) (kf := 15) dX5_patience_28 (hM.1 44 (by decide) (by decide)) (by decide) (by decide) rfl wf_X5_51 (hM.2 15 (by decide)) ?_
  refine X.iload_n dX5_patience_31 rfl ?_
  refine X.iload_n dX5_patience_32 rfl ?_
  refine X.iast dX5_patience_33 (hM.1 58 (by decide) (by decide)) (rfl) (hk24) (by decide) ?_
  refine X.iload_n dX5_patience_34 rfl ?_
  refine X.ret dX5_patience_35 ⟨trivial, ?_⟩
  exact hq
set_option maxRecDepth 100000 in
set_option maxHeartbeats 4000000 in
theorem m_pull_o {c : Int32} {μ : xM} {Q : Option Value → xM → Prop} (hM : ShM μ) (hcb : WFc μ) (hc : rng c (qM μ) = none) (hq : Q (some (.int (-1))) (μ)) : Mt kX5_pull [.ref 44, .int (c)] μ Q := by
  refine Mt.enter rfl (Nat.le_of_ble_eq_true rfl) ?_
  refine X.aload_n dX5_pull_0 rfl ?_
  refine X.iload_n dX5_pull_1 rfl ?_
  refine X.cV1i (k' := kX5_isCable) dX5_pull_2 (hM.1 44 (by decide) (by decide)) ⟨by decide, rfl⟩ v_X5_isCable wm_X5_158 wi_X5_isCable ws_X5_isCable ⟨Nat.le_of_ble_eq_true rfl, Nat.le_of_ble_eq_true rfl⟩ n_X5_isCable (Nat.le_of_ble_eq_true rfl) ?_
  refine m_isCable_f hM hcb.1.1 hcb.1.2 hc ?_
  refine ⟨_, rfl, ?_⟩
  refine X.if_ne_f (tgt := 10) dX5_pull_5 (by decide) ((by decide)) ?_
  refine X.iconst (v := -1) dX5_pull_8 (by decide) ?_
  refine X.ret dX5_pull_9 ⟨trivial, ?_⟩
  exact hq
set_option maxRecDepth 100000 in
set_option maxHeartbeats 4000000 in
theorem m_pull_in {k : Nat} {μ : xM} {Q : Option Value → xM → Prop} (hM : ShM μ) (hcb : WFc μ) (hk : k < qM μ) (hq : Q (some (.int (if mI μ 57 k = 0 then 0 else 1))) (sI μ 57 k 0)) : Mt kX5_pull [.ref 44, .int (nI k)] μ Q := by
  have hk24 : k < 24 := by have := hcb.1.2; omega
  refine Mt.enter rfl (Nat.le_of_ble_eq_true rfl) ?_
  refine X.aload_n dX5_pull_0 rfl ?_
  refine X.iload_n dX5_pull_1 rfl ?_
  refine X.cV1i (k' := kX5_isCable) dX5_pull_2 (hM.1 44 (by decide) (by decide)) ⟨by decide, rfl⟩ v_X5_isCable wm_X5_158 wi_X5_isCable ws_X5_isCable ⟨Nat.le_of_ble_eq_true rfl, Nat.le_of_ble_eq_true rfl⟩ n_X5_isCable (Nat.le_of_ble_eq_true rfl) ?_
  refine m_isCable_t hM hcb.1.1 hcb.1.2 (rng_nI hk (by have := hcb.1.2; omega)) ?_
  refine ⟨_, rfl, ?_⟩
  refine X.if_ne_t (tgt := 10) dX5_pull_5 (by decide) ((by decide)) ?_
  refine X.aload_n dX5_pull_10 rfl ?_
  refine X.getR (b := 57) (kf := 14) dX5_pull_11 (hM.1 44 (by decide) (by decide)) (by decide) (by decide) rfl wf_X5_48 (hM.2 14 (by decide)) ?_
  refine X.iload_n dX5_pull_14 rfl ?_
  refine X.zald dX5_pull_15 (hM.1 57 (by decide) (by decide)) (rfl) (hk24) (by decide) ?_
  refine X.if_eq (tgt := 23) dX5_pull_16 (by decide) (fun c16 => ?_) (fun c16 => ?_)
  · refine X.iconst (v := 0) dX5_pull_23 (by decide) ?_
    refine X.istore_n dX5_pull_24 (Nat.le_of_ble_eq_true rfl) ?_
    refine X.aload_n dX5_pull_25 rfl ?_
    refine X.getR (b := 57) (kf := 14) dX5_pull_26 (hM.1 44 (by decide) (by decide)) (by decide) (by decide) rfl wf_X5_48 (hM.2 14 (by decide)) ?_
    refine X.iload_n dX5_pull_29 rfl ?_
    refine X.iconst (v := 0) dX5_pull_30 (by decide) ?_
    refine X.zast dX5_pull_31 (hM.1 57 (by decide) (by decide)) (rfl) (hk24) (by decide) (Or.inl rfl) ?_
    refine X.iload_n dX5_pull_32 rfl ?_
    refine X.ret dX5_pull_33 ⟨trivial, ?_⟩
    simp only [*, ↓reduceIte] at hq
    exact hq
  · refine X.iconst (v := 1) dX5_pull_19 (by decide) ?_
    refine X.goto (tgt := 24) dX5_pull_20 (by decide) ?_
    refine X.istore_n dX5_pull_24 (Nat.le_of_ble_eq_true rfl) ?_
    refine X.aload_n dX5_pull_25 rfl ?_
    refine X.getR (b := 57) (kf := 14) dX5_pull_26 (hM.1 44 (by decide) (by decide)) (by decide) (by decide) rfl wf_X5_48 (hM.2 14 (by decide)) ?_
    refine X.iload_n dX5_pull_29 rfl ?_
    refine X.iconst (v := 0) dX5_pull_30 (by decide) ?_
    refine X.zast dX5_pull_31 (hM.1 57 (by decide) (by decide)) (rfl) (hk24) (by decide) (Or.inl rfl) ?_
    refine X.iload_n dX5_pull_32 rfl ?_
    refine X.ret dX5_pull_33 ⟨trivial, ?_⟩
    simp only [*, ↓reduceIte] at hq
    exact hq
set_option maxRecDepth 100000 in
set_option maxHeartbeats 4000000 in
theorem m_plugIn_o {c : Int32} {μ : xM} {Q : Option Value → xM → Prop} (hM : ShM μ) (hcb : WFc μ) (hc : rng c (qM μ) = none) (hq : Q (some (.int (-1))) (μ)) : Mt kX5_plugIn [.ref 44, .int (c)] μ Q := by
  refine Mt.enter rfl (Nat.le_of_ble_eq_true rfl) ?_
  refine X.aload_n dX5_plugIn_0 rfl ?_
  refine X.iload_n dX5_plugIn_1 rfl ?_
  refine X.cV1i (k' := kX5_isCable) dX5_plugIn_2 (hM.1 44 (by decide) (by decide)) ⟨by decide, rfl⟩ v_X5_isCable wm_X5_158 wi_X5_isCable ws_X5_isCable ⟨Nat.le_of_ble_eq_true rfl, Nat.le_of_ble_eq_true rfl⟩ n_X5_isCable (Nat.le_of_ble_eq_true rfl) ?_
  refine m_isCable_f hM hcb.1.1 hcb.1.2 hc ?_
  refine ⟨_, rfl, ?_⟩
  refine X.if_ne_f (tgt := 10) dX5_plugIn_5 (by decide) ((by decide)) ?_
  refine X.iconst (v := -1) dX5_plugIn_8 (by decide) ?_
  refine X.ret dX5_plugIn_9 ⟨trivial, ?_⟩
  exact hq
set_option maxRecDepth 100000 in
set_option maxHeartbeats 4000000 in
theorem m_plugIn_in {k : Nat} {μ : xM} {Q : Option Value → xM → Prop} (hM : ShM μ) (hcb : WFc μ) (hk : k < qM μ) (hq : Q (some (.int (if mI μ 57 k = 0 then 0 else 1))) (sI (sI μ 57 k 1) 59 k 0)) : Mt kX5_plugIn [.ref 44, .int (nI k)] μ Q := by
  have hk24 : k < 24 := by have := hcb.1.2; omega
  refine Mt.enter rfl (Nat.le_of_ble_eq_true rfl) ?_
  refine X.aload_n dX5_plugIn_0 rfl ?_
  refine X.iload_n dX5_plugIn_1 rfl ?_
  refine X.cV1i (k' := kX5_isCable) dX5_plugIn_2 (hM.1 44 (by decide) (by decide)) ⟨by decide, rfl⟩ v_X5_isCable wm_X5_158 wi_X5_isCable ws_X5_isCable ⟨Nat.le_of_ble_eq_true rfl, Nat.le_of_ble_eq_true rfl⟩ n_X5_isCable (Nat.le_of_ble_eq_true rfl) ?_
  refine m_isCable_t hM hcb.1.1 hcb.1.2 (rng_nI hk (by have := hcb.1.2; omega)) ?_
  refine ⟨_, rfl, ?_⟩
  refine X.if_ne_t (tgt := 10) dX5_plugIn_5 (by decide) ((by decide)) ?_
  refine X.aload_n dX5_plugIn_10 rfl ?_
  refine X.getR (b := 57) (kf := 14) dX5_plugIn_11 (hM.1 44 (by decide) (by decide)) (by decide) (by decide) rfl wf_X5_48 (hM.2 14 (by decide)) ?_
  refine X.iload_n dX5_plugIn_14 rfl ?_
  refine X.zald dX5_plugIn_15 (hM.1 57 (by decide) (by decide)) (rfl) (hk24) (by decide) ?_
  refine X.if_eq (tgt := 23) dX5_plugIn_16 (by decide) (fun c16 => ?_) (fun c16 => ?_)
  · refine X.iconst (v := 0) dX5_plugIn_23 (by decide) ?_
    refine X.istore_n dX5_plugIn_24 (Nat.le_of_ble_eq_true rfl) ?_
    refine X.aload_n dX5_plugIn_25 rfl ?_
    refine X.getR (b := 57) (kf := 14) dX5_plugIn_26 (hM.1 44 (by decide) (by decide)) (by decide) (by decide) rfl wf_X5_48 (hM.2 14 (by decide)) ?_
    refine X.iload_n dX5_plugIn_29 rfl ?_
    refine X.iconst (v := 1) dX5_plugIn_30 (by decide) ?_
    refine X.zast dX5_plugIn_31 (hM.1 57 (by decide) (by decide)) (rfl) (hk24) (by decide) (Or.inr rfl) ?_
    refine X.aload_n dX5_plugIn_32 rfl ?_
    refine X.getR (b := 59) (kf := 16) dX5_plugIn_33 (hM.1 44 (by decide) (by decide)) (by decide) (by decide) rfl wf_X5_54 (hM.2 16 (by decide)) ?_
    refine X.iload_n dX5_plugIn_36 rfl ?_
    refine X.iconst (v := 0) dX5_plugIn_37 (by decide) ?_
    refine X.iast dX5_plugIn_38 (hM.1 59 (by decide) (by decide)) (rfl) (hk24) (by decide) ?_
    refine X.iload_n dX5_plugIn_39 rfl ?_
    refine X.ret dX5_plugIn_40 ⟨trivial, ?_⟩
    simp only [*, ↓reduceIte] at hq
    exact hq
  · refine X.iconst (v := 1) dX5_plugIn_19 (by decide) ?_
    refine X.goto (tgt := 24) dX5_plugIn_20 (by decide) ?_
    refine X.istore_n dX5_plugIn_24 (Nat.le_of_ble_eq_true rfl) ?_
    refine X.aload_n dX5_plugIn_25 rfl ?_
    refine X.getR (b := 57) (kf := 14) dX5_plugIn_26 (hM.1 44 (by decide) (by decide)) (by decide) (by decide) rfl wf_X5_48 (hM.2 14 (by decide)) ?_
    refine X.iload_n dX5_plugIn_29 rfl ?_
    refine X.iconst (v := 1) dX5_plugIn_30 (by decide) ?_
    refine X.zast dX5_plugIn_31 (hM.1 57 (by decide) (by decide)) (rfl) (hk24) (by decide) (Or.inr rfl) ?_
    refine X.aload_n dX5_plugIn_32 rfl ?_
    refine X.getR (b := 59) (kf := 16) dX5_plugIn_33 (hM.1 44 (by decide) (by decide)) (by decide) (by decide) rfl wf_X5_54 (hM.2 16 (by decide)) ?_
    refine X.iload_n dX5_plugIn_36 rfl ?_
    refine X.iconst (v := 0) dX5_plugIn_37 (by decide) ?_
    refine X.iast dX5_plugIn_38 (hM.1 59 (by decide) (by decide)) (rfl) (hk24) (by decide) ?_
    refine X.iload_n dX5_plugIn_39 rfl ?_
    refine X.ret dX5_plugIn_40 ⟨trivial, ?_⟩
    simp only [*, ↓reduceIte] at hq
    exact hq
set_option maxRecDepth 100000 in
set_option maxHeartbeats 4000000 in
theorem m_why_in  {μ : xM} {Q : Option Value → xM → Prop} (hM : ShM μ) (hq : Q (some (.int (mI μ 44 25))) (μ)) : Mt kX5_why [.ref 44] μ Q := by
  refine Mt.enter rfl (Nat.le_of_ble_eq_true rfl) ?_
  refine X.aload_n dX5_why_0 rfl ?_
  refine X.getI (kf := 25) dX5_why_1 (hM.1 44 (by decide) (by decide)) (by decide) (by decide) rfl wf_X5_83 ?_
  refine X.ret dX5_why_4 ⟨trivial, ?_⟩
  exact hq
set_option maxRecDepth 100000 in
set_option maxHeartbeats 4000000 in
theorem m_number_o {c i : Int32} {μ : xM} {Q : Option Value → xM → Prop} (hc : rng c 16 = none) (hq : Q (some (.long (0))) (μ)) : Mt kX5_number [.ref 44, .int (c), .int (i)] μ Q := by
  refine Mt.enter rfl (Nat.le_of_ble_eq_true rfl) ?_
  refine X.iload_n dX5_number_0 rfl ?_
  refine X.cS1i (k' := kX5_isChannel) dX5_number_1 v_X5_isChannel wm_X5_137 wt_X5_isChannel ⟨Nat.le_of_ble_eq_true rfl, Nat.le_of_ble_eq_true rfl⟩ n_X5_isChannel (Nat.le_of_ble_eq_true rfl) ?_
  refine m_isChannel_f hc ?_
  refine ⟨_, rfl, ?_⟩
  refine X.if_eq_t (tgt := 20) dX5_number_4 (by decide) ((by decide)) ?_
  refine X.lconst (v := 0) dX5_number_20 (by decide) ?_
  refine X.goto (tgt := 35) dX5_number_21 (by decide) ?_
  refine X.ret dX5_number_35 ⟨trivial, ?_⟩
  exact hq
set_option maxRecDepth 100000 in
set_option maxHeartbeats 4000000 in
theorem m_number_r {a : Nat} {i : Int32} {μ : xM} {Q : Option Value → xM → Prop} (hM : ShM μ) (hw : WFt μ) (ha : a < 16) (hz : ¬ noPlaceM μ a i = 0) (hq : Q (some (.long (0))) (metM μ (noPlaceM μ a i))) : Mt kX5_number [.ref 44, .int (nI a), .int (i)] μ Q := by
  refine Mt.enter rfl (Nat.le_of_ble_eq_true rfl) ?_
  refine X.iload_n dX5_number_0 rfl ?_
  refine X.cS1i (k' := kX5_isChannel) dX5_number_1 v_X5_isChannel wm_X5_137 wt_X5_isChannel ⟨Nat.le_of_ble_eq_true rfl, Nat.le_of_ble_eq_true rfl⟩ n_X5_isChannel (Nat.le_of_ble_eq_true rfl) ?_
  refine m_isChannel_t (chIn ha) ?_
  refine ⟨_, rfl, ?_⟩
  refine X.if_eq_f (tgt := 20) dX5_number_4 (by decide) ((by decide)) ?_
  refine X.aload_n dX5_number_7 rfl ?_
  refine X.aload_n dX5_number_8 rfl ?_
  refine X.iload_n dX5_number_9 rfl ?_
  refine X.iload_n dX5_number_10 rfl ?_
  refine X.cV2i (k' := kX5_noPlace) dX5_number_11 (hM.1 44 (by decide) (by decide)) ⟨by decide, rfl⟩ v_X5_noPlace wm_X5_113 wi_X5_noPlace ws_X5_noPlace ⟨Nat.le_of_ble_eq_true rfl, Nat.le_of_ble_eq_true rfl⟩ n_X5_noPlace (Nat.le_of_ble_eq_true rfl) ?_
  refine m_noPlace hM hw ha ?_
  refine ⟨_, rfl, ?_⟩
  refine X.cV1i (k' := kX5_met) dX5_number_14 (hM.1 44 (by decide) (by decide)) ⟨by decide, rfl⟩ v_X5_met wm_X5_141 wi_X5_met ws_X5_met ⟨Nat.le_of_ble_eq_true rfl, Nat.le_of_ble_eq_true rfl⟩ n_X5_met (Nat.le_of_ble_eq_true rfl) ?_
  refine m_met (r := noPlaceM μ a i) hM (by exact noPlace_le _ _ _) ?_
  refine ⟨_, rfl, ?_⟩
  refine X.if_le_f (tgt := 24) dX5_number_17 (by decide) (fun q => hz (nI_le0 q (by have := noPlace_le μ a i; omega))) ?_
  refine X.lconst (v := 0) dX5_number_20 (by decide) ?_
  refine X.goto (tgt := 35) dX5_number_21 (by decide) ?_
  refine X.ret dX5_number_35 ⟨trivial, ?_⟩
  exact hq
set_option maxRecDepth 100000 in
set_option maxHeartbeats 4000000 in
theorem m_number_in {a : Nat} {i : Int32} {μ : xM} {Q : Option Value → xM → Prop} (hM : ShM μ) (hw : WFt μ) (ha : a < 16) (hz : noPlaceM μ a i = 0) (hq : Q (some (.long (numM μ (tp μ a) (ix i)))) (metM μ 0)) : Mt kX5_number [.ref 44, .int (nI a), .int (i)] μ Q := by
  obtain ⟨h0, hr, ei, hi⟩ := noPlace_0 hz
  obtain ⟨ht, et⟩ := hw.1 _ ha h0
  generalize hj : ix i = j at *
  subst ei
  refine Mt.enter rfl (Nat.le_of_ble_eq_true rfl) ?_
  refine X.iload_n dX5_number_0 rfl ?_
  refine X.cS1i (k' := kX5_isChannel) dX5_number_1 v_X5_isChannel wm_X5_137 wt_X5_isChannel ⟨Nat.le_of_ble_eq_true rfl, Nat.le_of_ble_eq_true rfl⟩ n_X5_isChannel (Nat.le_of_ble_eq_true rfl) ?_
  refine m_isChannel_t (chIn ha) ?_
  refine ⟨_, rfl, ?_⟩
  refine X.if_eq_f (tgt := 20) dX5_number_4 (by decide) ((by decide)) ?_
  refine X.aload_n dX5_number_7 rfl ?_
  refine X.aload_n dX5_number_8 rfl ?_
  refine X.iload_n dX5_number_9 rfl ?_
  refine X.iload_n dX5_number_10 rfl ?_
  refine X.cV2i (k' := kX5_noPlace) dX5_number_11 (hM.1 44 (by decide) (by decide)) ⟨by decide, rfl⟩ v_X5_noPlace wm_X5_113 wi_X5_noPlace ws_X5_noPlace ⟨Nat.le_of_ble_eq_true rfl, Nat.le_of_ble_eq_true rfl⟩ n_X5_noPlace (Nat.le_of_ble_eq_true rfl) ?_
  refine m_noPlace hM hw ha ?_
  refine ⟨_, rfl, ?_⟩
  refine X.cV1i (k' := kX5_met) dX5_number_14 (hM.1 44 (by decide) (by decide)) ⟨by decide, rfl⟩ v_X5_met wm_X5_141 wi_X5_met ws_X5_met ⟨Nat.le_of_ble_eq_true rfl, Nat.le_of_ble_eq_true rfl⟩ n_X5_met (Nat.le_of_ble_eq_true rfl) ?_
  refine m_met (r := noPlaceM μ a (nI j)) hM (noPlace_le _ _ _) ?_
  rw [hz]
  refine ⟨_, rfl, ?_⟩
  refine X.if_le_t (tgt := 24) dX5_number_17 (by decide) ((by decide)) ?_
  refine X.aload_n dX5_number_24 rfl ?_
  refine X.aload_n dX5_number_25 rfl ?_
  refine X.getR (b := 50) (kf := 6) dX5_number_26 (hM.1 44 (by decide) (by decide)) (by decide) (by decide) rfl wf_X5_27 (hM.2 6 (by decide)) ?_
  refine X.iload_n dX5_number_29 rfl ?_
  refine X.iald dX5_number_30 (hM.1 50 (by decide) (by decide)) (rfl) (ha) (by decide) ?_
  refine X.iload_n dX5_number_31 rfl ?_
  refine X.cV2l (k' := kX5_numberOf) dX5_number_32 (hM.1 44 (by decide) (by decide)) ⟨by decide, rfl⟩ v_X5_numberOf wm_X5_165 wi_X5_numberOf ws_X5_numberOf ⟨Nat.le_of_ble_eq_true rfl, Nat.le_of_ble_eq_true rfl⟩ n_X5_numberOf (Nat.le_of_ble_eq_true rfl) ?_
  rw [show mI (metM μ 0) 50 a = nI (tp μ a) from et]
  refine m_numberOf (μ := metM μ 0) hM hw ht hi ?_
  refine ⟨_, rfl, ?_⟩
  refine X.ret dX5_number_35 ⟨trivial, ?_⟩
  exact hq
set_option maxRecDepth 100000 in
set_option maxHeartbeats 4000000 in
theorem m_kind_o {c i : Int32} {μ : xM} {Q : Option Value → xM → Prop} (hc : rng c 16 = none) (hq : Q (some (.int (-1))) (μ)) : Mt kX5_kind [.ref 44, .int (c), .int (i)] μ Q := by
  refine Mt.enter rfl (Nat.le_of_ble_eq_true rfl) ?_
  refine X.iload_n dX5_kind_0 rfl ?_
  refine X.cS1i (k' := kX5_isChannel) dX5_kind_1 v_X5_isChannel wm_X5_137 wt_X5_isChannel ⟨Nat.le_of_ble_eq_true rfl, Nat.le_of_ble_eq_true rfl⟩ n_X5_isChannel (Nat.le_of_ble_eq_true rfl) ?_
  refine m_isChannel_f hc ?_
  refine ⟨_, rfl, ?_⟩
  refine X.if_ne_f (tgt := 9) dX5_kind_4 (by decide) ((by decide)) ?_
  refine X.iconst (v := -1) dX5_kind_7 (by decide) ?_
  refine X.ret dX5_kind_8 ⟨trivial, ?_⟩
  exact hq
set_option maxRecDepth 100000 in
set_option maxHeartbeats 4000000 in
theorem m_kind_r {a : Nat} {i : Int32} {μ : xM} {Q : Option Value → xM → Prop} (hM : ShM μ) (hw : WFt μ) (ha : a < 16) (hz : ¬ noPlaceM μ a i = 0) (hq : Q (some (.int (rR (noPlaceM μ a i)))) (metM μ (noPlaceM μ a i))) : Mt kX5_kind [.ref 44, .int (nI a), .int (i)] μ Q := by
  refine Mt.enter rfl (Nat.le_of_ble_eq_true rfl) ?_
  refine X.iload_n dX5_kind_0 rfl ?_
  refine X.cS1i (k' := kX5_isChannel) dX5_kind_1 v_X5_isChannel wm_X5_137 wt_X5_isChannel ⟨Nat.le_of_ble_eq_true rfl, Nat.le_of_ble_eq_true rfl⟩ n_X5_isChannel (Nat.le_of_ble_eq_true rfl) ?_
  refine m_isChannel_t (chIn ha) ?_
  refine ⟨_, rfl, ?_⟩
  refine X.if_ne_t (tgt := 9) dX5_kind_4 (by decide) ((by decide)) ?_
  refine X.aload_n dX5_kind_9 rfl ?_
  refine X.aload_n dX5_kind_10 rfl ?_
  refine X.iload_n dX5_kind_11 rfl ?_
  refine X.iload_n dX5_kind_12 rfl ?_
  refine X.cV2i (k' := kX5_noPlace) dX5_kind_13 (hM.1 44 (by decide) (by decide)) ⟨by decide, rfl⟩ v_X5_noPlace wm_X5_113 wi_X5_noPlace ws_X5_noPlace ⟨Nat.le_of_ble_eq_true rfl, Nat.le_of_ble_eq_true rfl⟩ n_X5_noPlace (Nat.le_of_ble_eq_true rfl) ?_
  refine m_noPlace hM hw ha ?_
  refine ⟨_, rfl, ?_⟩
  refine X.cV1i (k' := kX5_met) dX5_kind_16 (hM.1 44 (by decide) (by decide)) ⟨by decide, rfl⟩ v_X5_met wm_X5_141 wi_X5_met ws_X5_met ⟨Nat.le_of_ble_eq_true rfl, Nat.le_of_ble_eq_true rfl⟩ n_X5_met (Nat.le_of_ble_eq_true rfl) ?_
  refine m_met (r := noPlaceM μ a i) hM (by exact noPlace_le _ _ _) ?_
  refine ⟨_, rfl, ?_⟩
  refine X.istore_n dX5_kind_19 (Nat.le_of_ble_eq_true rfl) ?_
  refine X.iload_n dX5_kind_20 rfl ?_
  refine X.if_le_f (tgt := 31) dX5_kind_21 (by decide) (fun q => hz (nI_le0 q (by have := noPlace_le μ a i; omega))) ?_
  refine X.bipush (v := -10) dX5_kind_24 (by decide) ?_
  refine X.iload_n dX5_kind_26 rfl ?_
  refine X.isub dX5_kind_27 ?_
  refine X.goto (tgt := 42) dX5_kind_28 (by decide) ?_
  refine X.ret dX5_kind_42 ⟨trivial, ?_⟩
  exact hq
set_option maxRecDepth 100000 in
set_option maxHeartbeats 4000000 in
theorem m_kind_in {a : Nat} {i : Int32} {μ : xM} {Q : Option Value → xM → Prop} (hM : ShM μ) (hw : WFt μ) (ha : a < 16) (hz : noPlaceM μ a i = 0) (hq : Q (some (.int (nI (cellKindM μ (tp μ a) (ix i))))) (metM μ 0)) : Mt kX5_kind [.ref 44, .int (nI a), .int (i)] μ Q := by
  obtain ⟨h0, hr, ei, hi⟩ := noPlace_0 hz
  obtain ⟨ht, et⟩ := hw.1 _ ha h0
  generalize hj : ix i = j at *
  subst ei
  refine Mt.enter rfl (Nat.le_of_ble_eq_true rfl) ?_
  refine X.iload_n dX5_kind_0 rfl ?_
  refine X.cS1i (k' := kX5_isChannel) dX5_kind_1 v_X5_isChannel wm_X5_137 wt_X5_isChannel ⟨Nat.le_of_ble_eq_true rfl, Nat.le_of_ble_eq_true rfl⟩ n_X5_isChannel (Nat.le_of_ble_eq_true rfl) ?_
  refine m_isChannel_t (chIn ha) ?_
  refine ⟨_, rfl, ?_⟩
  refine X.if_ne_t (tgt := 9) dX5_kind_4 (by decide) ((by decide)) ?_
  refine X.aload_n dX5_kind_9 rfl ?_
  refine X.aload_n dX5_kind_10 rfl ?_
  refine X.iload_n dX5_kind_11 rfl ?_
  refine X.iload_n dX5_kind_12 rfl ?_
  refine X.cV2i (k' := kX5_noPlace) dX5_kind_13 (hM.1 44 (by decide) (by decide)) ⟨by decide, rfl⟩ v_X5_noPlace wm_X5_113 wi_X5_noPlace ws_X5_noPlace ⟨Nat.le_of_ble_eq_true rfl, Nat.le_of_ble_eq_true rfl⟩ n_X5_noPlace (Nat.le_of_ble_eq_true rfl) ?_
  refine m_noPlace hM hw ha ?_
  refine ⟨_, rfl, ?_⟩
  refine X.cV1i (k' := kX5_met) dX5_kind_16 (hM.1 44 (by decide) (by decide)) ⟨by decide, rfl⟩ v_X5_met wm_X5_141 wi_X5_met ws_X5_met ⟨Nat.le_of_ble_eq_true rfl, Nat.le_of_ble_eq_true rfl⟩ n_X5_met (Nat.le_of_ble_eq_true rfl) ?_
  refine m_met (r := noPlaceM μ a (nI j)) hM (noPlace_le _ _ _) ?_
  rw [hz]
  refine ⟨_, rfl, ?_⟩
  refine X.istore_n dX5_kind_19 (Nat.le_of_ble_eq_true rfl) ?_
  refine X.iload_n dX5_kind_20 rfl ?_
  refine X.if_le_t (tgt := 31) dX5_kind_21 (by decide) ((by decide)) ?_
  refine X.aload_n dX5_kind_31 rfl ?_
  refine X.aload_n dX5_kind_32 rfl ?_
  refine X.getR (b := 50) (kf := 6) dX5_kind_33 (hM.1 44 (by decide) (by decide)) (by decide) (by decide) rfl wf_X5_27 (hM.2 6 (by decide)) ?_
  refine X.iload_n dX5_kind_36 rfl ?_
  refine X.iald dX5_kind_37 (hM.1 50 (by decide) (by decide)) (rfl) (ha) (by decide) ?_
  refine X.iload_n dX5_kind_38 rfl ?_
  refine X.cV2i (k' := kX5_cellKind) dX5_kind_39 (hM.1 44 (by decide) (by decide)) ⟨by decide, rfl⟩ v_X5_cellKind wm_X5_130 wi_X5_cellKind ws_X5_cellKind ⟨Nat.le_of_ble_eq_true rfl, Nat.le_of_ble_eq_true rfl⟩ n_X5_cellKind (Nat.le_of_ble_eq_true rfl) ?_
  rw [show mI (metM μ 0) 50 a = nI (tp μ a) from et]
  refine m_cellKind (μ := metM μ 0) hM hw ht hi ?_
  refine ⟨_, rfl, ?_⟩
  refine X.ret dX5_kind_42 ⟨trivial, ?_⟩
  exact hq
set_option maxRecDepth 100000 in
set_option maxHeartbeats 4000000 in
theorem m_cells_o {c : Int32} {μ : xM} {Q : Option Value → xM → Prop} (hc : rng c 16 = none) (hq : Q (some (.int (-1))) (μ)) : Mt kX5_cells [.ref 44, .int (c)] μ Q := by
  refine Mt.enter rfl (Nat.le_of_ble_eq_true rfl) ?_
  refine X.iload_n dX5_cells_0 rfl ?_
  refine X.cS1i (k' := kX5_isChannel) dX5_cells_1 v_X5_isChannel wm_X5_137 wt_X5_isChannel ⟨Nat.le_of_ble_eq_true rfl, Nat.le_of_ble_eq_true rfl⟩ n_X5_isChannel (Nat.le_of_ble_eq_true rfl) ?_
  refine m_isChannel_f hc ?_
  refine ⟨_, rfl, ?_⟩
  refine X.if_ne_f (tgt := 9) dX5_cells_4 (by decide) ((by decide)) ?_
  refine X.iconst (v := -1) dX5_cells_7 (by decide) ?_
  refine X.ret dX5_cells_8 ⟨trivial, ?_⟩
  exact hq
set_option maxRecDepth 100000 in
set_option maxHeartbeats 4000000 in
theorem m_cells_r {a : Nat} {μ : xM} {Q : Option Value → xM → Prop} (hM : ShM μ) (hw : WFt μ) (ha : a < 16) (h0 : ¬ noTapeM μ a = 0) (hq : Q (some (.int (rR (noTapeM μ a)))) (metM μ (noTapeM μ a))) : Mt kX5_cells [.ref 44, .int (nI a)] μ Q := by
  refine Mt.enter rfl (Nat.le_of_ble_eq_true rfl) ?_
  refine X.iload_n dX5_cells_0 rfl ?_
  refine X.cS1i (k' := kX5_isChannel) dX5_cells_1 v_X5_isChannel wm_X5_137 wt_X5_isChannel ⟨Nat.le_of_ble_eq_true rfl, Nat.le_of_ble_eq_true rfl⟩ n_X5_isChannel (Nat.le_of_ble_eq_true rfl) ?_
  refine m_isChannel_t (chIn ha) ?_
  refine ⟨_, rfl, ?_⟩
  refine X.if_ne_t (tgt := 9) dX5_cells_4 (by decide) ((by decide)) ?_
  refine X.aload_n dX5_cells_9 rfl ?_
  refine X.aload_n dX5_cells_10 rfl ?_
  refine X.iload_n dX5_cells_11 rfl ?_
  refine X.cV1i (k' := kX5_noTape) dX5_cells_12 (hM.1 44 (by decide) (by decide)) ⟨by decide, rfl⟩ v_X5_noTape wm_X5_102 wi_X5_noTape ws_X5_noTape ⟨Nat.le_of_ble_eq_true rfl, Nat.le_of_ble_eq_true rfl⟩ n_X5_noTape (Nat.le_of_ble_eq_true rfl) ?_
  refine m_noTape hM ha ?_
  refine ⟨_, rfl, ?_⟩
  refine X.cV1i (k' := kX5_met) dX5_cells_15 (hM.1 44 (by decide) (by decide)) ⟨by decide, rfl⟩ v_X5_met wm_X5_141 wi_X5_met ws_X5_met ⟨Nat.le_of_ble_eq_true rfl, Nat.le_of_ble_eq_true rfl⟩ n_X5_met (Nat.le_of_ble_eq_true rfl) ?_
  refine m_met (r := noTapeM μ a) hM (by have := noTapeM_le μ a; omega) ?_
  refine ⟨_, rfl, ?_⟩
  refine X.istore_n dX5_cells_18 (Nat.le_of_ble_eq_true rfl) ?_
  refine X.iload_n dX5_cells_19 rfl ?_
  refine X.if_le_f (tgt := 30) dX5_cells_20 (by decide) (fun q => h0 (nI_le0 q (by have := noTapeM_le μ a; omega))) ?_
  refine X.bipush (v := -10) dX5_cells_23 (by decide) ?_
  refine X.iload_n dX5_cells_25 rfl ?_
  refine X.isub dX5_cells_26 ?_
  refine X.goto (tgt := 41) dX5_cells_27 (by decide) ?_
  refine X.ret dX5_cells_41 ⟨trivial, ?_⟩
  exact hq
set_option maxRecDepth 100000 in
set_option maxHeartbeats 4000000 in
theorem m_cells_in {a : Nat} {μ : xM} {Q : Option Value → xM → Prop} (hM : ShM μ) (hw : WFt μ) (ha : a < 16) (h0 : noTapeM μ a = 0) (hq : Q (some (.int (nI (sz μ (tp μ a))))) (metM μ 0)) : Mt kX5_cells [.ref 44, .int (nI a)] μ Q := by
  obtain ⟨ht, et⟩ := hw.1 _ ha h0
  obtain ⟨⟨ek, lk⟩, es, ls⟩ := hw.2.1 _ ht
  refine Mt.enter rfl (Nat.le_of_ble_eq_true rfl) ?_
  refine X.iload_n dX5_cells_0 rfl ?_
  refine X.cS1i (k' := kX5_isChannel) dX5_cells_1 v_X5_isChannel wm_X5_137 wt_X5_isChannel ⟨Nat.le_of_ble_eq_true rfl, Nat.le_of_ble_eq_true rfl⟩ n_X5_isChannel (Nat.le_of_ble_eq_true rfl) ?_
  refine m_isChannel_t (chIn ha) ?_
  refine ⟨_, rfl, ?_⟩
  refine X.if_ne_t (tgt := 9) dX5_cells_4 (by decide) ((by decide)) ?_
  refine X.aload_n dX5_cells_9 rfl ?_
  refine X.aload_n dX5_cells_10 rfl ?_
  refine X.iload_n dX5_cells_11 rfl ?_
  refine X.cV1i (k' := kX5_noTape) dX5_cells_12 (hM.1 44 (by decide) (by decide)) ⟨by decide, rfl⟩ v_X5_noTape wm_X5_102 wi_X5_noTape ws_X5_noTape ⟨Nat.le_of_ble_eq_true rfl, Nat.le_of_ble_eq_true rfl⟩ n_X5_noTape (Nat.le_of_ble_eq_true rfl) ?_
  refine m_noTape hM ha ?_
  refine ⟨_, rfl, ?_⟩
  refine X.cV1i (k' := kX5_met) dX5_cells_15 (hM.1 44 (by decide) (by decide)) ⟨by decide, rfl⟩ v_X5_met wm_X5_141 wi_X5_met ws_X5_met ⟨Nat.le_of_ble_eq_true rfl, Nat.le_of_ble_eq_true rfl⟩ n_X5_met (Nat.le_of_ble_eq_true rfl) ?_
  refine m_met (r := noTapeM μ a) hM (by have := noTapeM_le μ a; omega) ?_
  rw [h0]
  refine ⟨_, rfl, ?_⟩
  refine X.istore_n dX5_cells_18 (Nat.le_of_ble_eq_true rfl) ?_
  refine X.iload_n dX5_cells_19 rfl ?_
  refine X.if_le_t (tgt := 30) dX5_cells_20 (by decide) ((by decide)) ?_
  refine X.aload_n dX5_cells_30 rfl ?_
  refine X.getR (b := 46) (kf := 1) dX5_cells_31 (hM.1 44 (by decide) (by decide)) (by decide) (by decide) rfl wf_X5_13 (hM.2 1 (by decide)) ?_
  refine X.aload_n dX5_cells_34 rfl ?_
  refine X.getR (b := 50) (kf := 6) dX5_cells_35 (hM.1 44 (by decide) (by decide)) (by decide) (by decide) rfl wf_X5_27 (hM.2 6 (by decide)) ?_
  refine X.iload_n dX5_cells_38 rfl ?_
  refine X.iald dX5_cells_39 (hM.1 50 (by decide) (by decide)) (rfl) (ha) (by decide) ?_
  refine X.iald dX5_cells_40 (hM.1 46 (by decide) (by decide)) (et) (ht) (by decide) ?_
  refine X.ret dX5_cells_41 ⟨trivial, ?_⟩
  rw [show mI (metM μ 0) 46 (tp μ a) = nI (sz μ (tp μ a)) from es]
  exact hq
set_option maxRecDepth 100000 in
set_option maxHeartbeats 4000000 in
theorem m_of_o1 {c w : Int32} {μ : xM} {Q : Option Value → xM → Prop} (hc : rng c 16 = none) (hq : Q (some (.int (-2147483648))) (μ)) : Mt kX5_of [.ref 44, .int (c), .int (w)] μ Q := by
  refine Mt.enter rfl (Nat.le_of_ble_eq_true rfl) ?_
  refine X.iload_n dX5_of_0 rfl ?_
  refine X.cS1i (k' := kX5_isChannel) dX5_of_1 v_X5_isChannel wm_X5_137 wt_X5_isChannel ⟨Nat.le_of_ble_eq_true rfl, Nat.le_of_ble_eq_true rfl⟩ n_X5_isChannel (Nat.le_of_ble_eq_true rfl) ?_
  refine m_isChannel_f hc ?_
  refine ⟨_, rfl, ?_⟩
  refine X.if_eq_t (tgt := 16) dX5_of_4 (by decide) ((by decide)) ?_
  refine X.ldc dX5_of_16 wk_X5_189 ?_
  refine X.ret dX5_of_18 ⟨trivial, ?_⟩
  exact hq
set_option maxRecDepth 100000 in
set_option maxHeartbeats 4000000 in
theorem m_of_o2 {a : Nat} {w : Int32} {μ : xM} {Q : Option Value → xM → Prop} (ha : a < 16) (hw : rng w 4 = none) (hq : Q (some (.int (-2147483648))) (μ)) : Mt kX5_of [.ref 44, .int (nI a), .int (w)] μ Q := by
  refine Mt.enter rfl (Nat.le_of_ble_eq_true rfl) ?_
  refine X.iload_n dX5_of_0 rfl ?_
  refine X.cS1i (k' := kX5_isChannel) dX5_of_1 v_X5_isChannel wm_X5_137 wt_X5_isChannel ⟨Nat.le_of_ble_eq_true rfl, Nat.le_of_ble_eq_true rfl⟩ n_X5_isChannel (Nat.le_of_ble_eq_true rfl) ?_
  refine m_isChannel_t (chIn ha) ?_
  refine ⟨_, rfl, ?_⟩
  refine X.if_eq_f (tgt := 16) dX5_of_4 (by decide) ((by decide)) ?_
  refine X.iload_n dX5_of_7 rfl ?_
  refine X.iconst (v := 0) dX5_of_8 (by decide) ?_
  refine X.iconst (v := 3) dX5_of_9 (by decide) ?_
  refine X.cS3i (k' := kX5_isIn) dX5_of_10 v_X5_isIn wm_X5_75 wt_X5_isIn ⟨Nat.le_of_ble_eq_true rfl, Nat.le_of_ble_eq_true rfl⟩ n_X5_isIn (Nat.le_of_ble_eq_true rfl) ?_
  refine m_isIn_f (rng_no hw (by decide) rfl) ?_
  refine ⟨_, rfl, ?_⟩
  refine X.if_ne_f (tgt := 19) dX5_of_13 (by decide) ((by decide)) ?_
  refine X.ldc dX5_of_16 wk_X5_189 ?_
  refine X.ret dX5_of_18 ⟨trivial, ?_⟩
  exact hq
set_option maxRecDepth 100000 in
set_option maxHeartbeats 4000000 in
theorem m_of_0 {a : Nat} {μ : xM} {Q : Option Value → xM → Prop} (hM : ShM μ) (ha : a < 16) (hq : Q (some (.int (mI μ 51 a))) (μ)) : Mt kX5_of [.ref 44, .int (nI a), .int (0)] μ Q := by
  refine Mt.enter rfl (Nat.le_of_ble_eq_true rfl) ?_
  refine X.iload_n dX5_of_0 rfl ?_
  refine X.cS1i (k' := kX5_isChannel) dX5_of_1 v_X5_isChannel wm_X5_137 wt_X5_isChannel ⟨Nat.le_of_ble_eq_true rfl, Nat.le_of_ble_eq_true rfl⟩ n_X5_isChannel (Nat.le_of_ble_eq_true rfl) ?_
  refine m_isChannel_t (chIn ha) ?_
  refine ⟨_, rfl, ?_⟩
  refine X.if_eq_f (tgt := 16) dX5_of_4 (by decide) ((by decide)) ?_
  refine X.iload_n dX5_of_7 rfl ?_
  refine X.iconst (v := 0) dX5_of_8 (by decide) ?_
  refine X.iconst (v := 3) dX5_of_9 (by decide) ?_
  refine X.cS3i (k' := kX5_isIn) dX5_of_10 v_X5_isIn wm_X5_75 wt_X5_isIn ⟨Nat.le_of_ble_eq_true rfl, Nat.le_of_ble_eq_true rfl⟩ n_X5_isIn (Nat.le_of_ble_eq_true rfl) ?_
  refine m_isIn_t (by decide) ?_
  refine ⟨_, rfl, ?_⟩
  refine X.if_ne_t (tgt := 19) dX5_of_13 (by decide) ((by decide)) ?_
  refine X.iload_n dX5_of_19 rfl ?_
  refine X.if_ne_f (tgt := 32) dX5_of_20 (by decide) ((by decide)) ?_
  refine X.aload_n dX5_of_23 rfl ?_
  refine X.getR (b := 51) (kf := 7) dX5_of_24 (hM.1 44 (by decide) (by decide)) (by decide) (by decide) rfl wf_X5_30 (hM.2 7 (by decide)) ?_
  refine X.iload_n dX5_of_27 rfl ?_
  refine X.iald dX5_of_28 (hM.1 51 (by decide) (by decide)) (rfl) (ha) (by decide) ?_
  refine X.goto (tgt := 73) dX5_of_29 (by decide) ?_
  refine X.ret dX5_of_73 ⟨trivial, ?_⟩
  exact hq
set_option maxRecDepth 100000 in
set_option maxHeartbeats 4000000 in
theorem m_of_1 {a : Nat} {μ : xM} {Q : Option Value → xM → Prop} (hM : ShM μ) (ha : a < 16) (hq : Q (some (.int (mI μ 52 a))) (μ)) : Mt kX5_of [.ref 44, .int (nI a), .int (1)] μ Q := by
  refine Mt.enter rfl (Nat.le_of_ble_eq_true rfl) ?_
  refine X.iload_n dX5_of_0 rfl ?_
  refine X.cS1i (k' := kX5_isChannel) dX5_of_1 v_X5_isChannel wm_X5_137 wt_X5_isChannel ⟨Nat.le_of_ble_eq_true rfl, Nat.le_of_ble_eq_true rfl⟩ n_X5_isChannel (Nat.le_of_ble_eq_true rfl) ?_
  refine m_isChannel_t (chIn ha) ?_
  refine ⟨_, rfl, ?_⟩
  refine X.if_eq_f (tgt := 16) dX5_of_4 (by decide) ((by decide)) ?_
  refine X.iload_n dX5_of_7 rfl ?_
  refine X.iconst (v := 0) dX5_of_8 (by decide) ?_
  refine X.iconst (v := 3) dX5_of_9 (by decide) ?_
  refine X.cS3i (k' := kX5_isIn) dX5_of_10 v_X5_isIn wm_X5_75 wt_X5_isIn ⟨Nat.le_of_ble_eq_true rfl, Nat.le_of_ble_eq_true rfl⟩ n_X5_isIn (Nat.le_of_ble_eq_true rfl) ?_
  refine m_isIn_t (by decide) ?_
  refine ⟨_, rfl, ?_⟩
  refine X.if_ne_t (tgt := 19) dX5_of_13 (by decide) ((by decide)) ?_
  refine X.iload_n dX5_of_19 rfl ?_
  refine X.if_ne_t (tgt := 32) dX5_of_20 (by decide) ((by decide)) ?_
  refine X.iload_n dX5_of_32 rfl ?_
  refine X.iconst (v := 1) dX5_of_33 (by decide) ?_
  refine X.icmp_ne_f (tgt := 46) dX5_of_34 (by decide) ((by decide)) ?_
  refine X.aload_n dX5_of_37 rfl ?_
  refine X.getR (b := 52) (kf := 8) dX5_of_38 (hM.1 44 (by decide) (by decide)) (by decide) (by decide) rfl wf_X5_33 (hM.2 8 (by decide)) ?_
  refine X.iload_n dX5_of_41 rfl ?_
  refine X.iald dX5_of_42 (hM.1 52 (by decide) (by decide)) (rfl) (ha) (by decide) ?_
  refine X.goto (tgt := 73) dX5_of_43 (by decide) ?_
  refine X.ret dX5_of_73 ⟨trivial, ?_⟩
  exact hq
set_option maxRecDepth 100000 in
set_option maxHeartbeats 4000000 in
theorem m_of_2 {a : Nat} {μ : xM} {Q : Option Value → xM → Prop} (hM : ShM μ) (ha : a < 16) (hq : Q (some (.int (if mI μ 53 a = 0 then 0 else 1))) (μ)) : Mt kX5_of [.ref 44, .int (nI a), .int (2)] μ Q := by
  refine Mt.enter rfl (Nat.le_of_ble_eq_true rfl) ?_
  refine X.iload_n dX5_of_0 rfl ?_
  refine X.cS1i (k' := kX5_isChannel) dX5_of_1 v_X5_isChannel wm_X5_137 wt_X5_isChannel ⟨Nat.le_of_ble_eq_true rfl, Nat.le_of_ble_eq_true rfl⟩ n_X5_isChannel (Nat.le_of_ble_eq_true rfl) ?_
  refine m_isChannel_t (chIn ha) ?_
  refine ⟨_, rfl, ?_⟩
  refine X.if_eq_f (tgt := 16) dX5_of_4 (by decide) ((by decide)) ?_
  refine X.iload_n dX5_of_7 rfl ?_
  refine X.iconst (v := 0) dX5_of_8 (by decide) ?_
  refine X.iconst (v := 3) dX5_of_9 (by decide) ?_
  refine X.cS3i (k' := kX5_isIn) dX5_of_10 v_X5_isIn wm_X5_75 wt_X5_isIn ⟨Nat.le_of_ble_eq_true rfl, Nat.le_of_ble_eq_true rfl⟩ n_X5_isIn (Nat.le_of_ble_eq_true rfl) ?_
  refine m_isIn_t (by decide) ?_
  refine ⟨_, rfl, ?_⟩
  refine X.if_ne_t (tgt := 19) dX5_of_13 (by decide) ((by decide)) ?_
  refine X.iload_n dX5_of_19 rfl ?_
  refine X.if_ne_t (tgt := 32) dX5_of_20 (by decide) ((by decide)) ?_
  refine X.iload_n dX5_of_32 rfl ?_
  refine X.iconst (v := 1) dX5_of_33 (by decide) ?_
  refine X.icmp_ne_t (tgt := 46) dX5_of_34 (by decide) ((by decide)) ?_
  refine X.iload_n dX5_of_46 rfl ?_
  refine X.iconst (v := 2) dX5_of_47 (by decide) ?_
  refine X.icmp_ne_f (tgt := 68) dX5_of_48 (by decide) ((by decide)) ?_
  refine X.aload_n dX5_of_51 rfl ?_
  refine X.getR (b := 53) (kf := 9) dX5_of_52 (hM.1 44 (by decide) (by decide)) (by decide) (by decide) rfl wf_X5_36 (hM.2 9 (by decide)) ?_
  refine X.iload_n dX5_of_55 rfl ?_
  refine X.zald dX5_of_56 (hM.1 53 (by decide) (by decide)) (rfl) (ha) (by decide) ?_
  refine X.if_eq (tgt := 64) dX5_of_57 (by decide) (fun c57 => ?_) (fun c57 => ?_)
  · refine X.iconst (v := 0) dX5_of_64 (by decide) ?_
    refine X.goto (tgt := 73) dX5_of_65 (by decide) ?_
    refine X.ret dX5_of_73 ⟨trivial, ?_⟩
    simp only [*, ↓reduceIte] at hq
    exact hq
  · refine X.iconst (v := 1) dX5_of_60 (by decide) ?_
    refine X.goto (tgt := 73) dX5_of_61 (by decide) ?_
    refine X.ret dX5_of_73 ⟨trivial, ?_⟩
    simp only [*, ↓reduceIte] at hq
    exact hq
set_option maxRecDepth 100000 in
set_option maxHeartbeats 4000000 in
theorem m_of_3 {a : Nat} {μ : xM} {Q : Option Value → xM → Prop} (hM : ShM μ) (ha : a < 16) (hq : Q (some (.int (sortM μ a))) (μ)) : Mt kX5_of [.ref 44, .int (nI a), .int (3)] μ Q := by
  refine Mt.enter rfl (Nat.le_of_ble_eq_true rfl) ?_
  refine X.iload_n dX5_of_0 rfl ?_
  refine X.cS1i (k' := kX5_isChannel) dX5_of_1 v_X5_isChannel wm_X5_137 wt_X5_isChannel ⟨Nat.le_of_ble_eq_true rfl, Nat.le_of_ble_eq_true rfl⟩ n_X5_isChannel (Nat.le_of_ble_eq_true rfl) ?_
  refine m_isChannel_t (chIn ha) ?_
  refine ⟨_, rfl, ?_⟩
  refine X.if_eq_f (tgt := 16) dX5_of_4 (by decide) ((by decide)) ?_
  refine X.iload_n dX5_of_7 rfl ?_
  refine X.iconst (v := 0) dX5_of_8 (by decide) ?_
  refine X.iconst (v := 3) dX5_of_9 (by decide) ?_
  refine X.cS3i (k' := kX5_isIn) dX5_of_10 v_X5_isIn wm_X5_75 wt_X5_isIn ⟨Nat.le_of_ble_eq_true rfl, Nat.le_of_ble_eq_true rfl⟩ n_X5_isIn (Nat.le_of_ble_eq_true rfl) ?_
  refine m_isIn_t (by decide) ?_
  refine ⟨_, rfl, ?_⟩
  refine X.if_ne_t (tgt := 19) dX5_of_13 (by decide) ((by decide)) ?_
  refine X.iload_n dX5_of_19 rfl ?_
  refine X.if_ne_t (tgt := 32) dX5_of_20 (by decide) ((by decide)) ?_
  refine X.iload_n dX5_of_32 rfl ?_
  refine X.iconst (v := 1) dX5_of_33 (by decide) ?_
  refine X.icmp_ne_t (tgt := 46) dX5_of_34 (by decide) ((by decide)) ?_
  refine X.iload_n dX5_of_46 rfl ?_
  refine X.iconst (v := 2) dX5_of_47 (by decide) ?_
  refine X.icmp_ne_t (tgt := 68) dX5_of_48 (by decide) ((by decide)) ?_
  refine X.aload_n dX5_of_68 rfl ?_
  refine X.iload_n dX5_of_69 rfl ?_
  refine X.cV1i (k' := kX5_sort) dX5_of_70 (hM.1 44 (by decide) (by decide)) ⟨by decide, rfl⟩ v_X5_sort wm_X5_147 wi_X5_sort ws_X5_sort ⟨Nat.le_of_ble_eq_true rfl, Nat.le_of_ble_eq_true rfl⟩ n_X5_sort (Nat.le_of_ble_eq_true rfl) ?_
  refine m_sort hM ha ?_
  refine ⟨_, rfl, ?_⟩
  refine X.ret dX5_of_73 ⟨trivial, ?_⟩
  exact hq
set_option maxRecDepth 100000 in
set_option maxHeartbeats 4000000 in
theorem m_told_o1 {c w : Int32} {μ : xM} {Q : Option Value → xM → Prop} (hM : ShM μ) (hcb : WFc μ) (hc : rng c (qM μ) = none) (hq : Q (some (.int (-1))) (μ)) : Mt kX5_told [.ref 44, .int (c), .int (w)] μ Q := by
  refine Mt.enter rfl (Nat.le_of_ble_eq_true rfl) ?_
  refine X.aload_n dX5_told_0 rfl ?_
  refine X.iload_n dX5_told_1 rfl ?_
  refine X.cV1i (k' := kX5_isCable) dX5_told_2 (hM.1 44 (by decide) (by decide)) ⟨by decide, rfl⟩ v_X5_isCable wm_X5_158 wi_X5_isCable ws_X5_isCable ⟨Nat.le_of_ble_eq_true rfl, Nat.le_of_ble_eq_true rfl⟩ n_X5_isCable (Nat.le_of_ble_eq_true rfl) ?_
  refine m_isCable_f hM hcb.1.1 hcb.1.2 hc ?_
  refine ⟨_, rfl, ?_⟩
  refine X.if_ne_f (tgt := 10) dX5_told_5 (by decide) ((by decide)) ?_
  refine X.iconst (v := -1) dX5_told_8 (by decide) ?_
  refine X.ret dX5_told_9 ⟨trivial, ?_⟩
  exact hq
set_option maxRecDepth 100000 in
set_option maxHeartbeats 4000000 in
theorem m_told_o2 {k : Nat} {w : Int32} {μ : xM} {Q : Option Value → xM → Prop} (hM : ShM μ) (hcb : WFc μ) (hk : k < qM μ) (hw : rng w 8 = none) (hq : Q (some (.int (-1))) (μ)) : Mt kX5_told [.ref 44, .int (nI k), .int (w)] μ Q := by
  refine Mt.enter rfl (Nat.le_of_ble_eq_true rfl) ?_
  refine X.aload_n dX5_told_0 rfl ?_
  refine X.iload_n dX5_told_1 rfl ?_
  refine X.cV1i (k' := kX5_isCable) dX5_told_2 (hM.1 44 (by decide) (by decide)) ⟨by decide, rfl⟩ v_X5_isCable wm_X5_158 wi_X5_isCable ws_X5_isCable ⟨Nat.le_of_ble_eq_true rfl, Nat.le_of_ble_eq_true rfl⟩ n_X5_isCable (Nat.le_of_ble_eq_true rfl) ?_
  refine m_isCable_t hM hcb.1.1 hcb.1.2 (rng_nI hk (by have := hcb.1.2; omega)) ?_
  refine ⟨_, rfl, ?_⟩
  refine X.if_ne_t (tgt := 10) dX5_told_5 (by decide) ((by decide)) ?_
  refine X.iload_n dX5_told_10 rfl ?_
  refine X.tabOut (tgt := 120) dX5_told_11 (by have := rng_none hw; omega) (by decide) ?_
  refine X.iconst (v := -1) dX5_told_120 (by decide) ?_
  refine X.ret dX5_told_121 ⟨trivial, ?_⟩
  exact hq
set_option maxRecDepth 100000 in
set_option maxHeartbeats 4000000 in
theorem m_told_0 {k : Nat} {μ : xM} {Q : Option Value → xM → Prop} (hM : ShM μ) (hcb : WFc μ) (hk : k < qM μ) (hq : Q (some (.int (mI μ 54 k))) (μ)) : Mt kX5_told [.ref 44, .int (nI k), .int (0)] μ Q := by
  have hk24 : k < 24 := by have := hcb.1.2; omega
  refine Mt.enter rfl (Nat.le_of_ble_eq_true rfl) ?_
  refine X.aload_n dX5_told_0 rfl ?_
  refine X.iload_n dX5_told_1 rfl ?_
  refine X.cV1i (k' := kX5_isCable) dX5_told_2 (hM.1 44 (by decide) (by decide)) ⟨by decide, rfl⟩ v_X5_isCable wm_X5_158 wi_X5_isCable ws_X5_isCable ⟨Nat.le_of_ble_eq_true rfl, Nat.le_of_ble_eq_true rfl⟩ n_X5_isCable (Nat.le_of_ble_eq_true rfl) ?_
  refine m_isCable_t hM hcb.1.1 hcb.1.2 (rng_nI hk (by have := hcb.1.2; omega)) ?_
  refine ⟨_, rfl, ?_⟩
  refine X.if_ne_t (tgt := 10) dX5_told_5 (by decide) ((by decide)) ?_
  refine X.iload_n dX5_told_10 rfl ?_
  refine X.tabIn (tgt := 56) dX5_told_11 (by decide) (by decide) (rfl) (by decide) ?_
  refine X.aload_n dX5_told_56 rfl ?_
  refine X.getR (b := 54) (kf := 11) dX5_told_57 (hM.1 44 (by decide) (by decide)) (by decide) (by decide) rfl wf_X5_39 (hM.2 11 (by decide)) ?_
  refine X.iload_n dX5_told_60 rfl ?_
  refine X.iald dX5_told_61 (hM.1 54 (by decide) (by decide)) (rfl) (hk24) (by decide) ?_
  refine X.ret dX5_told_62 ⟨trivial, ?_⟩
  exact hq
set_option maxRecDepth 100000 in
set_option maxHeartbeats 4000000 in
theorem m_told_1 {k : Nat} {μ : xM} {Q : Option Value → xM → Prop} (hM : ShM μ) (hcb : WFc μ) (hk : k < qM μ) (hq : Q (some (.int (mI μ 55 k))) (μ)) : Mt kX5_told [.ref 44, .int (nI k), .int (1)] μ Q := by
  have hk24 : k < 24 := by have := hcb.1.2; omega
  refine Mt.enter rfl (Nat.le_of_ble_eq_true rfl) ?_
  refine X.aload_n dX5_told_0 rfl ?_
  refine X.iload_n dX5_told_1 rfl ?_
  refine X.cV1i (k' := kX5_isCable) dX5_told_2 (hM.1 44 (by decide) (by decide)) ⟨by decide, rfl⟩ v_X5_isCable wm_X5_158 wi_X5_isCable ws_X5_isCable ⟨Nat.le_of_ble_eq_true rfl, Nat.le_of_ble_eq_true rfl⟩ n_X5_isCable (Nat.le_of_ble_eq_true rfl) ?_
  refine m_isCable_t hM hcb.1.1 hcb.1.2 (rng_nI hk (by have := hcb.1.2; omega)) ?_
  refine ⟨_, rfl, ?_⟩
  refine X.if_ne_t (tgt := 10) dX5_told_5 (by decide) ((by decide)) ?_
  refine X.iload_n dX5_told_10 rfl ?_
  refine X.tabIn (tgt := 63) dX5_told_11 (by decide) (by decide) (rfl) (by decide) ?_
  refine X.aload_n dX5_told_63 rfl ?_
  refine X.getR (b := 55) (kf := 12) dX5_told_64 (hM.1 44 (by decide) (by decide)) (by decide) (by decide) rfl wf_X5_42 (hM.2 12 (by decide)) ?_
  refine X.iload_n dX5_told_67 rfl ?_
  refine X.iald dX5_told_68 (hM.1 55 (by decide) (by decide)) (rfl) (hk24) (by decide) ?_
  refine X.ret dX5_told_69 ⟨trivial, ?_⟩
  exact hq
set_option maxRecDepth 100000 in
set_option maxHeartbeats 4000000 in
theorem m_told_2 {k : Nat} {μ : xM} {Q : Option Value → xM → Prop} (hM : ShM μ) (hcb : WFc μ) (hk : k < qM μ) (hq : Q (some (.int (mI μ 56 k))) (μ)) : Mt kX5_told [.ref 44, .int (nI k), .int (2)] μ Q := by
  have hk24 : k < 24 := by have := hcb.1.2; omega
  refine Mt.enter rfl (Nat.le_of_ble_eq_true rfl) ?_
  refine X.aload_n dX5_told_0 rfl ?_
  refine X.iload_n dX5_told_1 rfl ?_
  refine X.cV1i (k' := kX5_isCable) dX5_told_2 (hM.1 44 (by decide) (by decide)) ⟨by decide, rfl⟩ v_X5_isCable wm_X5_158 wi_X5_isCable ws_X5_isCable ⟨Nat.le_of_ble_eq_true rfl, Nat.le_of_ble_eq_true rfl⟩ n_X5_isCable (Nat.le_of_ble_eq_true rfl) ?_
  refine m_isCable_t hM hcb.1.1 hcb.1.2 (rng_nI hk (by have := hcb.1.2; omega)) ?_
  refine ⟨_, rfl, ?_⟩
  refine X.if_ne_t (tgt := 10) dX5_told_5 (by decide) ((by decide)) ?_
  refine X.iload_n dX5_told_10 rfl ?_
  refine X.tabIn (tgt := 70) dX5_told_11 (by decide) (by decide) (rfl) (by decide) ?_
  refine X.aload_n dX5_told_70 rfl ?_
  refine X.getR (b := 56) (kf := 13) dX5_told_71 (hM.1 44 (by decide) (by decide)) (by decide) (by decide) rfl wf_X5_45 (hM.2 13 (by decide)) ?_
  refine X.iload_n dX5_told_74 rfl ?_
  refine X.iald dX5_told_75 (hM.1 56 (by decide) (by decide)) (rfl) (hk24) (by decide) ?_
  refine X.ret dX5_told_76 ⟨trivial, ?_⟩
  exact hq
set_option maxRecDepth 100000 in
set_option maxHeartbeats 4000000 in
theorem m_told_3 {k : Nat} {μ : xM} {Q : Option Value → xM → Prop} (hM : ShM μ) (hcb : WFc μ) (hk : k < qM μ) (hq : Q (some (.int (if mI μ 57 k = 0 then 0 else 1))) (μ)) : Mt kX5_told [.ref 44, .int (nI k), .int (3)] μ Q := by
  have hk24 : k < 24 := by have := hcb.1.2; omega
  refine Mt.enter rfl (Nat.le_of_ble_eq_true rfl) ?_
  refine X.aload_n dX5_told_0 rfl ?_
  refine X.iload_n dX5_told_1 rfl ?_
  refine X.cV1i (k' := kX5_isCable) dX5_told_2 (hM.1 44 (by decide) (by decide)) ⟨by decide, rfl⟩ v_X5_isCable wm_X5_158 wi_X5_isCable ws_X5_isCable ⟨Nat.le_of_ble_eq_true rfl, Nat.le_of_ble_eq_true rfl⟩ n_X5_isCable (Nat.le_of_ble_eq_true rfl) ?_
  refine m_isCable_t hM hcb.1.1 hcb.1.2 (rng_nI hk (by have := hcb.1.2; omega)) ?_
  refine ⟨_, rfl, ?_⟩
  refine X.if_ne_t (tgt := 10) dX5_told_5 (by decide) ((by decide)) ?_
  refine X.iload_n dX5_told_10 rfl ?_
  refine X.tabIn (tgt := 77) dX5_told_11 (by decide) (by decide) (rfl) (by decide) ?_
  refine X.aload_n dX5_told_77 rfl ?_
  refine X.getR (b := 57) (kf := 14) dX5_told_78 (hM.1 44 (by decide) (by decide)) (by decide) (by decide) rfl wf_X5_48 (hM.2 14 (by decide)) ?_
  refine X.iload_n dX5_told_81 rfl ?_
  refine X.zald dX5_told_82 (hM.1 57 (by decide) (by decide)) (rfl) (hk24) (by decide) ?_
  refine X.if_eq (tgt := 90) dX5_told_83 (by decide) (fun c83 => ?_) (fun c83 => ?_)
  · refine X.iconst (v := 0) dX5_told_90 (by decide) ?_
    refine X.ret dX5_told_91 ⟨trivial, ?_⟩
    simp only [*, ↓reduceIte] at hq
    exact hq
  · refine X.iconst (v := 1) dX5_told_86 (by decide) ?_
    refine X.goto (tgt := 91) dX5_told_87 (by decide) ?_
    refine X.ret dX5_told_91 ⟨trivial, ?_⟩
    simp only [*, ↓reduceIte] at hq
    exact hq
set_option maxRecDepth 100000 in
set_option maxHeartbeats 4000000 in
theorem m_told_4 {k : Nat} {μ : xM} {Q : Option Value → xM → Prop} (hM : ShM μ) (hcb : WFc μ) (hk : k < qM μ) (hq : Q (some (.int (mI μ 58 k))) (μ)) : Mt kX5_told [.ref 44, .int (nI k), .int (4)] μ Q := by
  have hk24 : k < 24 := by have := hcb.1.2; omega
  refine Mt.enter rfl (Nat.le_of_ble_eq_true rfl) ?_
  refine X.aload_n dX5_told_0 rfl ?_
  refine X.iload_n dX5_told_1 rfl ?_
  refine X.cV1i (k' := kX5_isCable) dX5_told_2 (hM.1 44 (by decide) (by decide)) ⟨by decide, rfl⟩ v_X5_isCable wm_X5_158 wi_X5_isCable ws_X5_isCable ⟨Nat.le_of_ble_eq_true rfl, Nat.le_of_ble_eq_true rfl⟩ n_X5_isCable (Nat.le_of_ble_eq_true rfl) ?_
  refine m_isCable_t hM hcb.1.1 hcb.1.2 (rng_nI hk (by have := hcb.1.2; omega)) ?_
  refine ⟨_, rfl, ?_⟩
  refine X.if_ne_t (tgt := 10) dX5_told_5 (by decide) ((by decide)) ?_
  refine X.iload_n dX5_told_10 rfl ?_
  refine X.tabIn (tgt := 92) dX5_told_11 (by decide) (by decide) (rfl) (by decide) ?_
  refine X.aload_n dX5_told_92 rfl ?_
  refine X.getR (b := 58) (kf := 15) dX5_told_93 (hM.1 44 (by decide) (by decide)) (by decide) (by decide) rfl wf_X5_51 (hM.2 15 (by decide)) ?_
  refine X.iload_n dX5_told_96 rfl ?_
  refine X.iald dX5_told_97 (hM.1 58 (by decide) (by decide)) (rfl) (hk24) (by decide) ?_
  refine X.ret dX5_told_98 ⟨trivial, ?_⟩
  exact hq
set_option maxRecDepth 100000 in
set_option maxHeartbeats 4000000 in
theorem m_told_5 {k : Nat} {μ : xM} {Q : Option Value → xM → Prop} (hM : ShM μ) (hcb : WFc μ) (hk : k < qM μ) (hq : Q (some (.int (mI μ 59 k))) (μ)) : Mt kX5_told [.ref 44, .int (nI k), .int (5)] μ Q := by
  have hk24 : k < 24 := by have := hcb.1.2; omega
  refine Mt.enter rfl (Nat.le_of_ble_eq_true rfl) ?_
  refine X.aload_n dX5_told_0 rfl ?_
  refine X.iload_n dX5_told_1 rfl ?_
  refine X.cV1i (k' := kX5_isCable) dX5_told_2 (hM.1 44 (by decide) (by decide)) ⟨by decide, rfl⟩ v_X5_isCable wm_X5_158 wi_X5_isCable ws_X5_isCable ⟨Nat.le_of_ble_eq_true rfl, Nat.le_of_ble_eq_true rfl⟩ n_X5_isCable (Nat.le_of_ble_eq_true rfl) ?_
  refine m_isCable_t hM hcb.1.1 hcb.1.2 (rng_nI hk (by have := hcb.1.2; omega)) ?_
  refine ⟨_, rfl, ?_⟩
  refine X.if_ne_t (tgt := 10) dX5_told_5 (by decide) ((by decide)) ?_
  refine X.iload_n dX5_told_10 rfl ?_
  refine X.tabIn (tgt := 99) dX5_told_11 (by decide) (by decide) (rfl) (by decide) ?_
  refine X.aload_n dX5_told_99 rfl ?_
  refine X.getR (b := 59) (kf := 16) dX5_told_100 (hM.1 44 (by decide) (by decide)) (by decide) (by decide) rfl wf_X5_54 (hM.2 16 (by decide)) ?_
  refine X.iload_n dX5_told_103 rfl ?_
  refine X.iald dX5_told_104 (hM.1 59 (by decide) (by decide)) (rfl) (hk24) (by decide) ?_
  refine X.ret dX5_told_105 ⟨trivial, ?_⟩
  exact hq
set_option maxRecDepth 100000 in
set_option maxHeartbeats 4000000 in
theorem m_told_6 {k : Nat} {μ : xM} {Q : Option Value → xM → Prop} (hM : ShM μ) (hcb : WFc μ) (hk : k < qM μ) (hq : Q (some (.int (mI μ 60 k))) (μ)) : Mt kX5_told [.ref 44, .int (nI k), .int (6)] μ Q := by
  have hk24 : k < 24 := by have := hcb.1.2; omega
  refine Mt.enter rfl (Nat.le_of_ble_eq_true rfl) ?_
  refine X.aload_n dX5_told_0 rfl ?_
  refine X.iload_n dX5_told_1 rfl ?_
  refine X.cV1i (k' := kX5_isCable) dX5_told_2 (hM.1 44 (by decide) (by decide)) ⟨by decide, rfl⟩ v_X5_isCable wm_X5_158 wi_X5_isCable ws_X5_isCable ⟨Nat.le_of_ble_eq_true rfl, Nat.le_of_ble_eq_true rfl⟩ n_X5_isCable (Nat.le_of_ble_eq_true rfl) ?_
  refine m_isCable_t hM hcb.1.1 hcb.1.2 (rng_nI hk (by have := hcb.1.2; omega)) ?_
  refine ⟨_, rfl, ?_⟩
  refine X.if_ne_t (tgt := 10) dX5_told_5 (by decide) ((by decide)) ?_
  refine X.iload_n dX5_told_10 rfl ?_
  refine X.tabIn (tgt := 106) dX5_told_11 (by decide) (by decide) (rfl) (by decide) ?_
  refine X.aload_n dX5_told_106 rfl ?_
  refine X.getR (b := 60) (kf := 17) dX5_told_107 (hM.1 44 (by decide) (by decide)) (by decide) (by decide) rfl wf_X5_57 (hM.2 17 (by decide)) ?_
  refine X.iload_n dX5_told_110 rfl ?_
  refine X.iald dX5_told_111 (hM.1 60 (by decide) (by decide)) (rfl) (hk24) (by decide) ?_
  refine X.ret dX5_told_112 ⟨trivial, ?_⟩
  exact hq
set_option maxRecDepth 100000 in
set_option maxHeartbeats 4000000 in
theorem m_told_7 {k : Nat} {μ : xM} {Q : Option Value → xM → Prop} (hM : ShM μ) (hcb : WFc μ) (hk : k < qM μ) (hq : Q (some (.int (mI μ 61 k))) (μ)) : Mt kX5_told [.ref 44, .int (nI k), .int (7)] μ Q := by
  have hk24 : k < 24 := by have := hcb.1.2; omega
  refine Mt.enter rfl (Nat.le_of_ble_eq_true rfl) ?_
  refine X.aload_n dX5_told_0 rfl ?_
  refine X.iload_n dX5_told_1 rfl ?_
  refine X.cV1i (k' := kX5_isCable) dX5_told_2 (hM.1 44 (by decide) (by decide)) ⟨by decide, rfl⟩ v_X5_isCable wm_X5_158 wi_X5_isCable ws_X5_isCable ⟨Nat.le_of_ble_eq_true rfl, Nat.le_of_ble_eq_true rfl⟩ n_X5_isCable (Nat.le_of_ble_eq_true rfl) ?_
  refine m_isCable_t hM hcb.1.1 hcb.1.2 (rng_nI hk (by have := hcb.1.2; omega)) ?_
  refine ⟨_, rfl, ?_⟩
  refine X.if_ne_t (tgt := 10) dX5_told_5 (by decide) ((by decide)) ?_
  refine X.iload_n dX5_told_10 rfl ?_
  refine X.tabIn (tgt := 113) dX5_told_11 (by decide) (by decide) (rfl) (by decide) ?_
  refine X.aload_n dX5_told_113 rfl ?_
  refine X.getR (b := 61) (kf := 18) dX5_told_114 (hM.1 44 (by decide) (by decide)) (by decide) (by decide) rfl wf_X5_60 (hM.2 18 (by decide)) ?_
  refine X.iload_n dX5_told_117 rfl ?_
  refine X.iald dX5_told_118 (hM.1 61 (by decide) (by decide)) (rfl) (hk24) (by decide) ?_
  refine X.ret dX5_told_119 ⟨trivial, ?_⟩
  exact hq
set_option maxRecDepth 100000 in
set_option maxHeartbeats 4000000 in
theorem m_fault_o1 {i w : Int32} {μ : xM} {Q : Option Value → xM → Prop} (hi : rng i 20 = none) (hq : Q (some (.int (-1))) (μ)) : Mt kX5_fault [.ref 44, .int (i), .int (w)] μ Q := by
  refine Mt.enter rfl (Nat.le_of_ble_eq_true rfl) ?_
  refine X.iload_n dX5_fault_0 rfl ?_
  refine X.iconst (v := 0) dX5_fault_1 (by decide) ?_
  refine X.bipush (v := 19) dX5_fault_2 (by decide) ?_
  refine X.cS3i (k' := kX5_isIn) dX5_fault_4 v_X5_isIn wm_X5_75 wt_X5_isIn ⟨Nat.le_of_ble_eq_true rfl, Nat.le_of_ble_eq_true rfl⟩ n_X5_isIn (Nat.le_of_ble_eq_true rfl) ?_
  refine m_isIn_f (rng_no hi (by decide) rfl) ?_
  refine ⟨_, rfl, ?_⟩
  refine X.if_eq_t (tgt := 27) dX5_fault_7 (by decide) ((by decide)) ?_
  refine X.iconst (v := -1) dX5_fault_27 (by decide) ?_
  refine X.ret dX5_fault_28 ⟨trivial, ?_⟩
  exact hq
set_option maxRecDepth 100000 in
set_option maxHeartbeats 4000000 in
theorem m_fault_o2 {i : Nat} {w : Int32} {μ : xM} {Q : Option Value → xM → Prop} (hM : ShM μ) (hf : WFf μ) (hi : i < 20) (hn : fM μ ≤ i) (hq : Q (some (.int (-1))) (μ)) : Mt kX5_fault [.ref 44, .int (nI i), .int (w)] μ Q := by
  refine Mt.enter rfl (Nat.le_of_ble_eq_true rfl) ?_
  refine X.iload_n dX5_fault_0 rfl ?_
  refine X.iconst (v := 0) dX5_fault_1 (by decide) ?_
  refine X.bipush (v := 19) dX5_fault_2 (by decide) ?_
  refine X.cS3i (k' := kX5_isIn) dX5_fault_4 v_X5_isIn wm_X5_75 wt_X5_isIn ⟨Nat.le_of_ble_eq_true rfl, Nat.le_of_ble_eq_true rfl⟩ n_X5_isIn (Nat.le_of_ble_eq_true rfl) ?_
  refine m_isIn_t (rng_in (rng_nI (i := i) (n := 20) hi (by decide)) (by decide) rfl) ?_
  refine ⟨_, rfl, ?_⟩
  refine X.if_eq_f (tgt := 27) dX5_fault_7 (by decide) ((by decide)) ?_
  refine X.iload_n dX5_fault_10 rfl ?_
  refine X.aload_n dX5_fault_11 rfl ?_
  refine X.getI (kf := 20) dX5_fault_12 (hM.1 44 (by decide) (by decide)) (by decide) (by decide) rfl wf_X5_172 ?_
  refine X.icmp_ge_t (tgt := 27) dX5_fault_15 (by decide) ((by rw [hf.1]; exact nI_le hn (by omega))) ?_
  refine X.iconst (v := -1) dX5_fault_27 (by decide) ?_
  refine X.ret dX5_fault_28 ⟨trivial, ?_⟩
  exact hq
set_option maxRecDepth 100000 in
set_option maxHeartbeats 4000000 in
theorem m_fault_o3 {i : Nat} {w : Int32} {μ : xM} {Q : Option Value → xM → Prop} (hM : ShM μ) (hf : WFf μ) (hi : i < 20) (hn : i < fM μ) (hw : rng w 3 = none) (hq : Q (some (.int (-1))) (μ)) : Mt kX5_fault [.ref 44, .int (nI i), .int (w)] μ Q := by
  refine Mt.enter rfl (Nat.le_of_ble_eq_true rfl) ?_
  refine X.iload_n dX5_fault_0 rfl ?_
  refine X.iconst (v := 0) dX5_fault_1 (by decide) ?_
  refine X.bipush (v := 19) dX5_fault_2 (by decide) ?_
  refine X.cS3i (k' := kX5_isIn) dX5_fault_4 v_X5_isIn wm_X5_75 wt_X5_isIn ⟨Nat.le_of_ble_eq_true rfl, Nat.le_of_ble_eq_true rfl⟩ n_X5_isIn (Nat.le_of_ble_eq_true rfl) ?_
  refine m_isIn_t (rng_in (rng_nI (i := i) (n := 20) hi (by decide)) (by decide) rfl) ?_
  refine ⟨_, rfl, ?_⟩
  refine X.if_eq_f (tgt := 27) dX5_fault_7 (by decide) ((by decide)) ?_
  refine X.iload_n dX5_fault_10 rfl ?_
  refine X.aload_n dX5_fault_11 rfl ?_
  refine X.getI (kf := 20) dX5_fault_12 (hM.1 44 (by decide) (by decide)) (by decide) (by decide) rfl wf_X5_172 ?_
  refine X.icmp_ge_f (tgt := 27) dX5_fault_15 (by decide) ((by rw [hf.1]; exact nI_ge hn (by have := hf.2; omega))) ?_
  refine X.iload_n dX5_fault_18 rfl ?_
  refine X.iconst (v := 0) dX5_fault_19 (by decide) ?_
  refine X.iconst (v := 2) dX5_fault_20 (by decide) ?_
  refine X.cS3i (k' := kX5_isIn) dX5_fault_21 v_X5_isIn wm_X5_75 wt_X5_isIn ⟨Nat.le_of_ble_eq_true rfl, Nat.le_of_ble_eq_true rfl⟩ n_X5_isIn (Nat.le_of_ble_eq_true rfl) ?_
  refine m_isIn_f (rng_no hw (by decide) rfl) ?_
  refine ⟨_, rfl, ?_⟩
  refine X.if_ne_f (tgt := 29) dX5_fault_24 (by decide) ((by decide)) ?_
  refine X.iconst (v := -1) dX5_fault_27 (by decide) ?_
  refine X.ret dX5_fault_28 ⟨trivial, ?_⟩
  exact hq
set_option maxRecDepth 100000 in
set_option maxHeartbeats 4000000 in
theorem m_fault_0 {i : Nat} {μ : xM} {Q : Option Value → xM → Prop} (hM : ShM μ) (hf : WFf μ) (hi : i < 20) (hn : i < fM μ) (hq : Q (some (.int (mI μ 62 ((fM μ - 1 - i) % 20)))) (μ)) : Mt kX5_fault [.ref 44, .int (nI i), .int (0)] μ Q := by
  have hf2 := hf.2
  have e9 : mI μ 44 20 - 1 - nI i - (mI μ 44 20 - 1 - nI i) / 20 * 20 = nI ((fM μ - 1 - i) % 20) := by
    rw [hf.1, show nI (fM μ) - 1 = nI (fM μ - 1) from pk_sub (b := 1) (by omega), pk_sub (by omega)]
    exact pk_rem (d := 20) (by omega) (by decide) (by decide)
  refine Mt.enter rfl (Nat.le_of_ble_eq_true rfl) ?_
  refine X.iload_n dX5_fault_0 rfl ?_
  refine X.iconst (v := 0) dX5_fault_1 (by decide) ?_
  refine X.bipush (v := 19) dX5_fault_2 (by decide) ?_
  refine X.cS3i (k' := kX5_isIn) dX5_fault_4 v_X5_isIn wm_X5_75 wt_X5_isIn ⟨Nat.le_of_ble_eq_true rfl, Nat.le_of_ble_eq_true rfl⟩ n_X5_isIn (Nat.le_of_ble_eq_true rfl) ?_
  refine m_isIn_t (rng_in (rng_nI (i := i) (n := 20) hi (by decide)) (by decide) rfl) ?_
  refine ⟨_, rfl, ?_⟩
  refine X.if_eq_f (tgt := 27) dX5_fault_7 (by decide) ((by decide)) ?_
  refine X.iload_n dX5_fault_10 rfl ?_
  refine X.aload_n dX5_fault_11 rfl ?_
  refine X.getI (kf := 20) dX5_fault_12 (hM.1 44 (by decide) (by decide)) (by decide) (by decide) rfl wf_X5_172 ?_
  refine X.icmp_ge_f (tgt := 27) dX5_fault_15 (by decide) ((by rw [hf.1]; exact nI_ge hn (by have := hf.2; omega))) ?_
  refine X.iload_n dX5_fault_18 rfl ?_
  refine X.iconst (v := 0) dX5_fault_19 (by decide) ?_
  refine X.iconst (v := 2) dX5_fault_20 (by decide) ?_
  refine X.cS3i (k' := kX5_isIn) dX5_fault_21 v_X5_isIn wm_X5_75 wt_X5_isIn ⟨Nat.le_of_ble_eq_true rfl, Nat.le_of_ble_eq_true rfl⟩ n_X5_isIn (Nat.le_of_ble_eq_true rfl) ?_
  refine m_isIn_t (by decide) ?_
  refine ⟨_, rfl, ?_⟩
  refine X.if_ne_t (tgt := 29) dX5_fault_24 (by decide) ((by decide)) ?_
  refine X.aload_n dX5_fault_29 rfl ?_
  refine X.getI (kf := 20) dX5_fault_30 (hM.1 44 (by decide) (by decide)) (by decide) (by decide) rfl wf_X5_172 ?_
  refine X.iconst (v := 1) dX5_fault_33 (by decide) ?_
  refine X.isub dX5_fault_34 ?_
  refine X.iload_n dX5_fault_35 rfl ?_
  refine X.isub dX5_fault_36 ?_
  refine X.bipush (v := 20) dX5_fault_37 (by decide) ?_
  refine X.irem dX5_fault_39 (by decide) ?_
  refine X.istore_n dX5_fault_40 (Nat.le_of_ble_eq_true rfl) ?_
  refine X.iload_n dX5_fault_41 rfl ?_
  refine X.if_ne_f (tgt := 54) dX5_fault_42 (by decide) ((by decide)) ?_
  refine X.aload_n dX5_fault_45 rfl ?_
  refine X.getR (b := 62) (kf := 21) dX5_fault_46 (hM.1 44 (by decide) (by decide)) (by decide) (by decide) rfl wf_X5_63 (hM.2 21 (by decide)) ?_
  refine X.iload_n dX5_fault_49 rfl ?_
  refine X.iald dX5_fault_50 (hM.1 62 (by decide) (by decide)) (e9) (by omega) (by decide) ?_
  refine X.goto (tgt := 74) dX5_fault_51 (by decide) ?_
  refine X.ret dX5_fault_74 ⟨trivial, ?_⟩
  exact hq
set_option maxRecDepth 100000 in
set_option maxHeartbeats 4000000 in
theorem m_fault_1 {i : Nat} {μ : xM} {Q : Option Value → xM → Prop} (hM : ShM μ) (hf : WFf μ) (hi : i < 20) (hn : i < fM μ) (hq : Q (some (.int (mI μ 63 ((fM μ - 1 - i) % 20)))) (μ)) : Mt kX5_fault [.ref 44, .int (nI i), .int (1)] μ Q := by
  have hf2 := hf.2
  have e9 : mI μ 44 20 - 1 - nI i - (mI μ 44 20 - 1 - nI i) / 20 * 20 = nI ((fM μ - 1 - i) % 20) := by
    rw [hf.1, show nI (fM μ) - 1 = nI (fM μ - 1) from pk_sub (b := 1) (by omega), pk_sub (by omega)]
    exact pk_rem (d := 20) (by omega) (by decide) (by decide)
  refine Mt.enter rfl (Nat.le_of_ble_eq_true rfl) ?_
  refine X.iload_n dX5_fault_0 rfl ?_
  refine X.iconst (v := 0) dX5_fault_1 (by decide) ?_
  refine X.bipush (v := 19) dX5_fault_2 (by decide) ?_
  refine X.cS3i (k' := kX5_isIn) dX5_fault_4 v_X5_isIn wm_X5_75 wt_X5_isIn ⟨Nat.le_of_ble_eq_true rfl, Nat.le_of_ble_eq_true rfl⟩ n_X5_isIn (Nat.le_of_ble_eq_true rfl) ?_
  refine m_isIn_t (rng_in (rng_nI (i := i) (n := 20) hi (by decide)) (by decide) rfl) ?_
  refine ⟨_, rfl, ?_⟩
  refine X.if_eq_f (tgt := 27) dX5_fault_7 (by decide) ((by decide)) ?_
  refine X.iload_n dX5_fault_10 rfl ?_
  refine X.aload_n dX5_fault_11 rfl ?_
  refine X.getI (kf := 20) dX5_fault_12 (hM.1 44 (by decide) (by decide)) (by decide) (by decide) rfl wf_X5_172 ?_
  refine X.icmp_ge_f (tgt := 27) dX5_fault_15 (by decide) ((by rw [hf.1]; exact nI_ge hn (by have := hf.2; omega))) ?_
  refine X.iload_n dX5_fault_18 rfl ?_
  refine X.iconst (v := 0) dX5_fault_19 (by decide) ?_
  refine X.iconst (v := 2) dX5_fault_20 (by decide) ?_
  refine X.cS3i (k' := kX5_isIn) dX5_fault_21 v_X5_isIn wm_X5_75 wt_X5_isIn ⟨Nat.le_of_ble_eq_true rfl, Nat.le_of_ble_eq_true rfl⟩ n_X5_isIn (Nat.le_of_ble_eq_true rfl) ?_
  refine m_isIn_t (by decide) ?_
  refine ⟨_, rfl, ?_⟩
  refine X.if_ne_t (tgt := 29) dX5_fault_24 (by decide) ((by decide)) ?_
  refine X.aload_n dX5_fault_29 rfl ?_
  refine X.getI (kf := 20) dX5_fault_30 (hM.1 44 (by decide) (by decide)) (by decide) (by decide) rfl wf_X5_172 ?_
  refine X.iconst (v := 1) dX5_fault_33 (by decide) ?_
  refine X.isub dX5_fault_34 ?_
  refine X.iload_n dX5_fault_35 rfl ?_
  refine X.isub dX5_fault_36 ?_
  refine X.bipush (v := 20) dX5_fault_37 (by decide) ?_
  refine X.irem dX5_fault_39 (by decide) ?_
  refine X.istore_n dX5_fault_40 (Nat.le_of_ble_eq_true rfl) ?_
  refine X.iload_n dX5_fault_41 rfl ?_
  refine X.if_ne_t (tgt := 54) dX5_fault_42 (by decide) ((by decide)) ?_
  refine X.iload_n dX5_fault_54 rfl ?_
  refine X.iconst (v := 1) dX5_fault_55 (by decide) ?_
  refine X.icmp_ne_f (tgt := 68) dX5_fault_56 (by decide) ((by decide)) ?_
  refine X.aload_n dX5_fault_59 rfl ?_
  refine X.getR (b := 63) (kf := 22) dX5_fault_60 (hM.1 44 (by decide) (by decide)) (by decide) (by decide) rfl wf_X5_66 (hM.2 22 (by decide)) ?_
  refine X.iload_n dX5_fault_63 rfl ?_
  refine X.iald dX5_fault_64 (hM.1 63 (by decide) (by decide)) (e9) (by omega) (by decide) ?_
  refine X.goto (tgt := 74) dX5_fault_65 (by decide) ?_
  refine X.ret dX5_fault_74 ⟨trivial, ?_⟩
  exact hq
set_option maxRecDepth 100000 in
set_option maxHeartbeats 4000000 in
theorem m_fault_2 {i : Nat} {μ : xM} {Q : Option Value → xM → Prop} (hM : ShM μ) (hf : WFf μ) (hi : i < 20) (hn : i < fM μ) (hq : Q (some (.int (mI μ 64 ((fM μ - 1 - i) % 20)))) (μ)) : Mt kX5_fault [.ref 44, .int (nI i), .int (2)] μ Q := by
  have hf2 := hf.2
  have e9 : mI μ 44 20 - 1 - nI i - (mI μ 44 20 - 1 - nI i) / 20 * 20 = nI ((fM μ - 1 - i) % 20) := by
    rw [hf.1, show nI (fM μ) - 1 = nI (fM μ - 1) from pk_sub (b := 1) (by omega), pk_sub (by omega)]
    exact pk_rem (d := 20) (by omega) (by decide) (by decide)
  refine Mt.enter rfl (Nat.le_of_ble_eq_true rfl) ?_
  refine X.iload_n dX5_fault_0 rfl ?_
  refine X.iconst (v := 0) dX5_fault_1 (by decide) ?_
  refine X.bipush (v := 19) dX5_fault_2 (by decide) ?_
  refine X.cS3i (k' := kX5_isIn) dX5_fault_4 v_X5_isIn wm_X5_75 wt_X5_isIn ⟨Nat.le_of_ble_eq_true rfl, Nat.le_of_ble_eq_true rfl⟩ n_X5_isIn (Nat.le_of_ble_eq_true rfl) ?_
  refine m_isIn_t (rng_in (rng_nI (i := i) (n := 20) hi (by decide)) (by decide) rfl) ?_
  refine ⟨_, rfl, ?_⟩
  refine X.if_eq_f (tgt := 27) dX5_fault_7 (by decide) ((by decide)) ?_
  refine X.iload_n dX5_fault_10 rfl ?_
  refine X.aload_n dX5_fault_11 rfl ?_
  refine X.getI (kf := 20) dX5_fault_12 (hM.1 44 (by decide) (by decide)) (by decide) (by decide) rfl wf_X5_172 ?_
  refine X.icmp_ge_f (tgt := 27) dX5_fault_15 (by decide) ((by rw [hf.1]; exact nI_ge hn (by have := hf.2; omega))) ?_
  refine X.iload_n dX5_fault_18 rfl ?_
  refine X.iconst (v := 0) dX5_fault_19 (by decide) ?_
  refine X.iconst (v := 2) dX5_fault_20 (by decide) ?_
  refine X.cS3i (k' := kX5_isIn) dX5_fault_21 v_X5_isIn wm_X5_75 wt_X5_isIn ⟨Nat.le_of_ble_eq_true rfl, Nat.le_of_ble_eq_true rfl⟩ n_X5_isIn (Nat.le_of_ble_eq_true rfl) ?_
  refine m_isIn_t (by decide) ?_
  refine ⟨_, rfl, ?_⟩
  refine X.if_ne_t (tgt := 29) dX5_fault_24 (by decide) ((by decide)) ?_
  refine X.aload_n dX5_fault_29 rfl ?_
  refine X.getI (kf := 20) dX5_fault_30 (hM.1 44 (by decide) (by decide)) (by decide) (by decide) rfl wf_X5_172 ?_
  refine X.iconst (v := 1) dX5_fault_33 (by decide) ?_
  refine X.isub dX5_fault_34 ?_
  refine X.iload_n dX5_fault_35 rfl ?_
  refine X.isub dX5_fault_36 ?_
  refine X.bipush (v := 20) dX5_fault_37 (by decide) ?_
  refine X.irem dX5_fault_39 (by decide) ?_
  refine X.istore_n dX5_fault_40 (Nat.le_of_ble_eq_true rfl) ?_
  refine X.iload_n dX5_fault_41 rfl ?_
  refine X.if_ne_t (tgt := 54) dX5_fault_42 (by decide) ((by decide)) ?_
  refine X.iload_n dX5_fault_54 rfl ?_
  refine X.iconst (v := 1) dX5_fault_55 (by decide) ?_
  refine X.icmp_ne_t (tgt := 68) dX5_fault_56 (by decide) ((by decide)) ?_
  refine X.aload_n dX5_fault_68 rfl ?_
  refine X.getR (b := 64) (kf := 23) dX5_fault_69 (hM.1 44 (by decide) (by decide)) (by decide) (by decide) rfl wf_X5_69 (hM.2 23 (by decide)) ?_
  refine X.iload_n dX5_fault_72 rfl ?_
  refine X.iald dX5_fault_73 (hM.1 64 (by decide) (by decide)) (e9) (by omega) (by decide) ?_
  refine X.ret dX5_fault_74 ⟨trivial, ?_⟩
  exact hq
set_option maxRecDepth 100000 in
set_option maxHeartbeats 4000000 in
theorem m_count_o {w : Int32} {μ : xM} {Q : Option Value → xM → Prop} (hw : rng w 8 = none) (hq : Q (some (.int (-1))) (μ)) : Mt kX5_count [.ref 44, .int (w)] μ Q := by
  refine Mt.enter rfl (Nat.le_of_ble_eq_true rfl) ?_
  refine X.iload_n dX5_count_0 rfl ?_
  refine X.iconst (v := 0) dX5_count_1 (by decide) ?_
  refine X.bipush (v := 7) dX5_count_2 (by decide) ?_
  refine X.cS3i (k' := kX5_isIn) dX5_count_4 v_X5_isIn wm_X5_75 wt_X5_isIn ⟨Nat.le_of_ble_eq_true rfl, Nat.le_of_ble_eq_true rfl⟩ n_X5_isIn (Nat.le_of_ble_eq_true rfl) ?_
  refine m_isIn_f (rng_no hw (by decide) rfl) ?_
  refine ⟨_, rfl, ?_⟩
  refine X.if_ne_f (tgt := 12) dX5_count_7 (by decide) ((by decide)) ?_
  refine X.iconst (v := -1) dX5_count_10 (by decide) ?_
  refine X.ret dX5_count_11 ⟨trivial, ?_⟩
  exact hq
set_option maxRecDepth 100000 in
set_option maxHeartbeats 4000000 in
theorem m_count_0  {μ : xM} {Q : Option Value → xM → Prop} (hM : ShM μ) (hq : Q (some (.int (mI μ 44 10))) (μ)) : Mt kX5_count [.ref 44, .int (0)] μ Q := by
  refine Mt.enter rfl (Nat.le_of_ble_eq_true rfl) ?_
  refine X.iload_n dX5_count_0 rfl ?_
  refine X.iconst (v := 0) dX5_count_1 (by decide) ?_
  refine X.bipush (v := 7) dX5_count_2 (by decide) ?_
  refine X.cS3i (k' := kX5_isIn) dX5_count_4 v_X5_isIn wm_X5_75 wt_X5_isIn ⟨Nat.le_of_ble_eq_true rfl, Nat.le_of_ble_eq_true rfl⟩ n_X5_isIn (Nat.le_of_ble_eq_true rfl) ?_
  refine m_isIn_t (by decide) ?_
  refine ⟨_, rfl, ?_⟩
  refine X.if_ne_t (tgt := 12) dX5_count_7 (by decide) ((by decide)) ?_
  refine X.iload_n dX5_count_12 rfl ?_
  refine X.if_ne_f (tgt := 23) dX5_count_13 (by decide) ((by decide)) ?_
  refine X.aload_n dX5_count_16 rfl ?_
  refine X.getI (kf := 10) dX5_count_17 (hM.1 44 (by decide) (by decide)) (by decide) (by decide) rfl wf_X5_79 ?_
  refine X.goto (tgt := 55) dX5_count_20 (by decide) ?_
  refine X.ret dX5_count_55 ⟨trivial, ?_⟩
  exact hq
set_option maxRecDepth 100000 in
set_option maxHeartbeats 4000000 in
theorem m_count_1  {μ : xM} {Q : Option Value → xM → Prop} (hM : ShM μ) (hq : Q (some (.int (mI μ 44 19))) (μ)) : Mt kX5_count [.ref 44, .int (1)] μ Q := by
  refine Mt.enter rfl (Nat.le_of_ble_eq_true rfl) ?_
  refine X.iload_n dX5_count_0 rfl ?_
  refine X.iconst (v := 0) dX5_count_1 (by decide) ?_
  refine X.bipush (v := 7) dX5_count_2 (by decide) ?_
  refine X.cS3i (k' := kX5_isIn) dX5_count_4 v_X5_isIn wm_X5_75 wt_X5_isIn ⟨Nat.le_of_ble_eq_true rfl, Nat.le_of_ble_eq_true rfl⟩ n_X5_isIn (Nat.le_of_ble_eq_true rfl) ?_
  refine m_isIn_t (by decide) ?_
  refine ⟨_, rfl, ?_⟩
  refine X.if_ne_t (tgt := 12) dX5_count_7 (by decide) ((by decide)) ?_
  refine X.iload_n dX5_count_12 rfl ?_
  refine X.if_ne_t (tgt := 23) dX5_count_13 (by decide) ((by decide)) ?_
  refine X.iload_n dX5_count_23 rfl ?_
  refine X.iconst (v := 1) dX5_count_24 (by decide) ?_
  refine X.icmp_ne_f (tgt := 35) dX5_count_25 (by decide) ((by decide)) ?_
  refine X.aload_n dX5_count_28 rfl ?_
  refine X.getI (kf := 19) dX5_count_29 (hM.1 44 (by decide) (by decide)) (by decide) (by decide) rfl wf_X5_175 ?_
  refine X.goto (tgt := 55) dX5_count_32 (by decide) ?_
  refine X.ret dX5_count_55 ⟨trivial, ?_⟩
  exact hq
set_option maxRecDepth 100000 in
set_option maxHeartbeats 4000000 in
theorem m_count_2  {μ : xM} {Q : Option Value → xM → Prop} (hM : ShM μ) (hq : Q (some (.int (mI μ 44 20))) (μ)) : Mt kX5_count [.ref 44, .int (2)] μ Q := by
  refine Mt.enter rfl (Nat.le_of_ble_eq_true rfl) ?_
  refine X.iload_n dX5_count_0 rfl ?_
  refine X.iconst (v := 0) dX5_count_1 (by decide) ?_
  refine X.bipush (v := 7) dX5_count_2 (by decide) ?_
  refine X.cS3i (k' := kX5_isIn) dX5_count_4 v_X5_isIn wm_X5_75 wt_X5_isIn ⟨Nat.le_of_ble_eq_true rfl, Nat.le_of_ble_eq_true rfl⟩ n_X5_isIn (Nat.le_of_ble_eq_true rfl) ?_
  refine m_isIn_t (by decide) ?_
  refine ⟨_, rfl, ?_⟩
  refine X.if_ne_t (tgt := 12) dX5_count_7 (by decide) ((by decide)) ?_
  refine X.iload_n dX5_count_12 rfl ?_
  refine X.if_ne_t (tgt := 23) dX5_count_13 (by decide) ((by decide)) ?_
  refine X.iload_n dX5_count_23 rfl ?_
  refine X.iconst (v := 1) dX5_count_24 (by decide) ?_
  refine X.icmp_ne_t (tgt := 35) dX5_count_25 (by decide) ((by decide)) ?_
  refine X.iload_n dX5_count_35 rfl ?_
  refine X.iconst (v := 2) dX5_count_36 (by decide) ?_
  refine X.icmp_ne_f (tgt := 47) dX5_count_37 (by decide) ((by decide)) ?_
  refine X.aload_n dX5_count_40 rfl ?_
  refine X.getI (kf := 20) dX5_count_41 (hM.1 44 (by decide) (by decide)) (by decide) (by decide) rfl wf_X5_172 ?_
  refine X.goto (tgt := 55) dX5_count_44 (by decide) ?_
  refine X.ret dX5_count_55 ⟨trivial, ?_⟩
  exact hq
set_option maxRecDepth 100000 in
set_option maxHeartbeats 4000000 in
theorem m_count_3  {μ : xM} {Q : Option Value → xM → Prop} (hM : ShM μ) (hq : Q (some (.int (mI μ 65 1))) (μ)) : Mt kX5_count [.ref 44, .int (3)] μ Q := by
  refine Mt.enter rfl (Nat.le_of_ble_eq_true rfl) ?_
  refine X.iload_n dX5_count_0 rfl ?_
  refine X.iconst (v := 0) dX5_count_1 (by decide) ?_
  refine X.bipush (v := 7) dX5_count_2 (by decide) ?_
  refine X.cS3i (k' := kX5_isIn) dX5_count_4 v_X5_isIn wm_X5_75 wt_X5_isIn ⟨Nat.le_of_ble_eq_true rfl, Nat.le_of_ble_eq_true rfl⟩ n_X5_isIn (Nat.le_of_ble_eq_true rfl) ?_
  refine m_isIn_t (by decide) ?_
  refine ⟨_, rfl, ?_⟩
  refine X.if_ne_t (tgt := 12) dX5_count_7 (by decide) ((by decide)) ?_
  refine X.iload_n dX5_count_12 rfl ?_
  refine X.if_ne_t (tgt := 23) dX5_count_13 (by decide) ((by decide)) ?_
  refine X.iload_n dX5_count_23 rfl ?_
  refine X.iconst (v := 1) dX5_count_24 (by decide) ?_
  refine X.icmp_ne_t (tgt := 35) dX5_count_25 (by decide) ((by decide)) ?_
  refine X.iload_n dX5_count_35 rfl ?_
  refine X.iconst (v := 2) dX5_count_36 (by decide) ?_
  refine X.icmp_ne_t (tgt := 47) dX5_count_37 (by decide) ((by decide)) ?_
  refine X.aload_n dX5_count_47 rfl ?_
  refine X.getR (b := 65) (kf := 24) dX5_count_48 (hM.1 44 (by decide) (by decide)) (by decide) (by decide) rfl wf_X5_72 (hM.2 24 (by decide)) ?_
  refine X.iload_n dX5_count_51 rfl ?_
  refine X.iconst (v := 2) dX5_count_52 (by decide) ?_
  refine X.isub dX5_count_53 ?_
  refine X.iald dX5_count_54 (hM.1 65 (by decide) (by decide)) ((by decide : (_ : Int32) = nI (1))) (by decide) (by decide) ?_
  refine X.ret dX5_count_55 ⟨trivial, ?_⟩
  exact hq
set_option maxRecDepth 100000 in
set_option maxHeartbeats 4000000 in
theorem m_count_4  {μ : xM} {Q : Option Value → xM → Prop} (hM : ShM μ) (hq : Q (some (.int (mI μ 65 2))) (μ)) : Mt kX5_count [.ref 44, .int (4)] μ Q := by
  refine Mt.enter rfl (Nat.le_of_ble_eq_true rfl) ?_
  refine X.iload_n dX5_count_0 rfl ?_
  refine X.iconst (v := 0) dX5_count_1 (by decide) ?_
  refine X.bipush (v := 7) dX5_count_2 (by decide) ?_
  refine X.cS3i (k' := kX5_isIn) dX5_count_4 v_X5_isIn wm_X5_75 wt_X5_isIn ⟨Nat.le_of_ble_eq_true rfl, Nat.le_of_ble_eq_true rfl⟩ n_X5_isIn (Nat.le_of_ble_eq_true rfl) ?_
  refine m_isIn_t (by decide) ?_
  refine ⟨_, rfl, ?_⟩
  refine X.if_ne_t (tgt := 12) dX5_count_7 (by decide) ((by decide)) ?_
  refine X.iload_n dX5_count_12 rfl ?_
  refine X.if_ne_t (tgt := 23) dX5_count_13 (by decide) ((by decide)) ?_
  refine X.iload_n dX5_count_23 rfl ?_
  refine X.iconst (v := 1) dX5_count_24 (by decide) ?_
  refine X.icmp_ne_t (tgt := 35) dX5_count_25 (by decide) ((by decide)) ?_
  refine X.iload_n dX5_count_35 rfl ?_
  refine X.iconst (v := 2) dX5_count_36 (by decide) ?_
  refine X.icmp_ne_t (tgt := 47) dX5_count_37 (by decide) ((by decide)) ?_
  refine X.aload_n dX5_count_47 rfl ?_
  refine X.getR (b := 65) (kf := 24) dX5_count_48 (hM.1 44 (by decide) (by decide)) (by decide) (by decide) rfl wf_X5_72 (hM.2 24 (by decide)) ?_
  refine X.iload_n dX5_count_51 rfl ?_
  refine X.iconst (v := 2) dX5_count_52 (by decide) ?_
  refine X.isub dX5_count_53 ?_
  refine X.iald dX5_count_54 (hM.1 65 (by decide) (by decide)) ((by decide : (_ : Int32) = nI (2))) (by decide) (by decide) ?_
  refine X.ret dX5_count_55 ⟨trivial, ?_⟩
  exact hq
set_option maxRecDepth 100000 in
set_option maxHeartbeats 4000000 in
theorem m_count_5  {μ : xM} {Q : Option Value → xM → Prop} (hM : ShM μ) (hq : Q (some (.int (mI μ 65 3))) (μ)) : Mt kX5_count [.ref 44, .int (5)] μ Q := by
  refine Mt.enter rfl (Nat.le_of_ble_eq_true rfl) ?_
  refine X.iload_n dX5_count_0 rfl ?_
  refine X.iconst (v := 0) dX5_count_1 (by decide) ?_
  refine X.bipush (v := 7) dX5_count_2 (by decide) ?_
  refine X.cS3i (k' := kX5_isIn) dX5_count_4 v_X5_isIn wm_X5_75 wt_X5_isIn ⟨Nat.le_of_ble_eq_true rfl, Nat.le_of_ble_eq_true rfl⟩ n_X5_isIn (Nat.le_of_ble_eq_true rfl) ?_
  refine m_isIn_t (by decide) ?_
  refine ⟨_, rfl, ?_⟩
  refine X.if_ne_t (tgt := 12) dX5_count_7 (by decide) ((by decide)) ?_
  refine X.iload_n dX5_count_12 rfl ?_
  refine X.if_ne_t (tgt := 23) dX5_count_13 (by decide) ((by decide)) ?_
  refine X.iload_n dX5_count_23 rfl ?_
  refine X.iconst (v := 1) dX5_count_24 (by decide) ?_
  refine X.icmp_ne_t (tgt := 35) dX5_count_25 (by decide) ((by decide)) ?_
  refine X.iload_n dX5_count_35 rfl ?_
  refine X.iconst (v := 2) dX5_count_36 (by decide) ?_
  refine X.icmp_ne_t (tgt := 47) dX5_count_37 (by decide) ((by decide)) ?_
  refine X.aload_n dX5_count_47 rfl ?_
  refine X.getR (b := 65) (kf := 24) dX5_count_48 (hM.1 44 (by decide) (by decide)) (by decide) (by decide) rfl wf_X5_72 (hM.2 24 (by decide)) ?_
  refine X.iload_n dX5_count_51 rfl ?_
  refine X.iconst (v := 2) dX5_count_52 (by decide) ?_
  refine X.isub dX5_count_53 ?_
  refine X.iald dX5_count_54 (hM.1 65 (by decide) (by decide)) ((by decide : (_ : Int32) = nI (3))) (by decide) (by decide) ?_
  refine X.ret dX5_count_55 ⟨trivial, ?_⟩
  exact hq
set_option maxRecDepth 100000 in
set_option maxHeartbeats 4000000 in
theorem m_count_6  {μ : xM} {Q : Option Value → xM → Prop} (hM : ShM μ) (hq : Q (some (.int (mI μ 65 4))) (μ)) : Mt kX5_count [.ref 44, .int (6)] μ Q := by
  refine Mt.enter rfl (Nat.le_of_ble_eq_true rfl) ?_
  refine X.iload_n dX5_count_0 rfl ?_
  refine X.iconst (v := 0) dX5_count_1 (by decide) ?_
  refine X.bipush (v := 7) dX5_count_2 (by decide) ?_
  refine X.cS3i (k' := kX5_isIn) dX5_count_4 v_X5_isIn wm_X5_75 wt_X5_isIn ⟨Nat.le_of_ble_eq_true rfl, Nat.le_of_ble_eq_true rfl⟩ n_X5_isIn (Nat.le_of_ble_eq_true rfl) ?_
  refine m_isIn_t (by decide) ?_
  refine ⟨_, rfl, ?_⟩
  refine X.if_ne_t (tgt := 12) dX5_count_7 (by decide) ((by decide)) ?_
  refine X.iload_n dX5_count_12 rfl ?_
  refine X.if_ne_t (tgt := 23) dX5_count_13 (by decide) ((by decide)) ?_
  refine X.iload_n dX5_count_23 rfl ?_
  refine X.iconst (v := 1) dX5_count_24 (by decide) ?_
  refine X.icmp_ne_t (tgt := 35) dX5_count_25 (by decide) ((by decide)) ?_
  refine X.iload_n dX5_count_35 rfl ?_
  refine X.iconst (v := 2) dX5_count_36 (by decide) ?_
  refine X.icmp_ne_t (tgt := 47) dX5_count_37 (by decide) ((by decide)) ?_
  refine X.aload_n dX5_count_47 rfl ?_
  refine X.getR (b := 65) (kf := 24) dX5_count_48 (hM.1 44 (by decide) (by decide)) (by decide) (by decide) rfl wf_X5_72 (hM.2 24 (by decide)) ?_
  refine X.iload_n dX5_count_51 rfl ?_
  refine X.iconst (v := 2) dX5_count_52 (by decide) ?_
  refine X.isub dX5_count_53 ?_
  refine X.iald dX5_count_54 (hM.1 65 (by decide) (by decide)) ((by decide : (_ : Int32) = nI (4))) (by decide) (by decide) ?_
  refine X.ret dX5_count_55 ⟨trivial, ?_⟩
  exact hq
set_option maxRecDepth 100000 in
set_option maxHeartbeats 4000000 in
theorem m_count_7  {μ : xM} {Q : Option Value → xM → Prop} (hM : ShM μ) (hq : Q (some (.int (mI μ 65 5))) (μ)) : Mt kX5_count [.ref 44, .int (7)] μ Q := by
  refine Mt.enter rfl (Nat.le_of_ble_eq_true rfl) ?_
  refine X.iload_n dX5_count_0 rfl ?_
  refine X.iconst (v := 0) dX5_count_1 (by decide) ?_
  refine X.bipush (v := 7) dX5_count_2 (by decide) ?_
  refine X.cS3i (k' := kX5_isIn) dX5_count_4 v_X5_isIn wm_X5_75 wt_X5_isIn ⟨Nat.le_of_ble_eq_true rfl, Nat.le_of_ble_eq_true rfl⟩ n_X5_isIn (Nat.le_of_ble_eq_true rfl) ?_
  refine m_isIn_t (by decide) ?_
  refine ⟨_, rfl, ?_⟩
  refine X.if_ne_t (tgt := 12) dX5_count_7 (by decide) ((by decide)) ?_
  refine X.iload_n dX5_count_12 rfl ?_
  refine X.if_ne_t (tgt := 23) dX5_count_13 (by decide) ((by decide)) ?_
  refine X.iload_n dX5_count_23 rfl ?_
  refine X.iconst (v := 1) dX5_count_24 (by decide) ?_
  refine X.icmp_ne_t (tgt := 35) dX5_count_25 (by decide) ((by decide)) ?_
  refine X.iload_n dX5_count_35 rfl ?_
  refine X.iconst (v := 2) dX5_count_36 (by decide) ?_
  refine X.icmp_ne_t (tgt := 47) dX5_count_37 (by decide) ((by decide)) ?_
  refine X.aload_n dX5_count_47 rfl ?_
  refine X.getR (b := 65) (kf := 24) dX5_count_48 (hM.1 44 (by decide) (by decide)) (by decide) (by decide) rfl wf_X5_72 (hM.2 24 (by decide)) ?_
  refine X.iload_n dX5_count_51 rfl ?_
  refine X.iconst (v := 2) dX5_count_52 (by decide) ?_
  refine X.isub dX5_count_53 ?_
  refine X.iald dX5_count_54 (hM.1 65 (by decide) (by decide)) ((by decide : (_ : Int32) = nI (5))) (by decide) (by decide) ?_
  refine X.ret dX5_count_55 ⟨trivial, ?_⟩
  exact hq
