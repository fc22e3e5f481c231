/-! the reference: what its calls answer, case by case (laid by wip/whole/mkmodela.py) -/
def rR (r : Nat) : Int32 := -10 - nI r
theorem chIn {a : Nat} (h : a < 16) : rng (nI a) 16 = some a := rng_nI h (by decide)
theorem le_of_nI {n m : Nat} (h : n ≤ m) (hm : m < 2 ^ 31) : nI n ≤ nI m := nI_le h hm
theorem toInt_m1 : (-1 : Int64).toInt32 = -1 := by decide
set_option maxRecDepth 100000 in
set_option maxHeartbeats 4000000 in
theorem m_tape_o1 {c k n : Int32} {μ : xM} {Q : Option Value → xM → Prop} (hc : rng c 16 = none) (hq : Q (some (.int (-1))) (μ)) : Mt kX5_tape [.ref 44, .int (c), .int (k), .int (n)] μ Q := by
  refine Mt.enter rfl (Nat.le_of_ble_eq_true rfl) ?_
  refine X.iload_n dX5_tape_0 rfl ?_
  refine X.cS1i (k' := kX5_isChannel) dX5_tape_1 v_X5_isChannel wm_X5_137 wt_X5_isChannel ⟨Nat.le_of_ble_eq_true rfl, Nat.le_of_ble_eq_true rfl⟩ n_X5_isChannel (Nat.le_of_ble_eq_true rfl) ?_
  refine m_isChannel_f hc ?_
  refine ⟨_, rfl, ?_⟩
  refine X.if_eq_t (tgt := 23) dX5_tape_4 (by decide) ((by decide)) ?_
  refine X.iconst (v := -1) dX5_tape_23 (by decide) ?_
  refine X.ret dX5_tape_24 ⟨trivial, ?_⟩
  exact hq
set_option maxRecDepth 100000 in
set_option maxHeartbeats 4000000 in
theorem m_tape_o2 {a : Nat} {k n : Int32} {μ : xM} {Q : Option Value → xM → Prop} (ha : a < 16) (hk : rng k 11 = none) (hq : Q (some (.int (-1))) (μ)) : Mt kX5_tape [.ref 44, .int (nI a), .int (k), .int (n)] μ Q := by
  refine Mt.enter rfl (Nat.le_of_ble_eq_true rfl) ?_
  refine X.iload_n dX5_tape_0 rfl ?_
  refine X.cS1i (k' := kX5_isChannel) dX5_tape_1 v_X5_isChannel wm_X5_137 wt_X5_isChannel ⟨Nat.le_of_ble_eq_true rfl, Nat.le_of_ble_eq_true rfl⟩ n_X5_isChannel (Nat.le_of_ble_eq_true rfl) ?_
  refine m_isChannel_t (chIn ha) ?_
  refine ⟨_, rfl, ?_⟩
  refine X.if_eq_f (tgt := 23) dX5_tape_4 (by decide) ((by decide)) ?_
  refine X.iload_n dX5_tape_7 rfl ?_
  refine X.iconst (v := 0) dX5_tape_8 (by decide) ?_
  refine X.bipush (v := 10) dX5_tape_9 (by decide) ?_
  refine X.cS3i (k' := kX5_isIn) dX5_tape_11 v_X5_isIn wm_X5_75 wt_X5_isIn ⟨Nat.le_of_ble_eq_true rfl, Nat.le_of_ble_eq_true rfl⟩ n_X5_isIn (Nat.le_of_ble_eq_true rfl) ?_
  refine m_isIn_f (rng_no hk (by decide) rfl) ?_
  refine ⟨_, rfl, ?_⟩
  refine X.if_eq_t (tgt := 23) dX5_tape_14 (by decide) ((by decide)) ?_
  refine X.iconst (v := -1) dX5_tape_23 (by decide) ?_
  refine X.ret dX5_tape_24 ⟨trivial, ?_⟩
  exact hq
set_option maxRecDepth 100000 in
set_option maxHeartbeats 4000000 in
theorem m_tape_o3 {a k : Nat} {n : Int32} {μ : xM} {Q : Option Value → xM → Prop} (ha : a < 16) (hk : k ≤ 10) (hn : 32 < n) (hq : Q (some (.int (-1))) (μ)) : Mt kX5_tape [.ref 44, .int (nI a), .int (nI k), .int (n)] μ Q := by
  refine Mt.enter rfl (Nat.le_of_ble_eq_true rfl) ?_
  refine X.iload_n dX5_tape_0 rfl ?_
  refine X.cS1i (k' := kX5_isChannel) dX5_tape_1 v_X5_isChannel wm_X5_137 wt_X5_isChannel ⟨Nat.le_of_ble_eq_true rfl, Nat.le_of_ble_eq_true rfl⟩ n_X5_isChannel (Nat.le_of_ble_eq_true rfl) ?_
  refine m_isChannel_t (chIn ha) ?_
  refine ⟨_, rfl, ?_⟩
  refine X.if_eq_f (tgt := 23) dX5_tape_4 (by decide) ((by decide)) ?_
  refine X.iload_n dX5_tape_7 rfl ?_
  refine X.iconst (v := 0) dX5_tape_8 (by decide) ?_
  refine X.bipush (v := 10) dX5_tape_9 (by decide) ?_
  refine X.cS3i (k' := kX5_isIn) dX5_tape_11 v_X5_isIn wm_X5_75 wt_X5_isIn ⟨Nat.le_of_ble_eq_true rfl, Nat.le_of_ble_eq_true rfl⟩ n_X5_isIn (Nat.le_of_ble_eq_true rfl) ?_
  refine m_isIn_t (rng_in (rng_nI (i := k) (n := 11) (by omega) (by decide)) (by decide) rfl) ?_
  refine ⟨_, rfl, ?_⟩
  refine X.if_eq_f (tgt := 23) dX5_tape_14 (by decide) ((by decide)) ?_
  refine X.iload_n dX5_tape_17 rfl ?_
  refine X.bipush (v := 32) dX5_tape_18 (by decide) ?_
  refine X.icmp_le_f (tgt := 25) dX5_tape_20 (by decide) (Int32.not_le.mpr hn) ?_
  refine X.iconst (v := -1) dX5_tape_23 (by decide) ?_
  refine X.ret dX5_tape_24 ⟨trivial, ?_⟩
  exact hq
set_option maxRecDepth 100000 in
set_option maxHeartbeats 4000000 in
theorem m_tape_neg {a k : Nat} {n : Int32} {μ : xM} {Q : Option Value → xM → Prop} (hM : ShM μ) (ha : a < 16) (hk : k ≤ 10) (hn : n < 0) (hq : Q (some (.int (-15))) (metM μ 5)) : Mt kX5_tape [.ref 44, .int (nI a), .int (nI k), .int (n)] μ Q := by
  refine Mt.enter rfl (Nat.le_of_ble_eq_true rfl) ?_
  refine X.iload_n dX5_tape_0 rfl ?_
  refine X.cS1i (k' := kX5_isChannel) dX5_tape_1 v_X5_isChannel wm_X5_137 wt_X5_isChannel ⟨Nat.le_of_ble_eq_true rfl, Nat.le_of_ble_eq_true rfl⟩ n_X5_isChannel (Nat.le_of_ble_eq_true rfl) ?_
  refine m_isChannel_t (chIn ha) ?_
  refine ⟨_, rfl, ?_⟩
  refine X.if_eq_f (tgt := 23) dX5_tape_4 (by decide) ((by decide)) ?_
  refine X.iload_n dX5_tape_7 rfl ?_
  refine X.iconst (v := 0) dX5_tape_8 (by decide) ?_
  refine X.bipush (v := 10) dX5_tape_9 (by decide) ?_
  refine X.cS3i (k' := kX5_isIn) dX5_tape_11 v_X5_isIn wm_X5_75 wt_X5_isIn ⟨Nat.le_of_ble_eq_true rfl, Nat.le_of_ble_eq_true rfl⟩ n_X5_isIn (Nat.le_of_ble_eq_true rfl) ?_
  refine m_isIn_t (rng_in (rng_nI (i := k) (n := 11) (by omega) (by decide)) (by decide) rfl) ?_
  refine ⟨_, rfl, ?_⟩
  refine X.if_eq_f (tgt := 23) dX5_tape_14 (by decide) ((by decide)) ?_
  refine X.iload_n dX5_tape_17 rfl ?_
  refine X.bipush (v := 32) dX5_tape_18 (by decide) ?_
  refine X.icmp_le_t (tgt := 25) dX5_tape_20 (by decide) (Int32.le_of_lt (Int32.lt_of_lt_of_le hn (by decide))) ?_
  refine X.aload_n dX5_tape_25 rfl ?_
  refine X.iload_n dX5_tape_26 rfl ?_
  refine X.if_ge_f (tgt := 34) dX5_tape_27 (by decide) (Int32.not_le.mpr hn) ?_
  refine X.iconst (v := 5) dX5_tape_30 (by decide) ?_
  refine X.goto (tgt := 35) dX5_tape_31 (by decide) ?_
  refine X.cV1i (k' := kX5_met) dX5_tape_35 (hM.1 44 (by decide) (by decide)) ⟨by decide, rfl⟩ v_X5_met wm_X5_141 wi_X5_met ws_X5_met ⟨Nat.le_of_ble_eq_true rfl, Nat.le_of_ble_eq_true rfl⟩ n_X5_met (Nat.le_of_ble_eq_true rfl) ?_
  refine m_met (r := 5) hM (by decide) ?_
  refine ⟨_, rfl, ?_⟩
  refine X.if_le_f (tgt := 44) dX5_tape_38 (by decide) ((by decide)) ?_
  refine X.bipush (v := -15) dX5_tape_41 (by decide) ?_
  refine X.ret dX5_tape_43 ⟨trivial, ?_⟩
  exact hq
set_option maxRecDepth 100000 in
set_option maxHeartbeats 4000000 in
theorem m_tape_in {a k n : Nat} {μ : xM} {Q : Option Value → xM → Prop} (hM : ShM μ) (hw : WFt μ) (ha : a < 16) (hk : k ≤ 10) (hn : n ≤ 32) (hq : ∀ u, Q (some (.int (nI n))) (sI (newTM (metM μ 0) u k n) 50 a (nI (freeM (metM μ 0))))) : Mt kX5_tape [.ref 44, .int (nI a), .int (nI k), .int (nI n)] μ Q := by
  have hw2 : WFt (metM μ 0) := hw
  refine Mt.enter rfl (Nat.le_of_ble_eq_true rfl) ?_
  refine X.iload_n dX5_tape_0 rfl ?_
  refine X.cS1i (k' := kX5_isChannel) dX5_tape_1 v_X5_isChannel wm_X5_137 wt_X5_isChannel ⟨Nat.le_of_ble_eq_true rfl, Nat.le_of_ble_eq_true rfl⟩ n_X5_isChannel (Nat.le_of_ble_eq_true rfl) ?_
  refine m_isChannel_t (chIn ha) ?_
  refine ⟨_, rfl, ?_⟩
  refine X.if_eq_f (tgt := 23) dX5_tape_4 (by decide) ((by decide)) ?_
  refine X.iload_n dX5_tape_7 rfl ?_
  refine X.iconst (v := 0) dX5_tape_8 (by decide) ?_
  refine X.bipush (v := 10) dX5_tape_9 (by decide) ?_
  refine X.cS3i (k' := kX5_isIn) dX5_tape_11 v_X5_isIn wm_X5_75 wt_X5_isIn ⟨Nat.le_of_ble_eq_true rfl, Nat.le_of_ble_eq_true rfl⟩ n_X5_isIn (Nat.le_of_ble_eq_true rfl) ?_
  refine m_isIn_t (rng_in (rng_nI (i := k) (n := 11) (by omega) (by decide)) (by decide) rfl) ?_
  refine ⟨_, rfl, ?_⟩
  refine X.if_eq_f (tgt := 23) dX5_tape_14 (by decide) ((by decide)) ?_
  refine X.iload_n dX5_tape_17 rfl ?_
  refine X.bipush (v := 32) dX5_tape_18 (by decide) ?_
  refine X.icmp_le_t (tgt := 25) dX5_tape_20 (by decide) (nI_le (b := 32) hn (by decide)) ?_
  refine X.aload_n dX5_tape_25 rfl ?_
  refine X.iload_n dX5_tape_26 rfl ?_
  refine X.if_ge_t (tgt := 34) dX5_tape_27 (by decide) (nI_pos' (by omega)) ?_
  refine X.iconst (v := 0) dX5_tape_34 (by decide) ?_
  refine X.cV1i (k' := kX5_met) dX5_tape_35 (hM.1 44 (by decide) (by decide)) ⟨by decide, rfl⟩ v_X5_met wm_X5_141 wi_X5_met ws_X5_met ⟨Nat.le_of_ble_eq_true rfl, Nat.le_of_ble_eq_true rfl⟩ n_X5_met (Nat.le_of_ble_eq_true rfl) ?_
  refine m_met (r := 0) hM (by decide) ?_
  refine ⟨_, rfl, ?_⟩
  refine X.if_le_t (tgt := 44) dX5_tape_38 (by decide) ((by decide)) ?_
  refine X.aload_n dX5_tape_44 rfl ?_
  refine X.getR (b := 50) (kf := 6) dX5_tape_45 (hM.1 44 (by decide) (by decide)) (by decide) (by decide) rfl wf_X5_27 (hM.2 6 (by decide)) ?_
  refine X.iload_n dX5_tape_48 rfl ?_
  refine X.aload_n dX5_tape_49 rfl ?_
  refine X.iload_n dX5_tape_50 rfl ?_
  refine X.iload_n dX5_tape_51 rfl ?_
  refine X.cV2i (k' := kX5_newTape) dX5_tape_52 (hM.1 44 (by decide) (by decide)) ⟨by decide, rfl⟩ v_X5_newTape wm_X5_144 wi_X5_newTape ws_X5_newTape ⟨Nat.le_of_ble_eq_true rfl, Nat.le_of_ble_eq_true rfl⟩ n_X5_newTape (Nat.le_of_ble_eq_true rfl) ?_
  refine m_newTape hM hw2 hn (fun u => ?_)
  refine ⟨_, rfl, ?_⟩
  refine X.iast dX5_tape_55 (hM.1 50 (by decide) (by decide)) (rfl) (ha) (by decide) ?_
  refine X.iload_n dX5_tape_56 rfl ?_
  refine X.ret dX5_tape_57 ⟨trivial, ?_⟩
  exact hq u
set_option maxRecDepth 100000 in
set_option maxHeartbeats 4000000 in
theorem m_plug_o {c : Int32} {μ : xM} {Q : Option Value → xM → Prop} (hc : rng c 16 = none) (hq : Q (some (.int (-1))) (μ)) : Mt kX5_plug [.ref 44, .int (c)] μ Q := by
  refine Mt.enter rfl (Nat.le_of_ble_eq_true rfl) ?_
  refine X.iload_n dX5_plug_0 rfl ?_
  refine X.cS1i (k' := kX5_isChannel) dX5_plug_1 v_X5_isChannel wm_X5_137 wt_X5_isChannel ⟨Nat.le_of_ble_eq_true rfl, Nat.le_of_ble_eq_true rfl⟩ n_X5_isChannel (Nat.le_of_ble_eq_true rfl) ?_
  refine m_isChannel_f hc ?_
  refine ⟨_, rfl, ?_⟩
  refine X.if_ne_f (tgt := 9) dX5_plug_4 (by decide) ((by decide)) ?_
  refine X.iconst (v := -1) dX5_plug_7 (by decide) ?_
  refine X.ret dX5_plug_8 ⟨trivial, ?_⟩
  exact hq
set_option maxRecDepth 100000 in
set_option maxHeartbeats 4000000 in
theorem m_plug_in {a : Nat} {μ : xM} {Q : Option Value → xM → Prop} (hM : ShM μ) (ha : a < 16) (hq : Q (some (.int (sortM μ a))) (sI μ 50 a (-2))) : Mt kX5_plug [.ref 44, .int (nI a)] μ Q := by
  refine Mt.enter rfl (Nat.le_of_ble_eq_true rfl) ?_
  refine X.iload_n dX5_plug_0 rfl ?_
  refine X.cS1i (k' := kX5_isChannel) dX5_plug_1 v_X5_isChannel wm_X5_137 wt_X5_isChannel ⟨Nat.le_of_ble_eq_true rfl, Nat.le_of_ble_eq_true rfl⟩ n_X5_isChannel (Nat.le_of_ble_eq_true rfl) ?_
  refine m_isChannel_t (chIn ha) ?_
  refine ⟨_, rfl, ?_⟩
  refine X.if_ne_t (tgt := 9) dX5_plug_4 (by decide) ((by decide)) ?_
  refine X.aload_n dX5_plug_9 rfl ?_
  refine X.iload_n dX5_plug_10 rfl ?_
  refine X.cV1i (k' := kX5_sort) dX5_plug_11 (hM.1 44 (by decide) (by decide)) ⟨by decide, rfl⟩ v_X5_sort wm_X5_147 wi_X5_sort ws_X5_sort ⟨Nat.le_of_ble_eq_true rfl, Nat.le_of_ble_eq_true rfl⟩ n_X5_sort (Nat.le_of_ble_eq_true rfl) ?_
  refine m_sort hM ha ?_
  refine ⟨_, rfl, ?_⟩
  refine X.istore_n dX5_plug_14 (Nat.le_of_ble_eq_true rfl) ?_
  refine X.aload_n dX5_plug_15 rfl ?_
  refine X.getR (b := 50) (kf := 6) dX5_plug_16 (hM.1 44 (by decide) (by decide)) (by decide) (by decide) rfl wf_X5_27 (hM.2 6 (by decide)) ?_
  refine X.iload_n dX5_plug_19 rfl ?_
  refine X.bipush (v := -2) dX5_plug_20 (by decide) ?_
  refine X.iast dX5_plug_22 (hM.1 50 (by decide) (by decide)) (rfl) (ha) (by decide) ?_
  refine X.iload_n dX5_plug_23 rfl ?_
  refine X.ret dX5_plug_24 ⟨trivial, ?_⟩
  exact hq
set_option maxRecDepth 100000 in
set_option maxHeartbeats 4000000 in
theorem m_strip_o {c : Int32} {μ : xM} {Q : Option Value → xM → Prop} (hc : rng c 16 = none) (hq : Q (some (.int (-1))) (μ)) : Mt kX5_strip [.ref 44, .int (c)] μ Q := by
  refine Mt.enter rfl (Nat.le_of_ble_eq_true rfl) ?_
  refine X.iload_n dX5_strip_0 rfl ?_
  refine X.cS1i (k' := kX5_isChannel) dX5_strip_1 v_X5_isChannel wm_X5_137 wt_X5_isChannel ⟨Nat.le_of_ble_eq_true rfl, Nat.le_of_ble_eq_true rfl⟩ n_X5_isChannel (Nat.le_of_ble_eq_true rfl) ?_
  refine m_isChannel_f hc ?_
  refine ⟨_, rfl, ?_⟩
  refine X.if_ne_f (tgt := 9) dX5_strip_4 (by decide) ((by decide)) ?_
  refine X.iconst (v := -1) dX5_strip_7 (by decide) ?_
  refine X.ret dX5_strip_8 ⟨trivial, ?_⟩
  exact hq
set_option maxRecDepth 100000 in
set_option maxHeartbeats 4000000 in
theorem m_strip_in {a : Nat} {μ : xM} {Q : Option Value → xM → Prop} (hM : ShM μ) (ha : a < 16) (hq : Q (some (.int (sortM μ a))) (sI μ 50 a (-1))) : Mt kX5_strip [.ref 44, .int (nI a)] μ Q := by
  refine Mt.enter rfl (Nat.le_of_ble_eq_true rfl) ?_
  refine X.iload_n dX5_strip_0 rfl ?_
  refine X.cS1i (k' := kX5_isChannel) dX5_strip_1 v_X5_isChannel wm_X5_137 wt_X5_isChannel ⟨Nat.le_of_ble_eq_true rfl, Nat.le_of_ble_eq_true rfl⟩ n_X5_isChannel (Nat.le_of_ble_eq_true rfl) ?_
  refine m_isChannel_t (chIn ha) ?_
  refine ⟨_, rfl, ?_⟩
  refine X.if_ne_t (tgt := 9) dX5_strip_4 (by decide) ((by decide)) ?_
  refine X.aload_n dX5_strip_9 rfl ?_
  refine X.iload_n dX5_strip_10 rfl ?_
  refine X.cV1i (k' := kX5_sort) dX5_strip_11 (hM.1 44 (by decide) (by decide)) ⟨by decide, rfl⟩ v_X5_sort wm_X5_147 wi_X5_sort ws_X5_sort ⟨Nat.le_of_ble_eq_true rfl, Nat.le_of_ble_eq_true rfl⟩ n_X5_sort (Nat.le_of_ble_eq_true rfl) ?_
  refine m_sort hM ha ?_
  refine ⟨_, rfl, ?_⟩
  refine X.istore_n dX5_strip_14 (Nat.le_of_ble_eq_true rfl) ?_
  refine X.aload_n dX5_strip_15 rfl ?_
  refine X.getR (b := 50) (kf := 6) dX5_strip_16 (hM.1 44 (by decide) (by decide)) (by decide) (by decide) rfl wf_X5_27 (hM.2 6 (by decide)) ?_
  refine X.iload_n dX5_strip_19 rfl ?_
  refine X.iconst (v := -1) dX5_strip_20 (by decide) ?_
  refine X.iast dX5_strip_21 (hM.1 50 (by decide) (by decide)) (rfl) (ha) (by decide) ?_
  refine X.iload_n dX5_strip_22 rfl ?_
  refine X.ret dX5_strip_23 ⟨trivial, ?_⟩
  exact hq
set_option maxRecDepth 100000 in
set_option maxHeartbeats 4000000 in
theorem m_share_o1 {c d : Int32} {μ : xM} {Q : Option Value → xM → Prop} (hc : rng c 16 = none) (hq : Q (some (.int (-1))) (μ)) : Mt kX5_share [.ref 44, .int (c), .int (d)] μ Q := by
  refine Mt.enter rfl (Nat.le_of_ble_eq_true rfl) ?_
  refine X.iload_n dX5_share_0 rfl ?_
  refine X.cS1i (k' := kX5_isChannel) dX5_share_1 v_X5_isChannel wm_X5_137 wt_X5_isChannel ⟨Nat.le_of_ble_eq_true rfl, Nat.le_of_ble_eq_true rfl⟩ n_X5_isChannel (Nat.le_of_ble_eq_true rfl) ?_
  refine m_isChannel_f hc ?_
  refine ⟨_, rfl, ?_⟩
  refine X.if_eq_t (tgt := 14) dX5_share_4 (by decide) ((by decide)) ?_
  refine X.iconst (v := -1) dX5_share_14 (by decide) ?_
  refine X.ret dX5_share_15 ⟨trivial, ?_⟩
  exact hq
set_option maxRecDepth 100000 in
set_option maxHeartbeats 4000000 in
theorem m_share_o2 {a : Nat} {d : Int32} {μ : xM} {Q : Option Value → xM → Prop} (ha : a < 16) (hd : rng d 16 = none) (hq : Q (some (.int (-1))) (μ)) : Mt kX5_share [.ref 44, .int (nI a), .int (d)] μ Q := by
  refine Mt.enter rfl (Nat.le_of_ble_eq_true rfl) ?_
  refine X.iload_n dX5_share_0 rfl ?_
  refine X.cS1i (k' := kX5_isChannel) dX5_share_1 v_X5_isChannel wm_X5_137 wt_X5_isChannel ⟨Nat.le_of_ble_eq_true rfl, Nat.le_of_ble_eq_true rfl⟩ n_X5_isChannel (Nat.le_of_ble_eq_true rfl) ?_
  refine m_isChannel_t (chIn ha) ?_
  refine ⟨_, rfl, ?_⟩
  refine X.if_eq_f (tgt := 14) dX5_share_4 (by decide) ((by decide)) ?_
  refine X.iload_n dX5_share_7 rfl ?_
  refine X.cS1i (k' := kX5_isChannel) dX5_share_8 v_X5_isChannel wm_X5_137 wt_X5_isChannel ⟨Nat.le_of_ble_eq_true rfl, Nat.le_of_ble_eq_true rfl⟩ n_X5_isChannel (Nat.le_of_ble_eq_true rfl) ?_
  refine m_isChannel_f hd ?_
  refine ⟨_, rfl, ?_⟩
  refine X.if_ne_f (tgt := 16) dX5_share_11 (by decide) ((by decide)) ?_
  refine X.iconst (v := -1) dX5_share_14 (by decide) ?_
  refine X.ret dX5_share_15 ⟨trivial, ?_⟩
  exact hq
set_option maxRecDepth 100000 in
set_option maxHeartbeats 4000000 in
theorem m_share_in {a b : Nat} {μ : xM} {Q : Option Value → xM → Prop} (hM : ShM μ) (ha : a < 16) (hb : b < 16) (hq : Q (some (.int (sortM μ b))) (sI μ 50 a (mI μ 50 b))) : Mt kX5_share [.ref 44, .int (nI a), .int (nI b)] μ Q := by
  refine Mt.enter rfl (Nat.le_of_ble_eq_true rfl) ?_
  refine X.iload_n dX5_share_0 rfl ?_
  refine X.cS1i (k' := kX5_isChannel) dX5_share_1 v_X5_isChannel wm_X5_137 wt_X5_isChannel ⟨Nat.le_of_ble_eq_true rfl, Nat.le_of_ble_eq_true rfl⟩ n_X5_isChannel (Nat.le_of_ble_eq_true rfl) ?_
  refine m_isChannel_t (chIn ha) ?_
  refine ⟨_, rfl, ?_⟩
  refine X.if_eq_f (tgt := 14) dX5_share_4 (by decide) ((by decide)) ?_
  refine X.iload_n dX5_share_7 rfl ?_
  refine X.cS1i (k' := kX5_isChannel) dX5_share_8 v_X5_isChannel wm_X5_137 wt_X5_isChannel ⟨Nat.le_of_ble_eq_true rfl, Nat.le_of_ble_eq_true rfl⟩ n_X5_isChannel (Nat.le_of_ble_eq_true rfl) ?_
  refine m_isChannel_t (chIn hb) ?_
  refine ⟨_, rfl, ?_⟩
  refine X.if_ne_t (tgt := 16) dX5_share_11 (by decide) ((by decide)) ?_
  refine X.aload_n dX5_share_16 rfl ?_
  refine X.getR (b := 50) (kf := 6) dX5_share_17 (hM.1 44 (by decide) (by decide)) (by decide) (by decide) rfl wf_X5_27 (hM.2 6 (by decide)) ?_
  refine X.iload_n dX5_share_20 rfl ?_
  refine X.aload_n dX5_share_21 rfl ?_
  refine X.getR (b := 50) (kf := 6) dX5_share_22 (hM.1 44 (by decide) (by decide)) (by decide) (by decide) rfl wf_X5_27 (hM.2 6 (by decide)) ?_
  refine X.iload_n dX5_share_25 rfl ?_
  refine X.iald dX5_share_26 (hM.1 50 (by decide) (by decide)) (rfl) (hb) (by decide) ?_
  refine X.iast dX5_share_27 (hM.1 50 (by decide) (by decide)) (rfl) (ha) (by decide) ?_
  refine X.aload_n dX5_share_28 rfl ?_
  refine X.iload_n dX5_share_29 rfl ?_
  refine X.cV1i (k' := kX5_sort) dX5_share_30 (hM.1 44 (by decide) (by decide)) ⟨by decide, rfl⟩ v_X5_sort wm_X5_147 wi_X5_sort ws_X5_sort ⟨Nat.le_of_ble_eq_true rfl, Nat.le_of_ble_eq_true rfl⟩ n_X5_sort (Nat.le_of_ble_eq_true rfl) ?_
  refine m_sort hM ha ?_
  rw [show sortM (sI μ 50 a (mI μ 50 b)) a = sortM μ b by unfold sortM; rw [mI_sI, up2_s]]
  refine ⟨_, rfl, ?_⟩
  refine X.ret dX5_share_33 ⟨trivial, ?_⟩
  exact hq
set_option maxRecDepth 100000 in
set_option maxHeartbeats 4000000 in
theorem m_head_o {c p : Int32} {μ : xM} {Q : Option Value → xM → Prop} (hc : rng c 16 = none) (hq : Q (some (.int (-1))) (μ)) : Mt kX5_head [.ref 44, .int (c), .int (p)] μ Q := by
  refine Mt.enter rfl (Nat.le_of_ble_eq_true rfl) ?_
  refine X.iload_n dX5_head_0 rfl ?_
  refine X.cS1i (k' := kX5_isChannel) dX5_head_1 v_X5_isChannel wm_X5_137 wt_X5_isChannel ⟨Nat.le_of_ble_eq_true rfl, Nat.le_of_ble_eq_true rfl⟩ n_X5_isChannel (Nat.le_of_ble_eq_true rfl) ?_
  refine m_isChannel_f hc ?_
  refine ⟨_, rfl, ?_⟩
  refine X.if_ne_f (tgt := 9) dX5_head_4 (by decide) ((by decide)) ?_
  refine X.iconst (v := -1) dX5_head_7 (by decide) ?_
  refine X.ret dX5_head_8 ⟨trivial, ?_⟩
  exact hq
set_option maxRecDepth 100000 in
set_option maxHeartbeats 4000000 in
theorem m_head_in {a : Nat} {p : Int32} {μ : xM} {Q : Option Value → xM → Prop} (hM : ShM μ) (ha : a < 16) (hq : Q (some (.int (1))) (sI μ 51 a p)) : Mt kX5_head [.ref 44, .int (nI a), .int (p)] μ Q := by
  refine Mt.enter rfl (Nat.le_of_ble_eq_true rfl) ?_
  refine X.iload_n dX5_head_0 rfl ?_
  refine X.cS1i (k' := kX5_isChannel) dX5_head_1 v_X5_isChannel wm_X5_137 wt_X5_isChannel ⟨Nat.le_of_ble_eq_true rfl, Nat.le_of_ble_eq_true rfl⟩ n_X5_isChannel (Nat.le_of_ble_eq_true rfl) ?_
  refine m_isChannel_t (chIn ha) ?_
  refine ⟨_, rfl, ?_⟩
  refine X.if_ne_t (tgt := 9) dX5_head_4 (by decide) ((by decide)) ?_
  refine X.aload_n dX5_head_9 rfl ?_
  refine X.getR (b := 51) (kf := 7) dX5_head_10 (hM.1 44 (by decide) (by decide)) (by decide) (by decide) rfl wf_X5_30 (hM.2 7 (by decide)) ?_
  refine X.iload_n dX5_head_13 rfl ?_
  refine X.iload_n dX5_head_14 rfl ?_
  refine X.iast dX5_head_15 (hM.1 51 (by decide) (by decide)) (rfl) (ha) (by decide) ?_
  refine X.iconst (v := 1) dX5_head_16 (by decide) ?_
  refine X.ret dX5_head_17 ⟨trivial, ?_⟩
  exact hq
set_option maxRecDepth 100000 in
set_option maxHeartbeats 4000000 in
theorem m_step_o1 {c p : Int32} {μ : xM} {Q : Option Value → xM → Prop} (hc : rng c 16 = none) (hq : Q (some (.int (-1))) (μ)) : Mt kX5_step [.ref 44, .int (c), .int (p)] μ Q := by
  refine Mt.enter rfl (Nat.le_of_ble_eq_true rfl) ?_
  refine X.iload_n dX5_step_0 rfl ?_
  refine X.cS1i (k' := kX5_isChannel) dX5_step_1 v_X5_isChannel wm_X5_137 wt_X5_isChannel ⟨Nat.le_of_ble_eq_true rfl, Nat.le_of_ble_eq_true rfl⟩ n_X5_isChannel (Nat.le_of_ble_eq_true rfl) ?_
  refine m_isChannel_f hc ?_
  refine ⟨_, rfl, ?_⟩
  refine X.if_eq_t (tgt := 17) dX5_step_4 (by decide) ((by decide)) ?_
  refine X.iconst (v := -1) dX5_step_17 (by decide) ?_
  refine X.ret dX5_step_18 ⟨trivial, ?_⟩
  exact hq
set_option maxRecDepth 100000 in
set_option maxHeartbeats 4000000 in
theorem m_step_o2 {a : Nat} {p : Int32} {μ : xM} {Q : Option Value → xM → Prop} (ha : a < 16) (hp : ¬ (-3 ≤ p ∧ p ≤ 3)) (hq : Q (some (.int (-1))) (μ)) : Mt kX5_step [.ref 44, .int (nI a), .int (p)] μ Q := by
  refine Mt.enter rfl (Nat.le_of_ble_eq_true rfl) ?_
  refine X.iload_n dX5_step_0 rfl ?_
  refine X.cS1i (k' := kX5_isChannel) dX5_step_1 v_X5_isChannel wm_X5_137 wt_X5_isChannel ⟨Nat.le_of_ble_eq_true rfl, Nat.le_of_ble_eq_true rfl⟩ n_X5_isChannel (Nat.le_of_ble_eq_true rfl) ?_
  refine m_isChannel_t (chIn ha) ?_
  refine ⟨_, rfl, ?_⟩
  refine X.if_eq_f (tgt := 17) dX5_step_4 (by decide) ((by decide)) ?_
  refine X.iload_n dX5_step_7 rfl ?_
  refine X.bipush (v := -3) dX5_step_8 (by decide) ?_
  refine X.iconst (v := 3) dX5_step_10 (by decide) ?_
  refine X.cS3i (k' := kX5_isIn) dX5_step_11 v_X5_isIn wm_X5_75 wt_X5_isIn ⟨Nat.le_of_ble_eq_true rfl, Nat.le_of_ble_eq_true rfl⟩ n_X5_isIn (Nat.le_of_ble_eq_true rfl) ?_
  refine m_isIn_f hp ?_
  refine ⟨_, rfl, ?_⟩
  refine X.if_ne_f (tgt := 19) dX5_step_14 (by decide) ((by decide)) ?_
  refine X.iconst (v := -1) dX5_step_17 (by decide) ?_
  refine X.ret dX5_step_18 ⟨trivial, ?_⟩
  exact hq
set_option maxRecDepth 100000 in
set_option maxHeartbeats 4000000 in
theorem m_step_in {a : Nat} {p : Int32} {μ : xM} {Q : Option Value → xM → Prop} (hM : ShM μ) (ha : a < 16) (hp : -3 ≤ p ∧ p ≤ 3) (hq : Q (some (.int (mI μ 52 a + 3))) (sI μ 52 a p)) : Mt kX5_step [.ref 44, .int (nI a), .int (p)] μ Q := by
  refine Mt.enter rfl (Nat.le_of_ble_eq_true rfl) ?_
  refine X.iload_n dX5_step_0 rfl ?_
  refine X.cS1i (k' := kX5_isChannel) dX5_step_1 v_X5_isChannel wm_X5_137 wt_X5_isChannel ⟨Nat.le_of_ble_eq_true rfl, Nat.le_of_ble_eq_true rfl⟩ n_X5_isChannel (Nat.le_of_ble_eq_true rfl) ?_
  refine m_isChannel_t (chIn ha) ?_
  refine ⟨_, rfl, ?_⟩
  refine X.if_eq_f (tgt := 17) dX5_step_4 (by decide) ((by decide)) ?_
  refine X.iload_n dX5_step_7 rfl ?_
  refine X.bipush (v := -3) dX5_step_8 (by decide) ?_
  refine X.iconst (v := 3) dX5_step_10 (by decide) ?_
  refine X.cS3i (k' := kX5_isIn) dX5_step_11 v_X5_isIn wm_X5_75 wt_X5_isIn ⟨Nat.le_of_ble_eq_true rfl, Nat.le_of_ble_eq_true rfl⟩ n_X5_isIn (Nat.le_of_ble_eq_true rfl) ?_
  refine m_isIn_t hp ?_
  refine ⟨_, rfl, ?_⟩
  refine X.if_ne_t (tgt := 19) dX5_step_14 (by decide) ((by decide)) ?_
  refine X.aload_n dX5_step_19 rfl ?_
  refine X.getR (b := 52) (kf := 8) dX5_step_20 (hM.1 44 (by decide) (by decide)) (by decide) (by decide) rfl wf_X5_33 (hM.2 8 (by decide)) ?_
  refine X.iload_n dX5_step_23 rfl ?_
  refine X.iald dX5_step_24 (hM.1 52 (by decide) (by decide)) (rfl) (ha) (by decide) ?_
  refine X.iconst (v := 3) dX5_step_25 (by decide) ?_
  refine X.iadd dX5_step_26 ?_
  refine X.istore_n dX5_step_27 (Nat.le_of_ble_eq_true rfl) ?_
  refine X.aload_n dX5_step_28 rfl ?_
  refine X.getR (b := 52) (kf := 8) dX5_step_29 (hM.1 44 (by decide) (by decide)) (by decide) (by decide) rfl wf_X5_33 (hM.2 8 (by decide)) ?_
  refine X.iload_n dX5_step_32 rfl ?_
  refine X.iload_n dX5_step_33 rfl ?_
  refine X.iast dX5_step_34 (hM.1 52 (by decide) (by decide)) (rfl) (ha) (by decide) ?_
  refine X.iload_n dX5_step_35 rfl ?_
  refine X.ret dX5_step_36 ⟨trivial, ?_⟩
  exact hq
set_option maxRecDepth 100000 in
set_option maxHeartbeats 4000000 in
theorem m_loop_o {c b : Int32} {μ : xM} {Q : Option Value → xM → Prop} (hc : rng c 16 = none) (hq : Q (some (.int (-1))) (μ)) : Mt kX5_loop [.ref 44, .int (c), .int (b)] μ Q := by
  refine Mt.enter rfl (Nat.le_of_ble_eq_true rfl) ?_
  refine X.iload_n dX5_loop_0 rfl ?_
  refine X.cS1i (k' := kX5_isChannel) dX5_loop_1 v_X5_isChannel wm_X5_137 wt_X5_isChannel ⟨Nat.le_of_ble_eq_true rfl, Nat.le_of_ble_eq_true rfl⟩ n_X5_isChannel (Nat.le_of_ble_eq_true rfl) ?_
  refine m_isChannel_f hc ?_
  refine ⟨_, rfl, ?_⟩
  refine X.if_ne_f (tgt := 9) dX5_loop_4 (by decide) ((by decide)) ?_
  refine X.iconst (v := -1) dX5_loop_7 (by decide) ?_
  refine X.ret dX5_loop_8 ⟨trivial, ?_⟩
  exact hq
set_option maxRecDepth 100000 in
set_option maxHeartbeats 4000000 in
theorem m_loop_in {a : Nat} {b : Int32} {μ : xM} {Q : Option Value → xM → Prop} (hM : ShM μ) (ha : a < 16) (hb : b = 0 ∨ b = 1) (hq : Q (some (.int (if mI μ 53 a = 0 then 0 else 1))) (sI μ 53 a b)) : Mt kX5_loop [.ref 44, .int (nI a), .int (b)] μ Q := by
  refine Mt.enter rfl (Nat.le_of_ble_eq_true rfl) ?_
  refine X.iload_n dX5_loop_0 rfl ?_
  refine X.cS1i (k' := kX5_isChannel) dX5_loop_1 v_X5_isChannel wm_X5_137 wt_X5_isChannel ⟨Nat.le_of_ble_eq_true rfl, Nat.le_of_ble_eq_true rfl⟩ n_X5_isChannel (Nat.le_of_ble_eq_true rfl) ?_
  refine m_isChannel_t (chIn ha) ?_
  refine ⟨_, rfl, ?_⟩
  refine X.if_ne_t (tgt := 9) dX5_loop_4 (by decide) ((by decide)) ?_
  refine X.aload_n dX5_loop_9 rfl ?_
  refine X.getR (b := 53) (kf := 9) dX5_loop_10 (hM.1 44 (by decide) (by decide)) (by decide) (by decide) rfl wf_X5_36 (hM.2 9 (by decide)) ?_
  refine X.iload_n dX5_loop_13 rfl ?_
  refine X.zald dX5_loop_14 (hM.1 53 (by decide) (by decide)) (rfl) (ha) (by decide) ?_
  refine X.if_eq (tgt := 22) dX5_loop_15 (by decide) (fun c15 => ?_) (fun c15 => ?_)
  · refine X.iconst (v := 0) dX5_loop_22 (by decide) ?_
    refine X.istore_n dX5_loop_23 (Nat.le_of_ble_eq_true rfl) ?_
    refine X.aload_n dX5_loop_24 rfl ?_
    refine X.getR (b := 53) (kf := 9) dX5_loop_25 (hM.1 44 (by decide) (by decide)) (by decide) (by decide) rfl wf_X5_36 (hM.2 9 (by decide)) ?_
    refine X.iload_n dX5_loop_28 rfl ?_
    refine X.iload_n dX5_loop_29 rfl ?_
    refine X.zast dX5_loop_30 (hM.1 53 (by decide) (by decide)) (rfl) (ha) (by decide) (hb) ?_
    refine X.iload_n dX5_loop_31 rfl ?_
    refine X.ret dX5_loop_32 ⟨trivial, ?_⟩
    simp only [*, ↓reduceIte] at hq
    exact hq
  · refine X.iconst (v := 1) dX5_loop_18 (by decide) ?_
    refine X.goto (tgt := 23) dX5_loop_19 (by decide) ?_
    refine X.istore_n dX5_loop_23 (Nat.le_of_ble_eq_true rfl) ?_
    refine X.aload_n dX5_loop_24 rfl ?_
    refine X.getR (b := 53) (kf := 9) dX5_loop_25 (hM.1 44 (by decide) (by decide)) (by decide) (by decide) rfl wf_X5_36 (hM.2 9 (by decide)) ?_
    refine X.iload_n dX5_loop_28 rfl ?_
    refine X.iload_n dX5_loop_29 rfl ?_
    refine X.zast dX5_loop_30 (hM.1 53 (by decide) (by decide)) (rfl) (ha) (by decide) (hb) ?_
    refine X.iload_n dX5_loop_31 rfl ?_
    refine X.ret dX5_loop_32 ⟨trivial, ?_⟩
    simp only [*, ↓reduceIte] at hq
    exact hq
set_option maxRecDepth 100000 in
set_option maxHeartbeats 4000000 in
theorem m_stamp_o1 {c i k : Int32} {v : Int64} {μ : xM} {Q : Option Value → xM → Prop} (hc : rng c 16 = none) (hq : Q (some (.int (-1))) (μ)) : Mt kX5_stamp [.ref 44, .int (c), .int (i), .int (k), .long v] μ Q := by
  refine Mt.enter rfl (Nat.le_of_ble_eq_true rfl) ?_
  refine X.iload_n dX5_stamp_0 rfl ?_
  refine X.cS1i (k' := kX5_isChannel) dX5_stamp_1 v_X5_isChannel wm_X5_137 wt_X5_isChannel ⟨Nat.le_of_ble_eq_true rfl, Nat.le_of_ble_eq_true rfl⟩ n_X5_isChannel (Nat.le_of_ble_eq_true rfl) ?_
  refine m_isChannel_f hc ?_
  refine ⟨_, rfl, ?_⟩
  refine X.if_eq_t (tgt := 17) dX5_stamp_4 (by decide) ((by decide)) ?_
  refine X.iconst (v := -1) dX5_stamp_17 (by decide) ?_
  refine X.ret dX5_stamp_18 ⟨trivial, ?_⟩
  exact hq
set_option maxRecDepth 100000 in
set_option maxHeartbeats 4000000 in
theorem m_stamp_o2 {a : Nat} {i k : Int32} {v : Int64} {μ : xM} {Q : Option Value → xM → Prop} (ha : a < 16) (hk : rng k 8 = none) (hq : Q (some (.int (-1))) (μ)) : Mt kX5_stamp [.ref 44, .int (nI a), .int (i), .int (k), .long v] μ Q := by
  refine Mt.enter rfl (Nat.le_of_ble_eq_true rfl) ?_
  refine X.iload_n dX5_stamp_0 rfl ?_
  refine X.cS1i (k' := kX5_isChannel) dX5_stamp_1 v_X5_isChannel wm_X5_137 wt_X5_isChannel ⟨Nat.le_of_ble_eq_true rfl, Nat.le_of_ble_eq_true rfl⟩ n_X5_isChannel (Nat.le_of_ble_eq_true rfl) ?_
  refine m_isChannel_t (chIn ha) ?_
  refine ⟨_, rfl, ?_⟩
  refine X.if_eq_f (tgt := 17) dX5_stamp_4 (by decide) ((by decide)) ?_
  refine X.iload_n dX5_stamp_7 rfl ?_
  refine X.iconst (v := 0) dX5_stamp_8 (by decide) ?_
  refine X.bipush (v := 7) dX5_stamp_9 (by decide) ?_
  refine X.cS3i (k' := kX5_isIn) dX5_stamp_11 v_X5_isIn wm_X5_75 wt_X5_isIn ⟨Nat.le_of_ble_eq_true rfl, Nat.le_of_ble_eq_true rfl⟩ n_X5_isIn (Nat.le_of_ble_eq_true rfl) ?_
  refine m_isIn_f (rng_no hk (by decide) rfl) ?_
  refine ⟨_, rfl, ?_⟩
  refine X.if_ne_f (tgt := 19) dX5_stamp_14 (by decide) ((by decide)) ?_
  refine X.iconst (v := -1) dX5_stamp_17 (by decide) ?_
  refine X.ret dX5_stamp_18 ⟨trivial, ?_⟩
  exact hq
set_option maxRecDepth 100000 in
set_option maxHeartbeats 4000000 in
theorem m_stamp_r1 {a k : Nat} {i : Int32} {v : Int64} {μ : xM} {Q : Option Value → xM → Prop} (hM : ShM μ) (hw : WFt μ) (ha : a < 16) (hk : k < 8) (hz : ¬ noPlainM μ a i = 0) (hq : Q (some (.int (rR (noPlainM μ a i)))) (metM μ (noPlainM μ a i))) : Mt kX5_stamp [.ref 44, .int (nI a), .int (i), .int (nI k), .long v] μ Q := by
  refine Mt.enter rfl (Nat.le_of_ble_eq_true rfl) ?_
  refine X.iload_n dX5_stamp_0 rfl ?_
  refine X.cS1i (k' := kX5_isChannel) dX5_stamp_1 v_X5_isChannel wm_X5_137 wt_X5_isChannel ⟨Nat.le_of_ble_eq_true rfl, Nat.le_of_ble_eq_true rfl⟩ n_X5_isChannel (Nat.le_of_ble_eq_true rfl) ?_
  refine m_isChannel_t (chIn ha) ?_
  refine ⟨_, rfl, ?_⟩
  refine X.if_eq_f (tgt := 17) dX5_stamp_4 (by decide) ((by decide)) ?_
  refine X.iload_n dX5_stamp_7 rfl ?_
  refine X.iconst (v := 0) dX5_stamp_8 (by decide) ?_
  refine X.bipush (v := 7) dX5_stamp_9 (by decide) ?_
  refine X.cS3i (k' := kX5_isIn) dX5_stamp_11 v_X5_isIn wm_X5_75 wt_X5_isIn ⟨Nat.le_of_ble_eq_true rfl, Nat.le_of_ble_eq_true rfl⟩ n_X5_isIn (Nat.le_of_ble_eq_true rfl) ?_
  refine m_isIn_t (rng_in (rng_nI (i := k) (n := 8) hk (by decide)) (by decide) rfl) ?_
  refine ⟨_, rfl, ?_⟩
  refine X.if_ne_t (tgt := 19) dX5_stamp_14 (by decide) ((by decide)) ?_
  refine X.aload_n dX5_stamp_19 rfl ?_
  refine X.iload_n dX5_stamp_20 rfl ?_
  refine X.iload_n dX5_stamp_21 rfl ?_
  refine X.cV2i (k' := kX5_noPlain) dX5_stamp_22 (hM.1 44 (by decide) (by decide)) ⟨by decide, rfl⟩ v_X5_noPlain wm_X5_150 wi_X5_noPlain ws_X5_noPlain ⟨Nat.le_of_ble_eq_true rfl, Nat.le_of_ble_eq_true rfl⟩ n_X5_noPlain (Nat.le_of_ble_eq_true rfl) ?_
  refine m_noPlain hM hw ha ?_
  refine ⟨_, rfl, ?_⟩
  refine X.istore dX5_stamp_25 (Nat.le_of_ble_eq_true rfl) ?_
  refine X.iload dX5_stamp_27 rfl ?_
  refine X.if_ne_t (tgt := 47) dX5_stamp_29 (by decide) (nI_neq (b := 0) hz (by have := noPlain_le μ a i; omega) (by decide)) ?_
  refine X.aload_n dX5_stamp_47 rfl ?_
  refine X.iload dX5_stamp_48 rfl ?_
  refine X.cV1i (k' := kX5_met) dX5_stamp_50 (hM.1 44 (by decide) (by decide)) ⟨by decide, rfl⟩ v_X5_met wm_X5_141 wi_X5_met ws_X5_met ⟨Nat.le_of_ble_eq_true rfl, Nat.le_of_ble_eq_true rfl⟩ n_X5_met (Nat.le_of_ble_eq_true rfl) ?_
  refine m_met (r := noPlainM μ a i) hM (by exact noPlain_le _ _ _) ?_
  refine ⟨_, rfl, ?_⟩
  refine X.if_le_f (tgt := 62) dX5_stamp_53 (by decide) (fun q => hz (nI_le0 q (by have := noPlain_le μ a i; omega))) ?_
  refine X.bipush (v := -10) dX5_stamp_56 (by decide) ?_
  refine X.iload dX5_stamp_58 rfl ?_
  refine X.isub dX5_stamp_60 ?_
  refine X.ret dX5_stamp_61 ⟨trivial, ?_⟩
  exact hq
theorem noPlain_0 {μ : xM} {c : Nat} {i : Int32} (h : noPlainM μ c i = 0) : noPlaceM μ c i = 0 ∧ kd μ (tp μ c) < 8 := by
  unfold noPlainM at h
  by_cases h0 : noTapeM μ c = 0
  · rw [if_pos h0] at h
    by_cases h8 : kd μ (tp μ c) < 8
    · rw [if_pos h8] at h; exact ⟨h, h8⟩
    · rw [if_neg h8] at h; cases h
  · rw [if_neg h0] at h; exact absurd h h0
set_option maxRecDepth 100000 in
set_option maxHeartbeats 4000000 in
theorem m_stamp_r2 {a k : Nat} {i : Int32} {v : Int64} {μ : xM} {Q : Option Value → xM → Prop} (hM : ShM μ) (hw : WFt μ) (ha : a < 16) (hk : k < 8) (hz : noPlainM μ a i = 0) (ht2 : takesM (kd μ (tp μ a)) k = false) (hq : Q (some (.int (rR 2))) (metM μ 2)) : Mt kX5_stamp [.ref 44, .int (nI a), .int (i), .int (nI k), .long v] μ Q := by
  obtain ⟨hp, h8⟩ := noPlain_0 hz
  obtain ⟨h0, hr, ei, hi⟩ := noPlace_0 hp
  obtain ⟨ht, et⟩ := hw.1 _ ha h0
  obtain ⟨⟨ek, lk⟩, es, ls⟩ := hw.2.1 _ ht
  refine Mt.enter rfl (Nat.le_of_ble_eq_true rfl) ?_
  refine X.iload_n dX5_stamp_0 rfl ?_
  refine X.cS1i (k' := kX5_isChannel) dX5_stamp_1 v_X5_isChannel wm_X5_137 wt_X5_isChannel ⟨Nat.le_of_ble_eq_true rfl, Nat.le_of_ble_eq_true rfl⟩ n_X5_isChannel (Nat.le_of_ble_eq_true rfl) ?_
  refine m_isChannel_t (chIn ha) ?_
  refine ⟨_, rfl, ?_⟩
  refine X.if_eq_f (tgt := 17) dX5_stamp_4 (by decide) ((by decide)) ?_
  refine X.iload_n dX5_stamp_7 rfl ?_
  refine X.iconst (v := 0) dX5_stamp_8 (by decide) ?_
  refine X.bipush (v := 7) dX5_stamp_9 (by decide) ?_
  refine X.cS3i (k' := kX5_isIn) dX5_stamp_11 v_X5_isIn wm_X5_75 wt_X5_isIn ⟨Nat.le_of_ble_eq_true rfl, Nat.le_of_ble_eq_true rfl⟩ n_X5_isIn (Nat.le_of_ble_eq_true rfl) ?_
  refine m_isIn_t (rng_in (rng_nI (i := k) (n := 8) hk (by decide)) (by decide) rfl) ?_
  refine ⟨_, rfl, ?_⟩
  refine X.if_ne_t (tgt := 19) dX5_stamp_14 (by decide) ((by decide)) ?_
  refine X.aload_n dX5_stamp_19 rfl ?_
  refine X.iload_n dX5_stamp_20 rfl ?_
  refine X.iload_n dX5_stamp_21 rfl ?_
  refine X.cV2i (k' := kX5_noPlain) dX5_stamp_22 (hM.1 44 (by decide) (by decide)) ⟨by decide, rfl⟩ v_X5_noPlain wm_X5_150 wi_X5_noPlain ws_X5_noPlain ⟨Nat.le_of_ble_eq_true rfl, Nat.le_of_ble_eq_true rfl⟩ n_X5_noPlain (Nat.le_of_ble_eq_true rfl) ?_
  refine m_noPlain hM hw ha ?_
  refine ⟨_, rfl, ?_⟩
  refine X.istore dX5_stamp_25 (Nat.le_of_ble_eq_true rfl) ?_
  refine X.iload dX5_stamp_27 rfl ?_
  refine X.if_ne_f (tgt := 47) dX5_stamp_29 (by decide) ((by rw [hz]; rfl)) ?_
  refine X.aload_n dX5_stamp_32 rfl ?_
  refine X.iload_n dX5_stamp_33 rfl ?_
  refine X.cV1i (k' := kX5_kindOf) dX5_stamp_34 (hM.1 44 (by decide) (by decide)) ⟨by decide, rfl⟩ v_X5_kindOf wm_X5_110 wi_X5_kindOf ws_X5_kindOf ⟨Nat.le_of_ble_eq_true rfl, Nat.le_of_ble_eq_true rfl⟩ n_X5_kindOf (Nat.le_of_ble_eq_true rfl) ?_
  refine m_kindOf hM hw ha h0 ?_
  refine ⟨_, rfl, ?_⟩
  refine X.iload_n dX5_stamp_37 rfl ?_
  refine X.cS2i (k' := kX5_takes) dX5_stamp_38 v_X5_takes wm_X5_106 wt_X5_takes ⟨Nat.le_of_ble_eq_true rfl, Nat.le_of_ble_eq_true rfl⟩ n_X5_takes (Nat.le_of_ble_eq_true rfl) ?_
  refine m_takes lk (by omega) ?_
  rw [ht2]
  refine ⟨_, rfl, ?_⟩
  refine X.if_ne_f (tgt := 47) dX5_stamp_41 (by decide) ((by decide)) ?_
  refine X.iconst (v := 2) dX5_stamp_44 (by decide) ?_
  refine X.istore dX5_stamp_45 (Nat.le_of_ble_eq_true rfl) ?_
  refine X.aload_n dX5_stamp_47 rfl ?_
  refine X.iload dX5_stamp_48 rfl ?_
  refine X.cV1i (k' := kX5_met) dX5_stamp_50 (hM.1 44 (by decide) (by decide)) ⟨by decide, rfl⟩ v_X5_met wm_X5_141 wi_X5_met ws_X5_met ⟨Nat.le_of_ble_eq_true rfl, Nat.le_of_ble_eq_true rfl⟩ n_X5_met (Nat.le_of_ble_eq_true rfl) ?_
  refine m_met (r := 2) hM (by decide) ?_
  refine ⟨_, rfl, ?_⟩
  refine X.if_le_f (tgt := 62) dX5_stamp_53 (by decide) ((by decide)) ?_
  refine X.bipush (v := -10) dX5_stamp_56 (by decide) ?_
  refine X.iload dX5_stamp_58 rfl ?_
  refine X.isub dX5_stamp_60 ?_
  refine X.ret dX5_stamp_61 ⟨trivial, ?_⟩
  exact hq
set_option maxRecDepth 100000 in
set_option maxHeartbeats 4000000 in
theorem m_stamp_in {a k : Nat} {i : Int32} {v : Int64} {μ : xM} {Q : Option Value → xM → Prop} (hM : ShM μ) (hw : WFt μ) (ha : a < 16) (hk : k < 8) (hz : noPlainM μ a i = 0) (ht2 : takesM (kd μ (tp μ a)) k = true) (hq : Q (some (.int (1))) (sJ (metM μ 0) 48 (32 * tp μ a + ix i) (fitM (kd μ (tp μ a)) (fitM k v)))) : Mt kX5_stamp [.ref 44, .int (nI a), .int (i), .int (nI k), .long v] μ Q := by
  obtain ⟨hp, h8⟩ := noPlain_0 hz
  obtain ⟨h0, hr, ei, hi⟩ := noPlace_0 hp
  obtain ⟨ht, et⟩ := hw.1 _ ha h0
  obtain ⟨⟨ek, lk⟩, es, ls⟩ := hw.2.1 _ ht
  generalize hj : ix i = j at *
  subst ei
  refine Mt.enter rfl (Nat.le_of_ble_eq_true rfl) ?_
  refine X.iload_n dX5_stamp_0 rfl ?_
  refine X.cS1i (k' := kX5_isChannel) dX5_stamp_1 v_X5_isChannel wm_X5_137 wt_X5_isChannel ⟨Nat.le_of_ble_eq_true rfl, Nat.le_of_ble_eq_true rfl⟩ n_X5_isChannel (Nat.le_of_ble_eq_true rfl) ?_
  refine m_isChannel_t (chIn ha) ?_
  refine ⟨_, rfl, ?_⟩
  refine X.if_eq_f (tgt := 17) dX5_stamp_4 (by decide) ((by decide)) ?_
  refine X.iload_n dX5_stamp_7 rfl ?_
  refine X.iconst (v := 0) dX5_stamp_8 (by decide) ?_
  refine X.bipush (v := 7) dX5_stamp_9 (by decide) ?_
  refine X.cS3i (k' := kX5_isIn) dX5_stamp_11 v_X5_isIn wm_X5_75 wt_X5_isIn ⟨Nat.le_of_ble_eq_true rfl, Nat.le_of_ble_eq_true rfl⟩ n_X5_isIn (Nat.le_of_ble_eq_true rfl) ?_
  refine m_isIn_t (rng_in (rng_nI (i := k) (n := 8) hk (by decide)) (by decide) rfl) ?_
  refine ⟨_, rfl, ?_⟩
  refine X.if_ne_t (tgt := 19) dX5_stamp_14 (by decide) ((by decide)) ?_
  refine X.aload_n dX5_stamp_19 rfl ?_
  refine X.iload_n dX5_stamp_20 rfl ?_
  refine X.iload_n dX5_stamp_21 rfl ?_
  refine X.cV2i (k' := kX5_noPlain) dX5_stamp_22 (hM.1 44 (by decide) (by decide)) ⟨by decide, rfl⟩ v_X5_noPlain wm_X5_150 wi_X5_noPlain ws_X5_noPlain ⟨Nat.le_of_ble_eq_true rfl, Nat.le_of_ble_eq_true rfl⟩ n_X5_noPlain (Nat.le_of_ble_eq_true rfl) ?_
  refine m_noPlain hM hw ha ?_
  refine ⟨_, rfl, ?_⟩
  refine X.istore dX5_stamp_25 (Nat.le_of_ble_eq_true rfl) ?_
  refine X.iload dX5_stamp_27 rfl ?_
  refine X.if_ne_f (tgt := 47) dX5_stamp_29 (by decide) ((by rw [hz]; rfl)) ?_
  refine X.aload_n dX5_stamp_32 rfl ?_
  refine X.iload_n dX5_stamp_33 rfl ?_
  refine X.cV1i (k' := kX5_kindOf) dX5_stamp_34 (hM.1 44 (by decide) (by decide)) ⟨by decide, rfl⟩ v_X5_kindOf wm_X5_110 wi_X5_kindOf ws_X5_kindOf ⟨Nat.le_of_ble_eq_true rfl, Nat.le_of_ble_eq_true rfl⟩ n_X5_kindOf (Nat.le_of_ble_eq_true rfl) ?_
  refine m_kindOf hM hw ha h0 ?_
  refine ⟨_, rfl, ?_⟩
  refine X.iload_n dX5_stamp_37 rfl ?_
  refine X.cS2i (k' := kX5_takes) dX5_stamp_38 v_X5_takes wm_X5_106 wt_X5_takes ⟨Nat.le_of_ble_eq_true rfl, Nat.le_of_ble_eq_true rfl⟩ n_X5_takes (Nat.le_of_ble_eq_true rfl) ?_
  refine m_takes lk (by omega) ?_
  rw [ht2]
  refine ⟨_, rfl, ?_⟩
  refine X.if_ne_t (tgt := 47) dX5_stamp_41 (by decide) ((by decide)) ?_
  refine X.aload_n dX5_stamp_47 rfl ?_
  refine X.iload dX5_stamp_48 rfl ?_
  refine X.cV1i (k' := kX5_met) dX5_stamp_50 (hM.1 44 (by decide) (by decide)) ⟨by decide, rfl⟩ v_X5_met wm_X5_141 wi_X5_met ws_X5_met ⟨Nat.le_of_ble_eq_true rfl, Nat.le_of_ble_eq_true rfl⟩ n_X5_met (Nat.le_of_ble_eq_true rfl) ?_
  refine m_met (r := noPlainM μ a (nI j)) hM (noPlain_le _ _ _) ?_
  rw [hz]
  refine ⟨_, rfl, ?_⟩
  refine X.if_le_t (tgt := 62) dX5_stamp_53 (by decide) ((by decide)) ?_
  refine X.aload_n dX5_stamp_62 rfl ?_
  refine X.getR (b := 48) (kf := 3) dX5_stamp_63 (hM.1 44 (by decide) (by decide)) (by decide) (by decide) rfl wf_X5_20 (hM.2 3 (by decide)) ?_
  refine X.aload_n dX5_stamp_66 rfl ?_
  refine X.iload_n dX5_stamp_67 rfl ?_
  refine X.iload_n dX5_stamp_68 rfl ?_
  refine X.cV2i (k' := kX5_at) dX5_stamp_69 (hM.1 44 (by decide) (by decide)) ⟨by decide, rfl⟩ v_X5_at wm_X5_124 wi_X5_at ws_X5_at ⟨Nat.le_of_ble_eq_true rfl, Nat.le_of_ble_eq_true rfl⟩ n_X5_at (Nat.le_of_ble_eq_true rfl) ?_
  refine m_at (μ := metM μ 0) hM hw ha h0 ?_
  refine ⟨_, rfl, ?_⟩
  refine X.aload_n dX5_stamp_72 rfl ?_
  refine X.iload_n dX5_stamp_73 rfl ?_
  refine X.cV1i (k' := kX5_kindOf) dX5_stamp_74 (hM.1 44 (by decide) (by decide)) ⟨by decide, rfl⟩ v_X5_kindOf wm_X5_110 wi_X5_kindOf ws_X5_kindOf ⟨Nat.le_of_ble_eq_true rfl, Nat.le_of_ble_eq_true rfl⟩ n_X5_kindOf (Nat.le_of_ble_eq_true rfl) ?_
  refine m_kindOf (μ := metM μ 0) hM hw ha h0 ?_
  refine ⟨_, rfl, ?_⟩
  refine X.iload_n dX5_stamp_77 rfl ?_
  refine X.lload dX5_stamp_78 rfl ?_
  refine X.cS2l (k' := kX5_made) dX5_stamp_80 v_X5_made wm_X5_98 wt_X5_made ⟨Nat.le_of_ble_eq_true rfl, Nat.le_of_ble_eq_true rfl⟩ n_X5_made (Nat.le_of_ble_eq_true rfl) ?_
  refine m_made hk ?_
  refine ⟨_, rfl, ?_⟩
  refine X.cS2l (k' := kX5_made) dX5_stamp_83 v_X5_made wm_X5_98 wt_X5_made ⟨Nat.le_of_ble_eq_true rfl, Nat.le_of_ble_eq_true rfl⟩ n_X5_made (Nat.le_of_ble_eq_true rfl) ?_
  refine m_made h8 ?_
  refine ⟨_, rfl, ?_⟩
  refine X.last dX5_stamp_86 (hM.1 48 (by decide) (by decide)) (rfl) (cell_in ht (Nat.lt_of_lt_of_le hi ls)) (by decide) ?_
  refine X.iconst (v := 1) dX5_stamp_87 (by decide) ?_
  refine X.ret dX5_stamp_88 ⟨trivial, ?_⟩
  exact hq
set_option maxRecDepth 100000 in
set_option maxHeartbeats 4000000 in
theorem m_probe_o1 {c i k : Int32} {μ : xM} {Q : Option Value → xM → Prop} (hc : rng c 16 = none) (hq : Q (some (.long (0))) (μ)) : Mt kX5_probe [.ref 44, .int (c), .int (i), .int (k)] μ Q := by
  refine Mt.enter rfl (Nat.le_of_ble_eq_true rfl) ?_
  refine X.iload_n dX5_probe_0 rfl ?_
  refine X.cS1i (k' := kX5_isChannel) dX5_probe_1 v_X5_isChannel wm_X5_137 wt_X5_isChannel ⟨Nat.le_of_ble_eq_true rfl, Nat.le_of_ble_eq_true rfl⟩ n_X5_isChannel (Nat.le_of_ble_eq_true rfl) ?_
  refine m_isChannel_f hc ?_
  refine ⟨_, rfl, ?_⟩
  refine X.if_eq_t (tgt := 17) dX5_probe_4 (by decide) ((by decide)) ?_
  refine X.lconst (v := 0) dX5_probe_17 (by decide) ?_
  refine X.ret dX5_probe_18 ⟨trivial, ?_⟩
  exact hq
set_option maxRecDepth 100000 in
set_option maxHeartbeats 4000000 in
theorem m_probe_o2 {a : Nat} {i k : Int32} {μ : xM} {Q : Option Value → xM → Prop} (ha : a < 16) (hk : rng k 8 = none) (hq : Q (some (.long (0))) (μ)) : Mt kX5_probe [.ref 44, .int (nI a), .int (i), .int (k)] μ Q := by
  refine Mt.enter rfl (Nat.le_of_ble_eq_true rfl) ?_
  refine X.iload_n dX5_probe_0 rfl ?_
  refine X.cS1i (k' := kX5_isChannel) dX5_probe_1 v_X5_isChannel wm_X5_137 wt_X5_isChannel ⟨Nat.le_of_ble_eq_true rfl, Nat.le_of_ble_eq_true rfl⟩ n_X5_isChannel (Nat.le_of_ble_eq_true rfl) ?_
  refine m_isChannel_t (chIn ha) ?_
  refine ⟨_, rfl, ?_⟩
  refine X.if_eq_f (tgt := 17) dX5_probe_4 (by decide) ((by decide)) ?_
  refine X.iload_n dX5_probe_7 rfl ?_
  refine X.iconst (v := 0) dX5_probe_8 (by decide) ?_
  refine X.bipush (v := 7) dX5_probe_9 (by decide) ?_
  refine X.cS3i (k' := kX5_isIn) dX5_probe_11 v_X5_isIn wm_X5_75 wt_X5_isIn ⟨Nat.le_of_ble_eq_true rfl, Nat.le_of_ble_eq_true rfl⟩ n_X5_isIn (Nat.le_of_ble_eq_true rfl) ?_
  refine m_isIn_f (rng_no hk (by decide) rfl) ?_
  refine ⟨_, rfl, ?_⟩
  refine X.if_ne_f (tgt := 19) dX5_probe_14 (by decide) ((by decide)) ?_
  refine X.lconst (v := 0) dX5_probe_17 (by decide) ?_
  refine X.ret dX5_probe_18 ⟨trivial, ?_⟩
  exact hq
set_option maxRecDepth 100000 in
set_option maxHeartbeats 4000000 in
theorem m_probe_r1 {a k : Nat} {i : Int32} {μ : xM} {Q : Option Value → xM → Prop} (hM : ShM μ) (hw : WFt μ) (ha : a < 16) (hk : k < 8) (hz : ¬ noPlainM μ a i = 0) (hq : Q (some (.long (0))) (metM μ (noPlainM μ a i))) : Mt kX5_probe [.ref 44, .int (nI a), .int (i), .int (nI k)] μ Q := by
  refine Mt.enter rfl (Nat.le_of_ble_eq_true rfl) ?_
  refine X.iload_n dX5_probe_0 rfl ?_
  refine X.cS1i (k' := kX5_isChannel) dX5_probe_1 v_X5_isChannel wm_X5_137 wt_X5_isChannel ⟨Nat.le_of_ble_eq_true rfl, Nat.le_of_ble_eq_true rfl⟩ n_X5_isChannel (Nat.le_of_ble_eq_true rfl) ?_
  refine m_isChannel_t (chIn ha) ?_
  refine ⟨_, rfl, ?_⟩
  refine X.if_eq_f (tgt := 17) dX5_probe_4 (by decide) ((by decide)) ?_
  refine X.iload_n dX5_probe_7 rfl ?_
  refine X.iconst (v := 0) dX5_probe_8 (by decide) ?_
  refine X.bipush (v := 7) dX5_probe_9 (by decide) ?_
  refine X.cS3i (k' := kX5_isIn) dX5_probe_11 v_X5_isIn wm_X5_75 wt_X5_isIn ⟨Nat.le_of_ble_eq_true rfl, Nat.le_of_ble_eq_true rfl⟩ n_X5_isIn (Nat.le_of_ble_eq_true rfl) ?_
  refine m_isIn_t (rng_in (rng_nI (i := k) (n := 8) hk (by decide)) (by decide) rfl) ?_
  refine ⟨_, rfl, ?_⟩
  refine X.if_ne_t (tgt := 19) dX5_probe_14 (by decide) ((by decide)) ?_
  refine X.aload_n dX5_probe_19 rfl ?_
  refine X.iload_n dX5_probe_20 rfl ?_
  refine X.iload_n dX5_probe_21 rfl ?_
  refine X.cV2i (k' := kX5_noPlain) dX5_probe_22 (hM.1 44 (by decide) (by decide)) ⟨by decide, rfl⟩ v_X5_noPlain wm_X5_150 wi_X5_noPlain ws_X5_noPlain ⟨Nat.le_of_ble_eq_true rfl, Nat.le_of_ble_eq_true rfl⟩ n_X5_noPlain (Nat.le_of_ble_eq_true rfl) ?_
  refine m_noPlain hM hw ha ?_
  refine ⟨_, rfl, ?_⟩
  refine X.istore dX5_probe_25 (Nat.le_of_ble_eq_true rfl) ?_
  refine X.iload dX5_probe_27 rfl ?_
  refine X.if_ne_t (tgt := 47) dX5_probe_29 (by decide) (nI_neq (b := 0) hz (by have := noPlain_le μ a i; omega) (by decide)) ?_
  refine X.aload_n dX5_probe_47 rfl ?_
  refine X.iload dX5_probe_48 rfl ?_
  refine X.cV1i (k' := kX5_met) dX5_probe_50 (hM.1 44 (by decide) (by decide)) ⟨by decide, rfl⟩ v_X5_met wm_X5_141 wi_X5_met ws_X5_met ⟨Nat.le_of_ble_eq_true rfl, Nat.le_of_ble_eq_true rfl⟩ n_X5_met (Nat.le_of_ble_eq_true rfl) ?_
  refine m_met (r := noPlainM μ a i) hM (by exact noPlain_le _ _ _) ?_
  refine ⟨_, rfl, ?_⟩
  refine X.if_le_f (tgt := 60) dX5_probe_53 (by decide) (fun q => hz (nI_le0 q (by have := noPlain_le μ a i; omega))) ?_
  refine X.lconst (v := 0) dX5_probe_56 (by decide) ?_
  refine X.goto (tgt := 75) dX5_probe_57 (by decide) ?_
  refine X.ret dX5_probe_75 ⟨trivial, ?_⟩
  exact hq
set_option maxRecDepth 100000 in
set_option maxHeartbeats 4000000 in
theorem m_probe_r2 {a k : Nat} {i : Int32} {μ : xM} {Q : Option Value → xM → Prop} (hM : ShM μ) (hw : WFt μ) (ha : a < 16) (hk : k < 8) (hz : noPlainM μ a i = 0) (ht2 : takesM k (kd μ (tp μ a)) = false) (hq : Q (some (.long (0))) (metM μ 2)) : Mt kX5_probe [.ref 44, .int (nI a), .int (i), .int (nI k)] μ Q := by
  obtain ⟨hp, h8⟩ := noPlain_0 hz
  obtain ⟨h0, hr, ei, hi⟩ := noPlace_0 hp
  obtain ⟨ht, et⟩ := hw.1 _ ha h0
  obtain ⟨⟨ek, lk⟩, es, ls⟩ := hw.2.1 _ ht
  refine Mt.enter rfl (Nat.le_of_ble_eq_true rfl) ?_
  refine X.iload_n dX5_probe_0 rfl ?_
  refine X.cS1i (k' := kX5_isChannel) dX5_probe_1 v_X5_isChannel wm_X5_137 wt_X5_isChannel ⟨Nat.le_of_ble_eq_true rfl, Nat.le_of_ble_eq_true rfl⟩ n_X5_isChannel (Nat.le_of_ble_eq_true rfl) ?_
  refine m_isChannel_t (chIn ha) ?_
  refine ⟨_, rfl, ?_⟩
  refine X.if_eq_f (tgt := 17) dX5_probe_4 (by decide) ((by decide)) ?_
  refine X.iload_n dX5_probe_7 rfl ?_
  refine X.iconst (v := 0) dX5_probe_8 (by decide) ?_
  refine X.bipush (v := 7) dX5_probe_9 (by decide) ?_
  refine X.cS3i (k' := kX5_isIn) dX5_probe_11 v_X5_isIn wm_X5_75 wt_X5_isIn ⟨Nat.le_of_ble_eq_true rfl, Nat.le_of_ble_eq_true rfl⟩ n_X5_isIn (Nat.le_of_ble_eq_true rfl) ?_
  refine m_isIn_t (rng_in (rng_nI (i := k) (n := 8) hk (by decide)) (by decide) rfl) ?_
  refine ⟨_, rfl, ?_⟩
  refine X.if_ne_t (tgt := 19) dX5_probe_14 (by decide) ((by decide)) ?_
  refine X.aload_n dX5_probe_19 rfl ?_
  refine X.iload_n dX5_probe_20 rfl ?_
  refine X.iload_n dX5_probe_21 rfl ?_
  refine X.cV2i (k' := kX5_noPlain) dX5_probe_22 (hM.1 44 (by decide) (by decide)) ⟨by decide, rfl⟩ v_X5_noPlain wm_X5_150 wi_X5_noPlain ws_X5_noPlain ⟨Nat.le_of_ble_eq_true rfl, Nat.le_of_ble_eq_true rfl⟩ n_X5_noPlain (Nat.le_of_ble_eq_true rfl) ?_
  refine m_noPlain hM hw ha ?_
  refine ⟨_, rfl, ?_⟩
  refine X.istore dX5_probe_25 (Nat.le_of_ble_eq_true rfl) ?_
  refine X.iload dX5_probe_27 rfl ?_
  refine X.if_ne_f (tgt := 47) dX5_probe_29 (by decide) ((by rw [hz]; rfl)) ?_
  refine X.iload_n dX5_probe_32 rfl ?_
  refine X.aload_n dX5_probe_33 rfl ?_
  refine X.iload_n dX5_probe_34 rfl ?_
  refine X.cV1i (k' := kX5_kindOf) dX5_probe_35 (hM.1 44 (by decide) (by decide)) ⟨by decide, rfl⟩ v_X5_kindOf wm_X5_110 wi_X5_kindOf ws_X5_kindOf ⟨Nat.le_of_ble_eq_true rfl, Nat.le_of_ble_eq_true rfl⟩ n_X5_kindOf (Nat.le_of_ble_eq_true rfl) ?_
  refine m_kindOf hM hw ha h0 ?_
  refine ⟨_, rfl, ?_⟩
  refine X.cS2i (k' := kX5_takes) dX5_probe_38 v_X5_takes wm_X5_106 wt_X5_takes ⟨Nat.le_of_ble_eq_true rfl, Nat.le_of_ble_eq_true rfl⟩ n_X5_takes (Nat.le_of_ble_eq_true rfl) ?_
  refine m_takes (by omega) (by omega) ?_
  rw [ht2]
  refine ⟨_, rfl, ?_⟩
  refine X.if_ne_f (tgt := 47) dX5_probe_41 (by decide) ((by decide)) ?_
  refine X.iconst (v := 2) dX5_probe_44 (by decide) ?_
  refine X.istore dX5_probe_45 (Nat.le_of_ble_eq_true rfl) ?_
  refine X.aload_n dX5_probe_47 rfl ?_
  refine X.iload dX5_probe_48 rfl ?_
  refine X.cV1i (k' := kX5_met) dX5_probe_50 (hM.1 44 (by decide) (by decide)) ⟨by decide, rfl⟩ v_X5_met wm_X5_141 wi_X5_met ws_X5_met ⟨Nat.le_of_ble_eq_true rfl, Nat.le_of_ble_eq_true rfl⟩ n_X5_met (Nat.le_of_ble_eq_true rfl) ?_
  refine m_met (r := 2) hM (by decide) ?_
  refine ⟨_, rfl, ?_⟩
  refine X.if_le_f (tgt := 60) dX5_probe_53 (by decide) ((by decide)) ?_
  refine X.lconst (v := 0) dX5_probe_56 (by decide) ?_
  refine X.goto (tgt := 75) dX5_probe_57 (by decide) ?_
  refine X.ret dX5_probe_75 ⟨trivial, ?_⟩
  exact hq
set_option maxRecDepth 100000 in
set_option maxHeartbeats 4000000 in
theorem m_probe_in {a k : Nat} {i : Int32} {μ : xM} {Q : Option Value → xM → Prop} (hM : ShM μ) (hw : WFt μ) (ha : a < 16) (hk : k < 8) (hz : noPlainM μ a i = 0) (ht2 : takesM k (kd μ (tp μ a)) = true) (hq : Q (some (.long (fitM k (cv μ (tp μ a) (ix i))))) (metM μ 0)) : Mt kX5_probe [.ref 44, .int (nI a), .int (i), .int (nI k)] μ Q := by
  obtain ⟨hp, h8⟩ := noPlain_0 hz
  obtain ⟨h0, hr, ei, hi⟩ := noPlace_0 hp
  obtain ⟨ht, et⟩ := hw.1 _ ha h0
  obtain ⟨⟨ek, lk⟩, es, ls⟩ := hw.2.1 _ ht
  generalize hj : ix i = j at *
  subst ei
  refine Mt.enter rfl (Nat.le_of_ble_eq_true rfl) ?_
  refine X.iload_n dX5_probe_0 rfl ?_
  refine X.cS1i (k' := kX5_isChannel) dX5_probe_1 v_X5_isChannel wm_X5_137 wt_X5_isChannel ⟨Nat.le_of_ble_eq_true rfl, Nat.le_of_ble_eq_true rfl⟩ n_X5_isChannel (Nat.le_of_ble_eq_true rfl) ?_
  refine m_isChannel_t (chIn ha) ?_
  refine ⟨_, rfl, ?_⟩
  refine X.if_eq_f (tgt := 17) dX5_probe_4 (by decide) ((by decide)) ?_
  refine X.iload_n dX5_probe_7 rfl ?_
  refine X.iconst (v := 0) dX5_probe_8 (by decide) ?_
  refine X.bipush (v := 7) dX5_probe_9 (by decide) ?_
  refine X.cS3i (k' := kX5_isIn) dX5_probe_11 v_X5_isIn wm_X5_75 wt_X5_isIn ⟨Nat.le_of_ble_eq_true rfl, Nat.le_of_ble_eq_true rfl⟩ n_X5_isIn (Nat.le_of_ble_eq_true rfl) ?_
  refine m_isIn_t (rng_in (rng_nI (i := k) (n := 8) hk (by decide)) (by decide) rfl) ?_
  refine ⟨_, rfl, ?_⟩
  refine X.if_ne_t (tgt := 19) dX5_probe_14 (by decide) ((by decide)) ?_
  refine X.aload_n dX5_probe_19 rfl ?_
  refine X.iload_n dX5_probe_20 rfl ?_
  refine X.iload_n dX5_probe_21 rfl ?_
  refine X.cV2i (k' := kX5_noPlain) dX5_probe_22 (hM.1 44 (by decide) (by decide)) ⟨by decide, rfl⟩ v_X5_noPlain wm_X5_150 wi_X5_noPlain ws_X5_noPlain ⟨Nat.le_of_ble_eq_true rfl, Nat.le_of_ble_eq_true rfl⟩ n_X5_noPlain (Nat.le_of_ble_eq_true rfl) ?_
  refine m_noPlain hM hw ha ?_
  refine ⟨_, rfl, ?_⟩
  refine X.istore dX5_probe_25 (Nat.le_of_ble_eq_true rfl) ?_
  refine X.iload dX5_probe_27 rfl ?_
  refine X.if_ne_f (tgt := 47) dX5_probe_29 (by decide) ((by rw [hz]; rfl)) ?_
  refine X.iload_n dX5_probe_32 rfl ?_
  refine X.aload_n dX5_probe_33 rfl ?_
  refine X.iload_n dX5_probe_34 rfl ?_
  refine X.cV1i (k' := kX5_kindOf) dX5_probe_35 (hM.1 44 (by decide) (by decide)) ⟨by decide, rfl⟩ v_X5_kindOf wm_X5_110 wi_X5_kindOf ws_X5_kindOf ⟨Nat.le_of_ble_eq_true rfl, Nat.le_of_ble_eq_true rfl⟩ n_X5_kindOf (Nat.le_of_ble_eq_true rfl) ?_
  refine m_kindOf hM hw ha h0 ?_
  refine ⟨_, rfl, ?_⟩
  refine X.cS2i (k' := kX5_takes) dX5_probe_38 v_X5_takes wm_X5_106 wt_X5_takes ⟨Nat.le_of_ble_eq_true rfl, Nat.le_of_ble_eq_true rfl⟩ n_X5_takes (Nat.le_of_ble_eq_true rfl) ?_
  refine m_takes (by omega) (by omega) ?_
  rw [ht2]
  refine ⟨_, rfl, ?_⟩
  refine X.if_ne_t (tgt := 47) dX5_probe_41 (by decide) ((by decide)) ?_
  refine X.aload_n dX5_probe_47 rfl ?_
  refine X.iload dX5_probe_48 rfl ?_
  refine X.cV1i (k' := kX5_met) dX5_probe_50 (hM.1 44 (by decide) (by decide)) ⟨by decide, rfl⟩ v_X5_met wm_X5_141 wi_X5_met ws_X5_met ⟨Nat.le_of_ble_eq_true rfl, Nat.le_of_ble_eq_true rfl⟩ n_X5_met (Nat.le_of_ble_eq_true rfl) ?_
  refine m_met (r := noPlainM μ a (nI j)) hM (noPlain_le _ _ _) ?_
  rw [hz]
  refine ⟨_, rfl, ?_⟩
  refine X.if_le_t (tgt := 60) dX5_probe_53 (by decide) ((by decide)) ?_
  refine X.iload_n dX5_probe_60 rfl ?_
  refine X.aload_n dX5_probe_61 rfl ?_
  refine X.getR (b := 48) (kf := 3) dX5_probe_62 (hM.1 44 (by decide) (by decide)) (by decide) (by decide) rfl wf_X5_20 (hM.2 3 (by decide)) ?_
  refine X.aload_n dX5_probe_65 rfl ?_
  refine X.iload_n dX5_probe_66 rfl ?_
  refine X.iload_n dX5_probe_67 rfl ?_
  refine X.cV2i (k' := kX5_at) dX5_probe_68 (hM.1 44 (by decide) (by decide)) ⟨by decide, rfl⟩ v_X5_at wm_X5_124 wi_X5_at ws_X5_at ⟨Nat.le_of_ble_eq_true rfl, Nat.le_of_ble_eq_true rfl⟩ n_X5_at (Nat.le_of_ble_eq_true rfl) ?_
  refine m_at (μ := metM μ 0) hM hw ha h0 ?_
  refine ⟨_, rfl, ?_⟩
  refine X.lald dX5_probe_71 (hM.1 48 (by decide) (by decide)) (rfl) (cell_in ht (Nat.lt_of_lt_of_le hi ls)) (by decide) ?_
  refine X.cS2l (k' := kX5_made) dX5_probe_72 v_X5_made wm_X5_98 wt_X5_made ⟨Nat.le_of_ble_eq_true rfl, Nat.le_of_ble_eq_true rfl⟩ n_X5_made (Nat.le_of_ble_eq_true rfl) ?_
  refine m_made hk ?_
  refine ⟨_, rfl, ?_⟩
  refine X.ret dX5_probe_75 ⟨trivial, ?_⟩
  exact hq
