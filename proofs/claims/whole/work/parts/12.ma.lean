/-! the reference's small methods (laid by wip/whole/mkmodel1.py) -/
set_option maxRecDepth 100000 in
set_option maxHeartbeats 4000000 in
theorem m_isIn_t {v lo hi : Int32} {μ : xM} {Q : Option Value → xM → Prop} (h : lo ≤ v ∧ v ≤ hi) (hq : Q (some (.int 1)) μ) : Mt kX5_isIn [.int v, .int lo, .int hi] μ Q := by
  refine Mt.enter rfl (Nat.le_of_ble_eq_true rfl) ?_
  refine X.iload_n dX5_isIn_0 rfl ?_
  refine X.iload_n dX5_isIn_1 rfl ?_
  refine X.icmp_lt_f (tgt := 14) dX5_isIn_2 (by decide) (Int32.not_lt.mpr h.1) ?_
  refine X.iload_n dX5_isIn_5 rfl ?_
  refine X.iload_n dX5_isIn_6 rfl ?_
  refine X.icmp_gt_f (tgt := 14) dX5_isIn_7 (by decide) (Int32.not_lt.mpr h.2) ?_
  refine X.iconst (v := 1) dX5_isIn_10 (by decide) ?_
  refine X.goto (tgt := 15) dX5_isIn_11 (by decide) ?_
  refine X.ret dX5_isIn_15 ⟨(by first | exact Or.inl rfl | exact Or.inr rfl), ?_⟩
  exact hq
set_option maxRecDepth 100000 in
set_option maxHeartbeats 4000000 in
theorem m_isIn_f {v lo hi : Int32} {μ : xM} {Q : Option Value → xM → Prop} (h : ¬ (lo ≤ v ∧ v ≤ hi)) (hq : Q (some (.int 0)) μ) : Mt kX5_isIn [.int v, .int lo, .int hi] μ Q := by
  refine Mt.enter rfl (Nat.le_of_ble_eq_true rfl) ?_
  refine X.iload_n dX5_isIn_0 rfl ?_
  refine X.iload_n dX5_isIn_1 rfl ?_
  refine X.icmp_lt (tgt := 14) dX5_isIn_2 (by decide) (fun c2 => ?_) (fun c2 => ?_)
  · refine X.iconst (v := 0) dX5_isIn_14 (by decide) ?_
    refine X.ret dX5_isIn_15 ⟨(by first | exact Or.inl rfl | exact Or.inr rfl), ?_⟩
    exact hq
  · refine X.iload_n dX5_isIn_5 rfl ?_
    refine X.iload_n dX5_isIn_6 rfl ?_
    refine X.icmp_gt (tgt := 14) dX5_isIn_7 (by decide) (fun c7 => ?_) (fun c7 => ?_)
    · refine X.iconst (v := 0) dX5_isIn_14 (by decide) ?_
      refine X.ret dX5_isIn_15 ⟨(by first | exact Or.inl rfl | exact Or.inr rfl), ?_⟩
      exact hq
    · exact absurd ⟨Int32.not_lt.mp c2, Int32.not_lt.mp c7⟩ h
set_option maxRecDepth 100000 in
set_option maxHeartbeats 4000000 in
theorem m_isChannel_t {c : Int32} {i : Nat} {μ : xM} {Q : Option Value → xM → Prop} (h : rng c 16 = some i) (hq : Q (some (.int 1)) μ) : Mt kX5_isChannel [.int c] μ Q := by
  refine Mt.enter rfl (Nat.le_of_ble_eq_true rfl) ?_
  refine X.iload_n dX5_isChannel_0 rfl ?_
  refine X.iconst (v := 0) dX5_isChannel_1 (by decide) ?_
  refine X.bipush (v := 15) dX5_isChannel_2 (by decide) ?_
  refine X.cS3i (k' := kX5_isIn) dX5_isChannel_4 v_X5_isIn wm_X5_75 wt_X5_isIn ⟨Nat.le_of_ble_eq_true rfl, Nat.le_of_ble_eq_true rfl⟩ n_X5_isIn (Nat.le_of_ble_eq_true rfl) ?_
  refine m_isIn_t (rng_in h (by decide) rfl) ?_
  refine ⟨_, rfl, ?_⟩
  refine X.ret dX5_isChannel_7 ⟨(by first | exact Or.inl rfl | exact Or.inr rfl), ?_⟩
  exact hq
set_option maxRecDepth 100000 in
set_option maxHeartbeats 4000000 in
theorem m_isChannel_f {c : Int32} {μ : xM} {Q : Option Value → xM → Prop} (h : rng c 16 = none) (hq : Q (some (.int 0)) μ) : Mt kX5_isChannel [.int c] μ Q := by
  refine Mt.enter rfl (Nat.le_of_ble_eq_true rfl) ?_
  refine X.iload_n dX5_isChannel_0 rfl ?_
  refine X.iconst (v := 0) dX5_isChannel_1 (by decide) ?_
  refine X.bipush (v := 15) dX5_isChannel_2 (by decide) ?_
  refine X.cS3i (k' := kX5_isIn) dX5_isChannel_4 v_X5_isIn wm_X5_75 wt_X5_isIn ⟨Nat.le_of_ble_eq_true rfl, Nat.le_of_ble_eq_true rfl⟩ n_X5_isIn (Nat.le_of_ble_eq_true rfl) ?_
  refine m_isIn_f (rng_no h (by decide) rfl) ?_
  refine ⟨_, rfl, ?_⟩
  refine X.ret dX5_isChannel_7 ⟨(by first | exact Or.inl rfl | exact Or.inr rfl), ?_⟩
  exact hq
/-- a refusal is noted: why() and the counts -/
def metM (μ : xM) (r : Nat) : xM := sI (sI μ 44 25 (nI r)) 65 r (if r = 0 then mI μ 65 0 else mI μ 65 r + 1)
def sortM (μ : xM) (c : Nat) : Int32 := if mI μ 50 c = -1 then 0 else if mI μ 50 c = -2 then 2 else 1
def noTapeM (μ : xM) (c : Nat) : Nat := if mI μ 50 c = -1 then 1 else if mI μ 50 c = -2 then 2 else 0
theorem metM_0 (μ : xM) : metM μ 0 = sI μ 44 25 (nI 0) := by
  unfold metM
  rw [if_pos rfl]
  exact sI_self (sI μ 44 25 (nI 0)) 65 0
theorem metM_pos (μ : xM) {r : Nat} (h : r ≠ 0) : metM μ r = sI (sI μ 44 25 (nI r)) 65 r (mI (sI μ 44 25 (nI r)) 65 r + 1) := by
  unfold metM
  rw [if_neg h]
  rfl
theorem nI_le0 {r : Nat} (h : nI r ≤ 0) (hr : r < 2 ^ 31) : r = 0 := by
  rcases Nat.eq_zero_or_pos r with e | e
  · exact e
  · exact absurd h (nI_nle e hr)
theorem ShM.met {μ : xM} (h : ShM μ) (r : Nat) : ShM (metM μ r) := h
theorem noTapeM_le (μ : xM) (c : Nat) : noTapeM μ c ≤ 2 := by unfold noTapeM; split <;> (try split) <;> omega
set_option maxRecDepth 100000 in
set_option maxHeartbeats 4000000 in
theorem m_isCable_t {c : Int32} {i q : Nat} {μ : xM} {Q : Option Value → xM → Prop} (hM : ShM μ) (hc : mI μ 44 10 = nI q) (hlt : q ≤ 24) (h : rng c q = some i) (hq : Q (some (.int 1)) μ) : Mt kX5_isCable [.ref 44, .int c] μ Q := by
  refine Mt.enter rfl (Nat.le_of_ble_eq_true rfl) ?_
  refine X.iload_n dX5_isCable_0 rfl ?_
  refine X.iconst (v := 0) dX5_isCable_1 (by decide) ?_
  refine X.aload_n dX5_isCable_2 rfl ?_
  refine X.getI (kf := 10) dX5_isCable_3 (hM.1 44 (by decide) (by decide)) (by decide) (by decide) rfl wf_X5_79 ?_
  refine X.iconst (v := 1) dX5_isCable_6 (by decide) ?_
  refine X.isub dX5_isCable_7 ?_
  refine X.cS3i (k' := kX5_isIn) dX5_isCable_8 v_X5_isIn wm_X5_75 wt_X5_isIn ⟨Nat.le_of_ble_eq_true rfl, Nat.le_of_ble_eq_true rfl⟩ n_X5_isIn (Nat.le_of_ble_eq_true rfl) ?_
  refine m_isIn_t (rng_in h (by omega) (by rw [hc])) ?_
  refine ⟨_, rfl, ?_⟩
  refine X.ret dX5_isCable_11 ⟨(by first | exact Or.inl rfl | exact Or.inr rfl), ?_⟩
  exact hq
set_option maxRecDepth 100000 in
set_option maxHeartbeats 4000000 in
theorem m_isCable_f {c : Int32} {q : Nat} {μ : xM} {Q : Option Value → xM → Prop} (hM : ShM μ) (hc : mI μ 44 10 = nI q) (hlt : q ≤ 24) (h : rng c q = none) (hq : Q (some (.int 0)) μ) : Mt kX5_isCable [.ref 44, .int c] μ Q := by
  refine Mt.enter rfl (Nat.le_of_ble_eq_true rfl) ?_
  refine X.iload_n dX5_isCable_0 rfl ?_
  refine X.iconst (v := 0) dX5_isCable_1 (by decide) ?_
  refine X.aload_n dX5_isCable_2 rfl ?_
  refine X.getI (kf := 10) dX5_isCable_3 (hM.1 44 (by decide) (by decide)) (by decide) (by decide) rfl wf_X5_79 ?_
  refine X.iconst (v := 1) dX5_isCable_6 (by decide) ?_
  refine X.isub dX5_isCable_7 ?_
  refine X.cS3i (k' := kX5_isIn) dX5_isCable_8 v_X5_isIn wm_X5_75 wt_X5_isIn ⟨Nat.le_of_ble_eq_true rfl, Nat.le_of_ble_eq_true rfl⟩ n_X5_isIn (Nat.le_of_ble_eq_true rfl) ?_
  refine m_isIn_f (rng_no h (by omega) (by rw [hc])) ?_
  refine ⟨_, rfl, ?_⟩
  refine X.ret dX5_isCable_11 ⟨(by first | exact Or.inl rfl | exact Or.inr rfl), ?_⟩
  exact hq
set_option maxRecDepth 100000 in
set_option maxHeartbeats 4000000 in
theorem m_met {r : Nat} {μ : xM} {Q : Option Value → xM → Prop} (hM : ShM μ) (hr : r < 6) (hq : Q (some (.int (nI r))) (metM μ r)) : Mt kX5_met [.ref 44, .int (nI r)] μ Q := by
  refine Mt.enter rfl (Nat.le_of_ble_eq_true rfl) ?_
  refine X.aload_n dX5_met_0 rfl ?_
  refine X.iload_n dX5_met_1 rfl ?_
  refine X.putI (kf := 25) dX5_met_2 (hM.1 44 (by decide) (by decide)) (by decide) (by decide) rfl (Or.inl rfl) ⟨rfl, rfl⟩ wf_X5_83 ?_
  refine X.iload_n dX5_met_5 rfl ?_
  refine X.if_le (tgt := 19) dX5_met_6 (by decide) (fun c6 => ?_) (fun c6 => ?_)
  · refine X.iload_n dX5_met_19 rfl ?_
    refine X.ret dX5_met_20 ⟨trivial, ?_⟩
    first
      | (have e := nI_le0 c6 (by omega); subst e; rw [metM_0] at hq; exact hq)
      | (rw [metM_pos μ (fun e => c6 (by rw [e]; decide))] at hq; exact hq)
  · refine X.aload_n dX5_met_9 rfl ?_
    refine X.getR (b := 65) (kf := 24) dX5_met_10 (hM.1 44 (by decide) (by decide)) (by decide) (by decide) rfl wf_X5_72 (hM.2 24 (by decide)) ?_
    refine X.iload_n dX5_met_13 rfl ?_
    refine X.dup2 dX5_met_14 ?_
    refine X.iald dX5_met_15 (hM.1 65 (by decide) (by decide)) (rfl) (hr) (by decide) ?_
    refine X.iconst (v := 1) dX5_met_16 (by decide) ?_
    refine X.iadd dX5_met_17 ?_
    refine X.iast dX5_met_18 (hM.1 65 (by decide) (by decide)) (rfl) (hr) (by decide) ?_
    refine X.iload_n dX5_met_19 rfl ?_
    refine X.ret dX5_met_20 ⟨trivial, ?_⟩
    first
      | (have e := nI_le0 c6 (by omega); subst e; rw [metM_0] at hq; exact hq)
      | (rw [metM_pos μ (fun e => c6 (by rw [e]; decide))] at hq; exact hq)
set_option maxRecDepth 100000 in
set_option maxHeartbeats 4000000 in
theorem m_sort {c : Nat} {μ : xM} {Q : Option Value → xM → Prop} (hM : ShM μ) (hc : c < 16) (hq : Q (some (.int (sortM μ c))) μ) : Mt kX5_sort [.ref 44, .int (nI c)] μ Q := by
  refine Mt.enter rfl (Nat.le_of_ble_eq_true rfl) ?_
  refine X.aload_n dX5_sort_0 rfl ?_
  refine X.getR (b := 50) (kf := 6) dX5_sort_1 (hM.1 44 (by decide) (by decide)) (by decide) (by decide) rfl wf_X5_27 (hM.2 6 (by decide)) ?_
  refine X.iload_n dX5_sort_4 rfl ?_
  refine X.iald dX5_sort_5 (hM.1 50 (by decide) (by decide)) (rfl) (hc) (by decide) ?_
  refine X.iconst (v := -1) dX5_sort_6 (by decide) ?_
  refine X.icmp_ne (tgt := 14) dX5_sort_7 (by decide) (fun c7 => ?_) (fun c7 => ?_)
  · refine X.aload_n dX5_sort_14 rfl ?_
    refine X.getR (b := 50) (kf := 6) dX5_sort_15 (hM.1 44 (by decide) (by decide)) (by decide) (by decide) rfl wf_X5_27 (hM.2 6 (by decide)) ?_
    refine X.iload_n dX5_sort_18 rfl ?_
    refine X.iald dX5_sort_19 (hM.1 50 (by decide) (by decide)) (rfl) (hc) (by decide) ?_
    refine X.bipush (v := -2) dX5_sort_20 (by decide) ?_
    refine X.icmp_ne (tgt := 29) dX5_sort_22 (by decide) (fun c22 => ?_) (fun c22 => ?_)
    · refine X.iconst (v := 1) dX5_sort_29 (by decide) ?_
      refine X.ret dX5_sort_30 ⟨trivial, ?_⟩
      unfold sortM at hq; simp only [*, ↓reduceIte] at hq; exact hq
    · refine X.iconst (v := 2) dX5_sort_25 (by decide) ?_
      refine X.goto (tgt := 30) dX5_sort_26 (by decide) ?_
      refine X.ret dX5_sort_30 ⟨trivial, ?_⟩
      unfold sortM at hq; simp only [*, ↓reduceIte] at hq; exact hq
  · refine X.iconst (v := 0) dX5_sort_10 (by decide) ?_
    refine X.goto (tgt := 30) dX5_sort_11 (by decide) ?_
    refine X.ret dX5_sort_30 ⟨trivial, ?_⟩
    unfold sortM at hq; simp only [*, ↓reduceIte] at hq; exact hq
set_option maxRecDepth 100000 in
set_option maxHeartbeats 4000000 in
theorem m_noTape {c : Nat} {μ : xM} {Q : Option Value → xM → Prop} (hM : ShM μ) (hc : c < 16) (hq : Q (some (.int (nI (noTapeM μ c)))) μ) : Mt kX5_noTape [.ref 44, .int (nI c)] μ Q := by
  refine Mt.enter rfl (Nat.le_of_ble_eq_true rfl) ?_
  refine X.aload_n dX5_noTape_0 rfl ?_
  refine X.getR (b := 50) (kf := 6) dX5_noTape_1 (hM.1 44 (by decide) (by decide)) (by decide) (by decide) rfl wf_X5_27 (hM.2 6 (by decide)) ?_
  refine X.iload_n dX5_noTape_4 rfl ?_
  refine X.iald dX5_noTape_5 (hM.1 50 (by decide) (by decide)) (rfl) (hc) (by decide) ?_
  refine X.iconst (v := -1) dX5_noTape_6 (by decide) ?_
  refine X.icmp_ne (tgt := 14) dX5_noTape_7 (by decide) (fun c7 => ?_) (fun c7 => ?_)
  · refine X.aload_n dX5_noTape_14 rfl ?_
    refine X.getR (b := 50) (kf := 6) dX5_noTape_15 (hM.1 44 (by decide) (by decide)) (by decide) (by decide) rfl wf_X5_27 (hM.2 6 (by decide)) ?_
    refine X.iload_n dX5_noTape_18 rfl ?_
    refine X.iald dX5_noTape_19 (hM.1 50 (by decide) (by decide)) (rfl) (hc) (by decide) ?_
    refine X.bipush (v := -2) dX5_noTape_20 (by decide) ?_
    refine X.icmp_ne (tgt := 29) dX5_noTape_22 (by decide) (fun c22 => ?_) (fun c22 => ?_)
    · refine X.iconst (v := 0) dX5_noTape_29 (by decide) ?_
      refine X.ret dX5_noTape_30 ⟨trivial, ?_⟩
      unfold noTapeM at hq; simp only [*, ↓reduceIte] at hq; exact hq
    · refine X.iconst (v := 2) dX5_noTape_25 (by decide) ?_
      refine X.goto (tgt := 30) dX5_noTape_26 (by decide) ?_
      refine X.ret dX5_noTape_30 ⟨trivial, ?_⟩
      unfold noTapeM at hq; simp only [*, ↓reduceIte] at hq; exact hq
  · refine X.iconst (v := 1) dX5_noTape_10 (by decide) ?_
    refine X.goto (tgt := 30) dX5_noTape_11 (by decide) ?_
    refine X.ret dX5_noTape_30 ⟨trivial, ?_⟩
    unfold noTapeM at hq; simp only [*, ↓reduceIte] at hq; exact hq
