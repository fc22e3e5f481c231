/-! constructors (laid by wip/whole/mkpb14.py) -/
set_option maxRecDepth 100000 in
set_option maxHeartbeats 4000000 in
theorem x_cellInit {a : Nat} {μ : xM} {Q : Option Value → xM → Prop} (hT : mT μ a = (1, 0)) (hq : Q none (cellP μ a 11 0 none)) : Mt kX1_init [.ref a] μ Q := by
  refine Mt.enter rfl (Nat.le_of_ble_eq_true rfl) ?_
  refine X.aload_n dX1_init_0 rfl ?_
  refine X.objInit dX1_init_1 wm_X1_3 wi_obj w_objc ⟨Nat.le_of_ble_eq_true rfl, Nat.le_of_ble_eq_true rfl⟩ ?_
  refine X.aload_n dX1_init_4 rfl ?_
  refine X.bipush (v := 11) dX1_init_5 (by decide) ?_
  refine X.putI (kf := 0) dX1_init_7 (hT) (by decide) (by decide) rfl (Or.inl rfl) ⟨rfl, rfl⟩ wf_X1_9 ?_
  refine X.aload_n dX1_init_10 rfl ?_
  refine X.lconst (v := 0) dX1_init_11 (by decide) ?_
  refine X.putJ (kf := 1) dX1_init_12 (hT) (by decide) (by decide) rfl (Or.inl rfl) ⟨rfl, rfl⟩ wf_X1_15 ?_
  refine X.aload_n dX1_init_15 rfl ?_
  refine X.null dX1_init_16 ?_
  refine X.putN (kf := 2) dX1_init_17 (hT) (by decide) (by decide) rfl (Or.inl rfl) ⟨rfl, rfl⟩ wf_X1_19 ?_
  refine X.retv dX1_init_20 ⟨trivial, ?_⟩
  exact hq
def chP (μ : xM) (a : Nat) (c : Int32) : xM := sI (sI (sI (sI (sI (sR μ a 1 none) a 2 0) a 3 0) a 4 1) a 5 0) a 0 c
theorem chP_T {μ : xM} {a : Nat} {c : Int32} : mT (chP μ a c) = mT μ ∧ mJ (chP μ a c) = mJ μ ∧ mN (chP μ a c) = mN μ ∧ mS (chP μ a c) = mS μ := by
  unfold chP
  refine ⟨?_, ?_, ?_, ?_⟩
  · rw [mT_sI, mT_sI, mT_sI, mT_sI, mT_sI, mT_sR]
  · rw [mJ_sI, mJ_sI, mJ_sI, mJ_sI, mJ_sI, mJ_sR]
  · rw [mN_sI, mN_sI, mN_sI, mN_sI, mN_sI, mN_sR]
  · rw [mS_sI, mS_sI, mS_sI, mS_sI, mS_sI, mS_sR]
theorem chP_old {μ : xM} {a : Nat} {c : Int32} {b : Nat} (h : b ≠ a) : mI (chP μ a c) b = mI μ b ∧ mR (chP μ a c) b = mR μ b := by
  unfold chP
  refine ⟨?_, ?_⟩
  · rw [mI_at h, mI_at h, mI_at h, mI_at h, mI_at h, mI_sR]
  · rw [mR_sI, mR_sI, mR_sI, mR_sI, mR_sI, mR_at h]
theorem chP_f {μ : xM} {a : Nat} {c : Int32} : mI (chP μ a c) a 0 = c ∧ mR (chP μ a c) a 1 = none ∧ mI (chP μ a c) a 2 = 0 ∧ mI (chP μ a c) a 3 = 0 ∧ mI (chP μ a c) a 4 = 1 ∧ mI (chP μ a c) a 5 = 0 := by
  unfold chP
  refine ⟨?_, ?_, ?_, ?_, ?_, ?_⟩
  · rw [mI_s]
  · rw [mR_sI, mR_sI, mR_sI, mR_sI, mR_sI, mR_s]
  · rw [mI_k (by decide), mI_k (by decide), mI_k (by decide), mI_k (by decide), mI_s]
  · rw [mI_k (by decide), mI_k (by decide), mI_k (by decide), mI_s]
  · rw [mI_k (by decide), mI_k (by decide), mI_s]
  · rw [mI_k (by decide), mI_s]
set_option maxRecDepth 100000 in
set_option maxHeartbeats 4000000 in
theorem x_chanInit {a : Nat} {c : Int32} {μ : xM} {Q : Option Value → xM → Prop} (hT : mT μ a = (2, 0)) (hq : Q none (chP μ a c)) : Mt kX2_init [.ref a, .int c] μ Q := by
  refine Mt.enter rfl (Nat.le_of_ble_eq_true rfl) ?_
  refine X.aload_n dX2_init_0 rfl ?_
  refine X.objInit dX2_init_1 wm_X2_3 wi_obj w_objc ⟨Nat.le_of_ble_eq_true rfl, Nat.le_of_ble_eq_true rfl⟩ ?_
  refine X.aload_n dX2_init_4 rfl ?_
  refine X.null dX2_init_5 ?_
  refine X.putN (kf := 1) dX2_init_6 (hT) (by decide) (by decide) rfl (Or.inl rfl) ⟨rfl, rfl⟩ wf_X2_9 ?_
  refine X.aload_n dX2_init_9 rfl ?_
  refine X.iconst (v := 0) dX2_init_10 (by decide) ?_
  refine X.putI (kf := 2) dX2_init_11 (hT) (by decide) (by decide) rfl (Or.inl rfl) ⟨rfl, rfl⟩ wf_X2_15 ?_
  refine X.aload_n dX2_init_14 rfl ?_
  refine X.iconst (v := 0) dX2_init_15 (by decide) ?_
  refine X.putI (kf := 3) dX2_init_16 (hT) (by decide) (by decide) rfl (Or.inl rfl) ⟨rfl, rfl⟩ wf_X2_19 ?_
  refine X.aload_n dX2_init_19 rfl ?_
  refine X.iconst (v := 1) dX2_init_20 (by decide) ?_
  refine X.putI (kf := 4) dX2_init_21 (hT) (by decide) (by decide) rfl (Or.inl rfl) ⟨rfl, rfl⟩ wf_X2_23 ?_
  refine X.aload_n dX2_init_24 rfl ?_
  refine X.iconst (v := 0) dX2_init_25 (by decide) ?_
  refine X.putI (kf := 5) dX2_init_26 (hT) (by decide) (by decide) rfl (Or.inl rfl) ⟨rfl, rfl⟩ wf_X2_26 ?_
  refine X.aload_n dX2_init_29 rfl ?_
  refine X.iload_n dX2_init_30 rfl ?_
  refine X.putI (kf := 0) dX2_init_31 (hT) (by decide) (by decide) rfl (Or.inr ⟨rfl, rfl, rfl⟩) ⟨rfl, rfl⟩ wf_X2_29 ?_
  refine X.retv dX2_init_34 ⟨trivial, ?_⟩
  exact hq
/-- arrays made one after another, each held by a field of the object o: the newest first (shape, length, field) -/
def bldM (o : Nat) (m0 : xM) : List (Nat × Nat × Nat) → xM
  | [] => m0
  | x :: l => sR (sNew (bldM o m0 l) x.1 x.2.1 x.2.1) o x.2.2 (some (mN (bldM o m0 l)))
theorem bld_N (o : Nat) (m0 : xM) : ∀ l, mN (bldM o m0 l) = mN m0 + l.length
  | [] => rfl
  | x :: l => by
    unfold bldM
    rw [mN_sR, mN_sNew, bld_N o m0 l, List.length_cons]
    omega
theorem bld_S (o : Nat) (m0 : xM) : ∀ l, mS (bldM o m0 l) = mS m0 + (l.map (fun x => x.2.1)).sum
  | [] => rfl
  | x :: l => by
    unfold bldM
    rw [mS_sR, mS_sNew, bld_S o m0 l, List.map_cons, List.sum_cons]
    omega
theorem bld_T (o : Nat) (m0 : xM) {b : Nat} (hb : b < mN m0) : ∀ l, mT (bldM o m0 l) b = mT m0 b
  | [] => rfl
  | x :: l => by
    unfold bldM
    rw [mT_sR, mT_sNew]
    show (if b = mN (bldM o m0 l) then _ else mT (bldM o m0 l) b) = _
    rw [if_neg (by rw [bld_N]; omega)]
    exact bld_T o m0 hb l
theorem bld_I (o : Nat) (m0 : xM) {b : Nat} (hb : b < mN m0) : ∀ l, mI (bldM o m0 l) b = mI m0 b ∧ mJ (bldM o m0 l) b = mJ m0 b
  | [] => ⟨rfl, rfl⟩
  | x :: l => by
    have h := bld_I o m0 hb l
    have hn : ¬ b = mN (bldM o m0 l) := by rw [bld_N]; omega
    unfold bldM
    rw [mI_sR, mI_sNew, mJ_sR, mJ_sNew]
    refine ⟨?_, ?_⟩
    · funext j
      show (if b = mN (bldM o m0 l) then _ else mI (bldM o m0 l) b j) = _
      rw [if_neg hn, h.1]
    · funext j
      show (if b = mN (bldM o m0 l) then _ else mJ (bldM o m0 l) b j) = _
      rw [if_neg hn, h.2]
theorem bld_R (o : Nat) (m0 : xM) {b : Nat} (hb : b < mN m0) (ho : b ≠ o) : ∀ l, mR (bldM o m0 l) b = mR m0 b
  | [] => rfl
  | x :: l => by
    have hn : ¬ b = mN (bldM o m0 l) := by rw [bld_N]; omega
    unfold bldM
    rw [mR_at ho, mR_sNew]
    funext j
    show (if b = mN (bldM o m0 l) then _ else mR (bldM o m0 l) b j) = _
    rw [if_neg hn, bld_R o m0 hb ho l]
