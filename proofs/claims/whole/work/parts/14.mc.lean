/-! the reference: cells read, made and written (laid by wip/whole/mkmodel3.py) -/
theorem lgc_eq {x y : Int64} (h : x = y) : lg_cmp x y = 0 := by
  subst h
  unfold lg_cmp
  rw [if_neg (Int64.lt_irrefl), if_pos rfl]
theorem lgc_ne {x y : Int64} (h : x ≠ y) : ¬ lg_cmp x y = 0 := by
  unfold lg_cmp
  split
  · decide
  · first | decide | (rw [if_neg h]; decide)
theorem lgc_gt {x y : Int64} (h : y < x) : ¬ lg_cmp x y ≤ 0 := by
  unfold lg_cmp
  rw [if_pos h]
  decide
theorem lgc_ngt {x y : Int64} (h : ¬ y < x) : lg_cmp x y ≤ 0 := by
  unfold lg_cmp
  rw [if_neg h]
  split <;> decide
theorem cell_in {t j : Nat} (ht : t < 560) (hj : j < 32) : 32 * t + j < 17920 := by omega
theorem nI_neq {a b : Nat} (h : a ≠ b) (ha : a < 2 ^ 31) (hb : b < 2 ^ 31) : ¬ nI a = nI b := fun q => h ((nI_eq ha hb).mp q)
theorem cellKind_le {μ : xM} {t j : Nat} : cellKindM μ t j ≤ 11 := by
  unfold cellKindM
  split
  · omega
  · split
    · omega
    · split
      · omega
      · split <;> omega
theorem fit_id {k : Nat} (h : 8 ≤ k) (v : Int64) : fitM k v = v := by
  unfold fitM
  split <;> first | omega | rfl
set_option maxRecDepth 100000 in
set_option maxHeartbeats 4000000 in
theorem m_cellKind1 {t j : Nat} {μ : xM} {Q : Option Value → xM → Prop} (hM : ShM μ) (hw : WFt μ) (ht : t < 560) (hj : j < sz μ t) (h8 : kd μ t < 8) (hq : Q (some (.int (nI (cellKindM μ t j)))) μ) : Mt kX5_cellKind [.ref 44, .int (nI t), .int (nI j)] μ Q := by
  obtain ⟨⟨ek, lk⟩, es, ls⟩ := hw.2.1 _ ht
  have hin := cell_in ht (Nat.lt_of_lt_of_le hj ls)
  refine Mt.enter rfl (Nat.le_of_ble_eq_true rfl) ?_
  refine X.aload_n dX5_cellKind_0 rfl ?_
  refine X.getR (b := 45) (kf := 0) dX5_cellKind_1 (hM.1 44 (by decide) (by decide)) (by decide) (by decide) rfl wf_X5_7 (hM.2 0 (by decide)) ?_
  refine X.iload_n dX5_cellKind_4 rfl ?_
  refine X.iald dX5_cellKind_5 (hM.1 45 (by decide) (by decide)) (rfl) (ht) (by decide) ?_
  refine X.istore_n dX5_cellKind_6 (Nat.le_of_ble_eq_true rfl) ?_
  refine X.aload_n dX5_cellKind_7 rfl ?_
  refine X.getR (b := 48) (kf := 3) dX5_cellKind_8 (hM.1 44 (by decide) (by decide)) (by decide) (by decide) rfl wf_X5_20 (hM.2 3 (by decide)) ?_
  refine X.bipush (v := 32) dX5_cellKind_11 (by decide) ?_
  refine X.iload_n dX5_cellKind_13 rfl ?_
  refine X.imul dX5_cellKind_14 ?_
  refine X.iload_n dX5_cellKind_15 rfl ?_
  refine X.iadd dX5_cellKind_16 ?_
  refine X.lald dX5_cellKind_17 (hM.1 48 (by decide) (by decide)) (at_eq2 t j) (hin) (by decide) ?_
  refine X.lstore dX5_cellKind_18 (Nat.le_of_ble_eq_true rfl) ?_
  refine X.iload_n dX5_cellKind_20 rfl ?_
  refine X.bipush (v := 8) dX5_cellKind_21 (by decide) ?_
  refine X.icmp_ge_f (tgt := 28) dX5_cellKind_23 (by decide) ((by rw [ek]; exact nI_ge (a := kd μ t) (b := 8) h8 (by decide))) ?_
  refine X.iload_n dX5_cellKind_26 rfl ?_
  refine X.ret dX5_cellKind_27 ⟨trivial, ?_⟩
  unfold cellKindM at hq
  rw [if_pos h8] at hq
  rw [ek]
  exact hq
set_option maxRecDepth 100000 in
set_option maxHeartbeats 4000000 in
theorem m_cellKind2 {t j : Nat} {μ : xM} {Q : Option Value → xM → Prop} (hM : ShM μ) (hw : WFt μ) (ht : t < 560) (hj : j < sz μ t) (h8 : ¬ kd μ t < 8) (hv : cv μ t j = 0) (hq : Q (some (.int (nI (cellKindM μ t j)))) μ) : Mt kX5_cellKind [.ref 44, .int (nI t), .int (nI j)] μ Q := by
  obtain ⟨⟨ek, lk⟩, es, ls⟩ := hw.2.1 _ ht
  have hin := cell_in ht (Nat.lt_of_lt_of_le hj ls)
  refine Mt.enter rfl (Nat.le_of_ble_eq_true rfl) ?_
  refine X.aload_n dX5_cellKind_0 rfl ?_
  refine X.getR (b := 45) (kf := 0) dX5_cellKind_1 (hM.1 44 (by decide) (by decide)) (by decide) (by decide) rfl wf_X5_7 (hM.2 0 (by decide)) ?_
  refine X.iload_n dX5_cellKind_4 rfl ?_
  refine X.iald dX5_cellKind_5 (hM.1 45 (by decide) (by decide)) (rfl) (ht) (by decide) ?_
  refine X.istore_n dX5_cellKind_6 (Nat.le_of_ble_eq_true rfl) ?_
  refine X.aload_n dX5_cellKind_7 rfl ?_
  refine X.getR (b := 48) (kf := 3) dX5_cellKind_8 (hM.1 44 (by decide) (by decide)) (by decide) (by decide) rfl wf_X5_20 (hM.2 3 (by decide)) ?_
  refine X.bipush (v := 32) dX5_cellKind_11 (by decide) ?_
  refine X.iload_n dX5_cellKind_13 rfl ?_
  refine X.imul dX5_cellKind_14 ?_
  refine X.iload_n dX5_cellKind_15 rfl ?_
  refine X.iadd dX5_cellKind_16 ?_
  refine X.lald dX5_cellKind_17 (hM.1 48 (by decide) (by decide)) (at_eq2 t j) (hin) (by decide) ?_
  refine X.lstore dX5_cellKind_18 (Nat.le_of_ble_eq_true rfl) ?_
  refine X.iload_n dX5_cellKind_20 rfl ?_
  refine X.bipush (v := 8) dX5_cellKind_21 (by decide) ?_
  refine X.icmp_ge_t (tgt := 28) dX5_cellKind_23 (by decide) ((by rw [ek]; exact nI_le (a := 8) (b := kd μ t) (by omega) (by omega))) ?_
  refine X.lload dX5_cellKind_28 rfl ?_
  refine X.lconst (v := 0) dX5_cellKind_30 (by decide) ?_
  refine X.lcmp dX5_cellKind_31 ?_
  refine X.if_ne_f (tgt := 40) dX5_cellKind_32 (by decide) (lgc_eq hv) ?_
  refine X.bipush (v := 11) dX5_cellKind_35 (by decide) ?_
  refine X.goto (tgt := 69) dX5_cellKind_37 (by decide) ?_
  refine X.ret dX5_cellKind_69 ⟨trivial, ?_⟩
  unfold cellKindM at hq
  rw [if_neg h8, if_pos hv] at hq
  exact hq
set_option maxRecDepth 100000 in
set_option maxHeartbeats 4000000 in
theorem m_cellKind3 {t j : Nat} {μ : xM} {Q : Option Value → xM → Prop} (hM : ShM μ) (hw : WFt μ) (ht : t < 560) (hj : j < sz μ t) (h8 : ¬ kd μ t < 8) (hv : ¬ cv μ t j = 0) (h10 : kd μ t = 10) (hq : Q (some (.int (nI (cellKindM μ t j)))) μ) : Mt kX5_cellKind [.ref 44, .int (nI t), .int (nI j)] μ Q := by
  obtain ⟨⟨ek, lk⟩, es, ls⟩ := hw.2.1 _ ht
  have hin := cell_in ht (Nat.lt_of_lt_of_le hj ls)
  refine Mt.enter rfl (Nat.le_of_ble_eq_true rfl) ?_
  refine X.aload_n dX5_cellKind_0 rfl ?_
  refine X.getR (b := 45) (kf := 0) dX5_cellKind_1 (hM.1 44 (by decide) (by decide)) (by decide) (by decide) rfl wf_X5_7 (hM.2 0 (by decide)) ?_
  refine X.iload_n dX5_cellKind_4 rfl ?_
  refine X.iald dX5_cellKind_5 (hM.1 45 (by decide) (by decide)) (rfl) (ht) (by decide) ?_
  refine X.istore_n dX5_cellKind_6 (Nat.le_of_ble_eq_true rfl) ?_
  refine X.aload_n dX5_cellKind_7 rfl ?_
  refine X.getR (b := 48) (kf := 3) dX5_cellKind_8 (hM.1 44 (by decide) (by decide)) (by decide) (by decide) rfl wf_X5_20 (hM.2 3 (by decide)) ?_
  refine X.bipush (v := 32) dX5_cellKind_11 (by decide) ?_
  refine X.iload_n dX5_cellKind_13 rfl ?_
  refine X.imul dX5_cellKind_14 ?_
  refine X.iload_n dX5_cellKind_15 rfl ?_
  refine X.iadd dX5_cellKind_16 ?_
  refine X.lald dX5_cellKind_17 (hM.1 48 (by decide) (by decide)) (at_eq2 t j) (hin) (by decide) ?_
  refine X.lstore dX5_cellKind_18 (Nat.le_of_ble_eq_true rfl) ?_
  refine X.iload_n dX5_cellKind_20 rfl ?_
  refine X.bipush (v := 8) dX5_cellKind_21 (by decide) ?_
  refine X.icmp_ge_t (tgt := 28) dX5_cellKind_23 (by decide) ((by rw [ek]; exact nI_le (a := 8) (b := kd μ t) (by omega) (by omega))) ?_
  refine X.lload dX5_cellKind_28 rfl ?_
  refine X.lconst (v := 0) dX5_cellKind_30 (by decide) ?_
  refine X.lcmp dX5_cellKind_31 ?_
  refine X.if_ne_t (tgt := 40) dX5_cellKind_32 (by decide) (lgc_ne hv) ?_
  refine X.iload_n dX5_cellKind_40 rfl ?_
  refine X.bipush (v := 10) dX5_cellKind_41 (by decide) ?_
  refine X.icmp_ne_f (tgt := 51) dX5_cellKind_43 (by decide) ((by rw [ek, h10]; rfl)) ?_
  refine X.bipush (v := 10) dX5_cellKind_46 (by decide) ?_
  refine X.goto (tgt := 69) dX5_cellKind_48 (by decide) ?_
  refine X.ret dX5_cellKind_69 ⟨trivial, ?_⟩
  unfold cellKindM at hq
  rw [if_neg h8, if_neg hv, if_pos h10] at hq
  exact hq
set_option maxRecDepth 100000 in
set_option maxHeartbeats 4000000 in
theorem m_cellKind4 {t j : Nat} {μ : xM} {Q : Option Value → xM → Prop} (hM : ShM μ) (hw : WFt μ) (ht : t < 560) (hj : j < sz μ t) (h8 : ¬ kd μ t < 8) (hv : ¬ cv μ t j = 0) (h10 : ¬ kd μ t = 10) (hq : Q (some (.int (nI (cellKindM μ t j)))) μ) : Mt kX5_cellKind [.ref 44, .int (nI t), .int (nI j)] μ Q := by
  obtain ⟨⟨ek, lk⟩, es, ls⟩ := hw.2.1 _ ht
  have hin := cell_in ht (Nat.lt_of_lt_of_le hj ls)
  obtain ⟨ew, lw, lw2⟩ := hw.2.2 t ht (by omega) j hj
  have lw3 := lw2 (by omega)
  refine Mt.enter rfl (Nat.le_of_ble_eq_true rfl) ?_
  refine X.aload_n dX5_cellKind_0 rfl ?_
  refine X.getR (b := 45) (kf := 0) dX5_cellKind_1 (hM.1 44 (by decide) (by decide)) (by decide) (by decide) rfl wf_X5_7 (hM.2 0 (by decide)) ?_
  refine X.iload_n dX5_cellKind_4 rfl ?_
  refine X.iald dX5_cellKind_5 (hM.1 45 (by decide) (by decide)) (rfl) (ht) (by decide) ?_
  refine X.istore_n dX5_cellKind_6 (Nat.le_of_ble_eq_true rfl) ?_
  refine X.aload_n dX5_cellKind_7 rfl ?_
  refine X.getR (b := 48) (kf := 3) dX5_cellKind_8 (hM.1 44 (by decide) (by decide)) (by decide) (by decide) rfl wf_X5_20 (hM.2 3 (by decide)) ?_
  refine X.bipush (v := 32) dX5_cellKind_11 (by decide) ?_
  refine X.iload_n dX5_cellKind_13 rfl ?_
  refine X.imul dX5_cellKind_14 ?_
  refine X.iload_n dX5_cellKind_15 rfl ?_
  refine X.iadd dX5_cellKind_16 ?_
  refine X.lald dX5_cellKind_17 (hM.1 48 (by decide) (by decide)) (at_eq2 t j) (hin) (by decide) ?_
  refine X.lstore dX5_cellKind_18 (Nat.le_of_ble_eq_true rfl) ?_
  refine X.iload_n dX5_cellKind_20 rfl ?_
  refine X.bipush (v := 8) dX5_cellKind_21 (by decide) ?_
  refine X.icmp_ge_t (tgt := 28) dX5_cellKind_23 (by decide) ((by rw [ek]; exact nI_le (a := 8) (b := kd μ t) (by omega) (by omega))) ?_
  refine X.lload dX5_cellKind_28 rfl ?_
  refine X.lconst (v := 0) dX5_cellKind_30 (by decide) ?_
  refine X.lcmp dX5_cellKind_31 ?_
  refine X.if_ne_t (tgt := 40) dX5_cellKind_32 (by decide) (lgc_ne hv) ?_
  refine X.iload_n dX5_cellKind_40 rfl ?_
  refine X.bipush (v := 10) dX5_cellKind_41 (by decide) ?_
  refine X.icmp_ne_t (tgt := 51) dX5_cellKind_43 (by decide) ((by rw [ek]; exact nI_neq h10 (by omega) (by decide))) ?_
  refine X.aload_n dX5_cellKind_51 rfl ?_
  refine X.getR (b := 49) (kf := 5) dX5_cellKind_52 (hM.1 44 (by decide) (by decide)) (by decide) (by decide) rfl wf_X5_24 (hM.2 5 (by decide)) ?_
  refine X.lload dX5_cellKind_55 rfl ?_
  refine X.l2i dX5_cellKind_57 ?_
  refine X.zald dX5_cellKind_58 (hM.1 49 (by decide) (by decide)) (by rw [show mJ μ 48 (32 * t + j) = lN (lx (cv μ t j)) from ew]; exact lN_i _) (by omega) (by decide) ?_
  refine X.if_eq (tgt := 67) dX5_cellKind_59 (by decide) (fun c59 => ?_) (fun c59 => ?_)
  · refine X.bipush (v := 8) dX5_cellKind_67 (by decide) ?_
    refine X.ret dX5_cellKind_69 ⟨trivial, ?_⟩
    unfold cellKindM at hq
    rw [if_neg h8, if_neg hv, if_neg h10] at hq
    first
      | (rw [if_pos c59] at hq; exact hq)
      | (rw [if_neg c59] at hq; exact hq)
  · refine X.bipush (v := 9) dX5_cellKind_62 (by decide) ?_
    refine X.goto (tgt := 69) dX5_cellKind_64 (by decide) ?_
    refine X.ret dX5_cellKind_69 ⟨trivial, ?_⟩
    unfold cellKindM at hq
    rw [if_neg h8, if_neg hv, if_neg h10] at hq
    first
      | (rw [if_pos c59] at hq; exact hq)
      | (rw [if_neg c59] at hq; exact hq)
theorem m_cellKind {t j : Nat} {μ : xM} {Q : Option Value → xM → Prop} (hM : ShM μ) (hw : WFt μ) (ht : t < 560) (hj : j < sz μ t) (hq : Q (some (.int (nI (cellKindM μ t j)))) μ) : Mt kX5_cellKind [.ref 44, .int (nI t), .int (nI j)] μ Q := by
  by_cases h8 : kd μ t < 8
  · exact m_cellKind1 hM hw ht hj h8 hq
  · by_cases hv : cv μ t j = 0
    · exact m_cellKind2 hM hw ht hj h8 hv hq
    · by_cases h10 : kd μ t = 10
      · exact m_cellKind3 hM hw ht hj h8 hv h10 hq
      · exact m_cellKind4 hM hw ht hj h8 hv h10 hq
set_option maxRecDepth 100000 in
set_option maxHeartbeats 4000000 in
theorem m_numberOf1 {t j : Nat} {μ : xM} {Q : Option Value → xM → Prop} (hM : ShM μ) (hw : WFt μ) (ht : t < 560) (hj : j < sz μ t) (h10 : ¬ kd μ t = 10) (hq : Q (some (.long (numM μ t j))) μ) : Mt kX5_numberOf [.ref 44, .int (nI t), .int (nI j)] μ Q := by
  obtain ⟨⟨ek, lk⟩, es, ls⟩ := hw.2.1 _ ht
  have hin := cell_in ht (Nat.lt_of_lt_of_le hj ls)
  refine Mt.enter rfl (Nat.le_of_ble_eq_true rfl) ?_
  refine X.aload_n dX5_numberOf_0 rfl ?_
  refine X.getR (b := 48) (kf := 3) dX5_numberOf_1 (hM.1 44 (by decide) (by decide)) (by decide) (by decide) rfl wf_X5_20 (hM.2 3 (by decide)) ?_
  refine X.bipush (v := 32) dX5_numberOf_4 (by decide) ?_
  refine X.iload_n dX5_numberOf_6 rfl ?_
  refine X.imul dX5_numberOf_7 ?_
  refine X.iload_n dX5_numberOf_8 rfl ?_
  refine X.iadd dX5_numberOf_9 ?_
  refine X.lald dX5_numberOf_10 (hM.1 48 (by decide) (by decide)) (at_eq2 t j) (hin) (by decide) ?_
  refine X.lstore_n dX5_numberOf_11 (Nat.le_of_ble_eq_true rfl) ?_
  refine X.aload_n dX5_numberOf_12 rfl ?_
  refine X.getR (b := 45) (kf := 0) dX5_numberOf_13 (hM.1 44 (by decide) (by decide)) (by decide) (by decide) rfl wf_X5_7 (hM.2 0 (by decide)) ?_
  refine X.iload_n dX5_numberOf_16 rfl ?_
  refine X.iald dX5_numberOf_17 (hM.1 45 (by decide) (by decide)) (rfl) (ht) (by decide) ?_
  refine X.bipush (v := 10) dX5_numberOf_18 (by decide) ?_
  refine X.icmp_ne_t (tgt := 42) dX5_numberOf_20 (by decide) ((by rw [ek]; exact nI_neq h10 (by omega) (by decide))) ?_
  refine X.lload_n dX5_numberOf_42 rfl ?_
  refine X.ret dX5_numberOf_43 ⟨trivial, ?_⟩
  unfold numM at hq
  rw [if_neg h10] at hq
  exact hq
set_option maxRecDepth 100000 in
set_option maxHeartbeats 4000000 in
theorem m_numberOf2 {t j : Nat} {μ : xM} {Q : Option Value → xM → Prop} (hM : ShM μ) (hw : WFt μ) (ht : t < 560) (hj : j < sz μ t) (h10 : kd μ t = 10) (hv : ¬ 0 < cv μ t j) (hq : Q (some (.long (numM μ t j))) μ) : Mt kX5_numberOf [.ref 44, .int (nI t), .int (nI j)] μ Q := by
  obtain ⟨⟨ek, lk⟩, es, ls⟩ := hw.2.1 _ ht
  have hin := cell_in ht (Nat.lt_of_lt_of_le hj ls)
  refine Mt.enter rfl (Nat.le_of_ble_eq_true rfl) ?_
  refine X.aload_n dX5_numberOf_0 rfl ?_
  refine X.getR (b := 48) (kf := 3) dX5_numberOf_1 (hM.1 44 (by decide) (by decide)) (by decide) (by decide) rfl wf_X5_20 (hM.2 3 (by decide)) ?_
  refine X.bipush (v := 32) dX5_numberOf_4 (by decide) ?_
  refine X.iload_n dX5_numberOf_6 rfl ?_
  refine X.imul dX5_numberOf_7 ?_
  refine X.iload_n dX5_numberOf_8 rfl ?_
  refine X.iadd dX5_numberOf_9 ?_
  refine X.lald dX5_numberOf_10 (hM.1 48 (by decide) (by decide)) (at_eq2 t j) (hin) (by decide) ?_
  refine X.lstore_n dX5_numberOf_11 (Nat.le_of_ble_eq_true rfl) ?_
  refine X.aload_n dX5_numberOf_12 rfl ?_
  refine X.getR (b := 45) (kf := 0) dX5_numberOf_13 (hM.1 44 (by decide) (by decide)) (by decide) (by decide) rfl wf_X5_7 (hM.2 0 (by decide)) ?_
  refine X.iload_n dX5_numberOf_16 rfl ?_
  refine X.iald dX5_numberOf_17 (hM.1 45 (by decide) (by decide)) (rfl) (ht) (by decide) ?_
  refine X.bipush (v := 10) dX5_numberOf_18 (by decide) ?_
  refine X.icmp_ne_f (tgt := 42) dX5_numberOf_20 (by decide) ((by rw [ek, h10]; rfl)) ?_
  refine X.lload_n dX5_numberOf_23 rfl ?_
  refine X.lconst (v := 0) dX5_numberOf_24 (by decide) ?_
  refine X.lcmp dX5_numberOf_25 ?_
  refine X.if_le_t (tgt := 42) dX5_numberOf_26 (by decide) (lgc_ngt hv) ?_
  refine X.lload_n dX5_numberOf_42 rfl ?_
  refine X.ret dX5_numberOf_43 ⟨trivial, ?_⟩
  unfold numM at hq
  rw [if_pos h10, if_neg hv] at hq
  exact hq
set_option maxRecDepth 100000 in
set_option maxHeartbeats 4000000 in
theorem m_numberOf3 {t j : Nat} {μ : xM} {Q : Option Value → xM → Prop} (hM : ShM μ) (hw : WFt μ) (ht : t < 560) (hj : j < sz μ t) (h10 : kd μ t = 10) (hv : 0 < cv μ t j) (hq : Q (some (.long (numM μ t j))) μ) : Mt kX5_numberOf [.ref 44, .int (nI t), .int (nI j)] μ Q := by
  obtain ⟨⟨ek, lk⟩, es, ls⟩ := hw.2.1 _ ht
  have hin := cell_in ht (Nat.lt_of_lt_of_le hj ls)
  obtain ⟨ew, lw, lw2⟩ := hw.2.2 t ht (by omega) j hj
  have hp : lx (cv μ t j) ≠ 0 := fun e => by rw [ew, e] at hv; exact absurd hv (by decide)
  have e9 : (mJ μ 48 (32 * t + j)).toInt32 - 1 = nI (lx (cv μ t j) - 1) := by
    rw [show mJ μ 48 (32 * t + j) = lN (lx (cv μ t j)) from ew, lN_i]
    exact pk_sub (a := lx (cv μ t j)) (b := 1) (by omega)
  refine Mt.enter rfl (Nat.le_of_ble_eq_true rfl) ?_
  refine X.aload_n dX5_numberOf_0 rfl ?_
  refine X.getR (b := 48) (kf := 3) dX5_numberOf_1 (hM.1 44 (by decide) (by decide)) (by decide) (by decide) rfl wf_X5_20 (hM.2 3 (by decide)) ?_
  refine X.bipush (v := 32) dX5_numberOf_4 (by decide) ?_
  refine X.iload_n dX5_numberOf_6 rfl ?_
  refine X.imul dX5_numberOf_7 ?_
  refine X.iload_n dX5_numberOf_8 rfl ?_
  refine X.iadd dX5_numberOf_9 ?_
  refine X.lald dX5_numberOf_10 (hM.1 48 (by decide) (by decide)) (at_eq2 t j) (hin) (by decide) ?_
  refine X.lstore_n dX5_numberOf_11 (Nat.le_of_ble_eq_true rfl) ?_
  refine X.aload_n dX5_numberOf_12 rfl ?_
  refine X.getR (b := 45) (kf := 0) dX5_numberOf_13 (hM.1 44 (by decide) (by decide)) (by decide) (by decide) rfl wf_X5_7 (hM.2 0 (by decide)) ?_
  refine X.iload_n dX5_numberOf_16 rfl ?_
  refine X.iald dX5_numberOf_17 (hM.1 45 (by decide) (by decide)) (rfl) (ht) (by decide) ?_
  refine X.bipush (v := 10) dX5_numberOf_18 (by decide) ?_
  refine X.icmp_ne_f (tgt := 42) dX5_numberOf_20 (by decide) ((by rw [ek, h10]; rfl)) ?_
  refine X.lload_n dX5_numberOf_23 rfl ?_
  refine X.lconst (v := 0) dX5_numberOf_24 (by decide) ?_
  refine X.lcmp dX5_numberOf_25 ?_
  refine X.if_le_f (tgt := 42) dX5_numberOf_26 (by decide) (lgc_gt hv) ?_
  refine X.aload_n dX5_numberOf_29 rfl ?_
  refine X.getR (b := 46) (kf := 1) dX5_numberOf_30 (hM.1 44 (by decide) (by decide)) (by decide) (by decide) rfl wf_X5_13 (hM.2 1 (by decide)) ?_
  refine X.lload_n dX5_numberOf_33 rfl ?_
  refine X.l2i dX5_numberOf_34 ?_
  refine X.iconst (v := 1) dX5_numberOf_35 (by decide) ?_
  refine X.isub dX5_numberOf_36 ?_
  refine X.iald dX5_numberOf_37 (hM.1 46 (by decide) (by decide)) (e9) (by omega) (by decide) ?_
  refine X.i2l dX5_numberOf_38 ?_
  refine X.goto (tgt := 43) dX5_numberOf_39 (by decide) ?_
  refine X.ret dX5_numberOf_43 ⟨trivial, ?_⟩
  unfold numM at hq
  rw [if_pos h10, if_pos hv] at hq
  exact hq
theorem m_numberOf {t j : Nat} {μ : xM} {Q : Option Value → xM → Prop} (hM : ShM μ) (hw : WFt μ) (ht : t < 560) (hj : j < sz μ t) (hq : Q (some (.long (numM μ t j))) μ) : Mt kX5_numberOf [.ref 44, .int (nI t), .int (nI j)] μ Q := by
  by_cases h10 : kd μ t = 10
  · by_cases hv : 0 < cv μ t j
    · exact m_numberOf3 hM hw ht hj h10 hv hq
    · exact m_numberOf2 hM hw ht hj h10 hv hq
  · exact m_numberOf1 hM hw ht hj h10 hq
theorem m_nearest6 {v : Int64} {μ : xM} {Q : Option Value → xM → Prop} (hq : Q (some (.long (fitM 6 v))) μ) : Mt kX5_nearest [.long v, .int 24] μ Q := m_nearest (p := 24) (by decide) (by decide) (by rw [← fit6_nr]; exact hq)
theorem m_nearest7 {v : Int64} {μ : xM} {Q : Option Value → xM → Prop} (hq : Q (some (.long (fitM 7 v))) μ) : Mt kX5_nearest [.long v, .int 53] μ Q := m_nearest (p := 53) (by decide) (by decide) (by rw [← fit7_nr]; exact hq)
set_option maxRecDepth 100000 in
set_option maxHeartbeats 4000000 in
theorem m_made0 {v : Int64} {μ : xM} {Q : Option Value → xM → Prop} (hq : Q (some (.long (fitM 0 v))) μ) : Mt kX5_made [.int (nI 0), .long v] μ Q := by
  refine Mt.enter rfl (Nat.le_of_ble_eq_true rfl) ?_
  refine X.iload_n dX5_made_0 rfl ?_
  refine X.tabIn (tgt := 44) dX5_made_1 (by decide) (by decide) (rfl) (by decide) ?_
  refine X.lload_n dX5_made_44 rfl ?_
  refine X.lconst (v := 0) dX5_made_45 (by decide) ?_
  refine X.lcmp dX5_made_46 ?_
  refine X.if_eq (tgt := 54) dX5_made_47 (by decide) (fun c47 => ?_) (fun c47 => ?_)
  · refine X.lconst (v := 0) dX5_made_54 (by decide) ?_
    refine X.ret dX5_made_55 ⟨trivial, ?_⟩
    unfold fitM at hq
    first
      | (rw [if_pos (Decidable.byContradiction (fun e => lgc_ne e c47))] at hq; exact hq)
      | (rw [if_neg (fun e => c47 (lgc_eq e))] at hq; exact hq)
  · refine X.lconst (v := 1) dX5_made_50 (by decide) ?_
    refine X.goto (tgt := 55) dX5_made_51 (by decide) ?_
    refine X.ret dX5_made_55 ⟨trivial, ?_⟩
    unfold fitM at hq
    first
      | (rw [if_pos (Decidable.byContradiction (fun e => lgc_ne e c47))] at hq; exact hq)
      | (rw [if_neg (fun e => c47 (lgc_eq e))] at hq; exact hq)
set_option maxRecDepth 100000 in
set_option maxHeartbeats 4000000 in
theorem m_made1 {v : Int64} {μ : xM} {Q : Option Value → xM → Prop} (hq : Q (some (.long (fitM 1 v))) μ) : Mt kX5_made [.int (nI 1), .long v] μ Q := by
  refine Mt.enter rfl (Nat.le_of_ble_eq_true rfl) ?_
  refine X.iload_n dX5_made_0 rfl ?_
  refine X.tabIn (tgt := 56) dX5_made_1 (by decide) (by decide) (rfl) (by decide) ?_
  refine X.lload_n dX5_made_56 rfl ?_
  refine X.l2i dX5_made_57 ?_
  refine X.i2b dX5_made_58 ?_
  refine X.i2l dX5_made_59 ?_
  refine X.ret dX5_made_60 ⟨trivial, ?_⟩
  exact hq
set_option maxRecDepth 100000 in
set_option maxHeartbeats 4000000 in
theorem m_made2 {v : Int64} {μ : xM} {Q : Option Value → xM → Prop} (hq : Q (some (.long (fitM 2 v))) μ) : Mt kX5_made [.int (nI 2), .long v] μ Q := by
  refine Mt.enter rfl (Nat.le_of_ble_eq_true rfl) ?_
  refine X.iload_n dX5_made_0 rfl ?_
  refine X.tabIn (tgt := 61) dX5_made_1 (by decide) (by decide) (rfl) (by decide) ?_
  refine X.lload_n dX5_made_61 rfl ?_
  refine X.l2i dX5_made_62 ?_
  refine X.i2s dX5_made_63 ?_
  refine X.i2l dX5_made_64 ?_
  refine X.ret dX5_made_65 ⟨trivial, ?_⟩
  exact hq
set_option maxRecDepth 100000 in
set_option maxHeartbeats 4000000 in
theorem m_made3 {v : Int64} {μ : xM} {Q : Option Value → xM → Prop} (hq : Q (some (.long (fitM 3 v))) μ) : Mt kX5_made [.int (nI 3), .long v] μ Q := by
  refine Mt.enter rfl (Nat.le_of_ble_eq_true rfl) ?_
  refine X.iload_n dX5_made_0 rfl ?_
  refine X.tabIn (tgt := 66) dX5_made_1 (by decide) (by decide) (rfl) (by decide) ?_
  refine X.lload_n dX5_made_66 rfl ?_
  refine X.ldc2 dX5_made_67 wk_X5_92 ?_
  refine X.land dX5_made_70 ?_
  refine X.ret dX5_made_71 ⟨trivial, ?_⟩
  exact hq
set_option maxRecDepth 100000 in
set_option maxHeartbeats 4000000 in
theorem m_made4 {v : Int64} {μ : xM} {Q : Option Value → xM → Prop} (hq : Q (some (.long (fitM 4 v))) μ) : Mt kX5_made [.int (nI 4), .long v] μ Q := by
  refine Mt.enter rfl (Nat.le_of_ble_eq_true rfl) ?_
  refine X.iload_n dX5_made_0 rfl ?_
  refine X.tabIn (tgt := 72) dX5_made_1 (by decide) (by decide) (rfl) (by decide) ?_
  refine X.lload_n dX5_made_72 rfl ?_
  refine X.l2i dX5_made_73 ?_
  refine X.i2l dX5_made_74 ?_
  refine X.ret dX5_made_75 ⟨trivial, ?_⟩
  exact hq
set_option maxRecDepth 100000 in
set_option maxHeartbeats 4000000 in
theorem m_made5 {v : Int64} {μ : xM} {Q : Option Value → xM → Prop} (hq : Q (some (.long (fitM 5 v))) μ) : Mt kX5_made [.int (nI 5), .long v] μ Q := by
  refine Mt.enter rfl (Nat.le_of_ble_eq_true rfl) ?_
  refine X.iload_n dX5_made_0 rfl ?_
  refine X.tabIn (tgt := 76) dX5_made_1 (by decide) (by decide) (rfl) (by decide) ?_
  refine X.lload_n dX5_made_76 rfl ?_
  refine X.ret dX5_made_77 ⟨trivial, ?_⟩
  exact hq
set_option maxRecDepth 100000 in
set_option maxHeartbeats 4000000 in
theorem m_made6 {v : Int64} {μ : xM} {Q : Option Value → xM → Prop} (hq : Q (some (.long (fitM 6 v))) μ) : Mt kX5_made [.int (nI 6), .long v] μ Q := by
  refine Mt.enter rfl (Nat.le_of_ble_eq_true rfl) ?_
  refine X.iload_n dX5_made_0 rfl ?_
  refine X.tabIn (tgt := 78) dX5_made_1 (by decide) (by decide) (rfl) (by decide) ?_
  refine X.lload_n dX5_made_78 rfl ?_
  refine X.bipush (v := 24) dX5_made_79 (by decide) ?_
  refine X.cS2l (k' := kX5_nearest) dX5_made_81 v_X5_nearest wm_X5_94 wt_X5_nearest ⟨Nat.le_of_ble_eq_true rfl, Nat.le_of_ble_eq_true rfl⟩ n_X5_nearest (Nat.le_of_ble_eq_true rfl) ?_
  refine m_nearest6 ?_
  refine ⟨_, rfl, ?_⟩
  refine X.ret dX5_made_84 ⟨trivial, ?_⟩
  exact hq
set_option maxRecDepth 100000 in
set_option maxHeartbeats 4000000 in
theorem m_made7 {v : Int64} {μ : xM} {Q : Option Value → xM → Prop} (hq : Q (some (.long (fitM 7 v))) μ) : Mt kX5_made [.int (nI 7), .long v] μ Q := by
  refine Mt.enter rfl (Nat.le_of_ble_eq_true rfl) ?_
  refine X.iload_n dX5_made_0 rfl ?_
  refine X.tabOut (tgt := 85) dX5_made_1 (Or.inr (by decide)) (by decide) ?_
  refine X.lload_n dX5_made_85 rfl ?_
  refine X.bipush (v := 53) dX5_made_86 (by decide) ?_
  refine X.cS2l (k' := kX5_nearest) dX5_made_88 v_X5_nearest wm_X5_94 wt_X5_nearest ⟨Nat.le_of_ble_eq_true rfl, Nat.le_of_ble_eq_true rfl⟩ n_X5_nearest (Nat.le_of_ble_eq_true rfl) ?_
  refine m_nearest7 ?_
  refine ⟨_, rfl, ?_⟩
  refine X.ret dX5_made_91 ⟨trivial, ?_⟩
  exact hq
theorem m_made {k : Nat} {v : Int64} {μ : xM} {Q : Option Value → xM → Prop} (hk : k < 8) (hq : Q (some (.long (fitM k v))) μ) : Mt kX5_made [.int (nI k), .long v] μ Q := by
  match k, hk with
  | 0, _ => exact m_made0 hq
  | 1, _ => exact m_made1 hq
  | 2, _ => exact m_made2 hq
  | 3, _ => exact m_made3 hq
  | 4, _ => exact m_made4 hq
  | 5, _ => exact m_made5 hq
  | 6, _ => exact m_made6 hq
  | 7, _ => exact m_made7 hq
set_option maxRecDepth 100000 in
set_option maxHeartbeats 4000000 in
theorem m_kept {k : Nat} {v : Int64} {μ : xM} {Q : Option Value → xM → Prop} (hk : k ≤ 10) (hq : Q (some (.long (fitM k v))) μ) : Mt kX5_kept [.int (nI k), .long v] μ Q := by
  by_cases h8 : k < 8
  · refine Mt.enter rfl (Nat.le_of_ble_eq_true rfl) ?_
    refine X.iload_n dX5_kept_0 rfl ?_
    refine X.bipush (v := 8) dX5_kept_1 (by decide) ?_
    refine X.icmp_ge_f (tgt := 14) dX5_kept_3 (by decide) (nI_ge (a := k) (b := 8) h8 (by decide)) ?_
    refine X.iload_n dX5_kept_6 rfl ?_
    refine X.lload_n dX5_kept_7 rfl ?_
    refine X.cS2l (k' := kX5_made) dX5_kept_8 v_X5_made wm_X5_98 wt_X5_made ⟨Nat.le_of_ble_eq_true rfl, Nat.le_of_ble_eq_true rfl⟩ n_X5_made (Nat.le_of_ble_eq_true rfl) ?_
    refine m_made h8 ?_
    refine ⟨_, rfl, ?_⟩
    refine X.goto (tgt := 15) dX5_kept_11 (by decide) ?_
    refine X.ret dX5_kept_15 ⟨trivial, ?_⟩
    exact hq
  · refine Mt.enter rfl (Nat.le_of_ble_eq_true rfl) ?_
    refine X.iload_n dX5_kept_0 rfl ?_
    refine X.bipush (v := 8) dX5_kept_1 (by decide) ?_
    refine X.icmp_ge_t (tgt := 14) dX5_kept_3 (by decide) (nI_le (a := 8) (b := k) (by omega) (by omega)) ?_
    refine X.lload_n dX5_kept_14 rfl ?_
    refine X.ret dX5_kept_15 ⟨trivial, ?_⟩
    rw [fit_id (by omega)] at hq
    exact hq
set_option maxRecDepth 100000 in
set_option maxHeartbeats 4000000 in
theorem m_noTake {k o : Nat} {μ : xM} {Q : Option Value → xM → Prop} (hk : k ≤ 10) (ho : o ≤ 12) (hq : Q (some (.int (nI (noTakeM k o)))) μ) : Mt kX5_noTake [.int (nI k), .int (nI o)] μ Q := by
  by_cases ht : takesM k o = true
  · refine Mt.enter rfl (Nat.le_of_ble_eq_true rfl) ?_
    refine X.iload_n dX5_noTake_0 rfl ?_
    refine X.iload_n dX5_noTake_1 rfl ?_
    refine X.cS2i (k' := kX5_takes) dX5_noTake_2 v_X5_takes wm_X5_106 wt_X5_takes ⟨Nat.le_of_ble_eq_true rfl, Nat.le_of_ble_eq_true rfl⟩ n_X5_takes (Nat.le_of_ble_eq_true rfl) ?_
    refine m_takes hk ho ?_
    refine ⟨_, rfl, ?_⟩
    refine X.if_eq_f (tgt := 12) dX5_noTake_5 (by decide) ((by rw [ht]; decide)) ?_
    refine X.iconst (v := 0) dX5_noTake_8 (by decide) ?_
    refine X.goto (tgt := 13) dX5_noTake_9 (by decide) ?_
    refine X.ret dX5_noTake_13 ⟨trivial, ?_⟩
    unfold noTakeM at hq
    rw [if_pos ht] at hq
    exact hq
  · refine Mt.enter rfl (Nat.le_of_ble_eq_true rfl) ?_
    refine X.iload_n dX5_noTake_0 rfl ?_
    refine X.iload_n dX5_noTake_1 rfl ?_
    refine X.cS2i (k' := kX5_takes) dX5_noTake_2 v_X5_takes wm_X5_106 wt_X5_takes ⟨Nat.le_of_ble_eq_true rfl, Nat.le_of_ble_eq_true rfl⟩ n_X5_takes (Nat.le_of_ble_eq_true rfl) ?_
    refine m_takes hk ho ?_
    refine ⟨_, rfl, ?_⟩
    refine X.if_eq_t (tgt := 12) dX5_noTake_5 (by decide) ((by rw [if_neg ht])) ?_
    refine X.iconst (v := 2) dX5_noTake_12 (by decide) ?_
    refine X.ret dX5_noTake_13 ⟨trivial, ?_⟩
    unfold noTakeM at hq
    rw [if_neg ht] at hq
    exact hq
