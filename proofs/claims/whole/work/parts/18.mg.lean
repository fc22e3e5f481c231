/-! the reference: what is written keeps the tapes well; swaps, carries (laid by wip/whole/mkmodel7.py) -/
theorem lx_0 : lx 0 = 0 := by decide
theorem cv_sJ {μ : xM} {t j t' j' : Nat} {v : Int64} (hj : j < 32) (hj' : j' < 32) : cv (sJ μ 48 (32 * t + j) v) t' j' = if t' = t ∧ j' = j then v else cv μ t' j' := by
  show (if (48 : Nat) = 48 ∧ 32 * t' + j' = 32 * t + j then v else mJ μ 48 (32 * t' + j')) = _
  by_cases h : t' = t ∧ j' = j
  · rw [if_pos h, if_pos ⟨rfl, by omega⟩]
  · rw [if_neg h, if_neg (by omega)]
    rfl
theorem WFt.sJ {μ : xM} (hw : WFt μ) {t j : Nat} {v : Int64} (ht : t < 560) (hj : j < sz μ t) (hv : 8 ≤ kd μ t → v = lN (lx v) ∧ lx v ≤ 560 ∧ (kd μ t < 10 → lx v ≤ 200)) : WFt (sJ μ 48 (32 * t + j) v) := by
  refine ⟨hw.1, hw.2.1, fun t' ht' h8 j' hj' => ?_⟩
  have l1 := (hw.2.1 t ht).2.2
  have l2 := (hw.2.1 t' ht').2.2
  have hj2 : j' < sz μ t' := hj'
  have h82 : 8 ≤ kd μ t' := h8
  rw [cv_sJ (by omega) (by omega)]
  by_cases h : t' = t ∧ j' = j
  · rw [if_pos h]
    obtain ⟨e1, e2⟩ := h
    subst e1
    exact hv h82
  · rw [if_neg h]
    exact hw.2.2 t' ht' h82 j' hj2
/-- a cell's value stands well for its kind -/
def cellOK (K : Nat) (v : Int64) : Prop := 8 ≤ K → v = lN (lx v) ∧ lx v ≤ 560 ∧ (K < 10 → lx v ≤ 200) ∧ (K = 11 → v = 0)
theorem read_ok {μ : xM} (hw : WFt μ) {t j : Nat} (ht : t < 560) (hj : j < sz μ t) : cellOK (cellKindM μ t j) (cv μ t j) := by
  intro hK
  unfold cellKindM at hK ⊢
  by_cases h8 : kd μ t < 8
  · rw [if_pos h8] at hK; omega
  · obtain ⟨ew, lw, lw2⟩ := hw.2.2 t ht (by omega) j hj
    have lk := (hw.2.1 t ht).1.2
    rw [if_neg h8]
    refine ⟨ew, lw, fun h => ?_, fun h => ?_⟩
    · by_cases hv : cv μ t j = 0
      · rw [hv, lx_0]; omega
      · rw [if_neg hv] at h
        by_cases h10 : kd μ t = 10
        · rw [if_pos h10] at h; omega
        · exact lw2 (by omega)
    · by_cases hv : cv μ t j = 0
      · exact hv
      · rw [if_neg hv] at h
        by_cases h10 : kd μ t = 10
        · rw [if_pos h10] at h; omega
        · rw [if_neg h10] at h
          split at h <;> omega
theorem takes_8 {k o : Nat} (h8 : 8 ≤ k) (h : takesM k o = true) : o = 11 ∨ o = k ∨ (k = 8 ∧ o = 9) := by
  unfold takesM at h
  rw [if_pos (by omega)] at h
  simp only [Bool.or_eq_true, beq_iff_eq, Bool.and_eq_true] at h
  omega
theorem write_ok {k K : Nat} {v : Int64} (h : takesM k K = true) (hv : cellOK K v) (h8 : 8 ≤ k) : fitM k v = lN (lx (fitM k v)) ∧ lx (fitM k v) ≤ 560 ∧ (k < 10 → lx (fitM k v) ≤ 200) := by
  rw [fit_id h8]
  rcases takes_8 h8 h with e | e | ⟨e1, e2⟩
  · obtain ⟨h1, h2, h3, h4⟩ := hv (by omega)
    have e0 := h4 e
    refine ⟨h1, h2, fun _ => ?_⟩
    rw [e0, lx_0]; omega
  · obtain ⟨h1, h2, h3, h4⟩ := hv (by omega)
    exact ⟨h1, h2, fun q => h3 (by omega)⟩
  · obtain ⟨h1, h2, h3, h4⟩ := hv (by omega)
    exact ⟨h1, h2, fun q => h3 (by omega)⟩
theorem WFt.writes {μ : xM} (hw : WFt μ) {c K : Nat} {i : Int32} {v : Int64} (hc : c < 16) (hv : cellOK K v) : WFt (writesM μ c i K v) := by
  unfold writesM
  by_cases hz : noWriteM μ c i K = 0
  · rw [if_pos hz]
    obtain ⟨hp, htk⟩ := noWrite_0 hz
    obtain ⟨h0, hr, ei, hi⟩ := noPlace_0 hp
    obtain ⟨ht, et⟩ := hw.1 c hc h0
    exact hw.sJ ht hi (write_ok htk hv)
  · rw [if_neg hz]; exact hw
theorem WFt.pass {μ : xM} (hw : WFt μ) {c d : Nat} {i j : Int32} (hc : c < 16) (hd : d < 16) : WFt (passM μ c i d j) := by
  unfold passM
  by_cases hz : noPlaceM μ c i = 0
  · rw [if_pos hz]
    obtain ⟨h0, hr, ei, hi⟩ := noPlace_0 hz
    obtain ⟨ht, et⟩ := hw.1 c hc h0
    exact hw.writes hd (read_ok hw ht hi)
  · rw [if_neg hz]; exact hw
theorem sJ_form (μ : xM) (a : Nat) (v : Int64) : ∃ w, sJ μ 48 a v = sB μ w := by
  refine ⟨fun j => if j = a then v else mJ μ 48 j, ?_⟩
  show (mT μ, mI μ, up2 (mJ μ) 48 a v, mR μ, mN μ, mS μ) = (mT μ, mI μ, (fun b j => if b = 48 then (if j = a then v else mJ μ 48 j) else mJ μ b j), mR μ, mN μ, mS μ)
  congr 3
  funext b j
  show (if b = 48 ∧ j = a then v else mJ μ b j) = (if b = 48 then (if j = a then v else mJ μ 48 j) else mJ μ b j)
  by_cases h : b = 48
  · rw [if_pos h]
    by_cases h2 : j = a
    · rw [if_pos ⟨h, h2⟩, if_pos h2]
    · rw [if_neg (fun q => h2 q.2), if_neg h2, h]
  · rw [if_neg (fun q => h q.1), if_neg h]
theorem sB_self (μ : xM) : ∃ w, μ = sB μ w := by
  refine ⟨mJ μ 48, ?_⟩
  show μ = (mT μ, mI μ, (fun b j => if b = 48 then mJ μ 48 j else mJ μ b j), mR μ, mN μ, mS μ)
  have e : (fun b j => if b = 48 then mJ μ 48 j else mJ μ b j) = mJ μ := by
    funext b j
    by_cases h : b = 48
    · rw [if_pos h, h]
    · rw [if_neg h]
  rw [e]
  rfl
theorem sB_sB (μ : xM) (w w' : Nat → Int64) : sB (sB μ w) w' = sB μ w' := by
  show (mT μ, mI μ, (fun b j => if b = 48 then w' j else (if b = 48 then w j else mJ μ b j)), mR μ, mN μ, mS μ) = (mT μ, mI μ, (fun b j => if b = 48 then w' j else mJ μ b j), mR μ, mN μ, mS μ)
  congr 3
  funext b j
  by_cases h : b = 48
  · rw [if_pos h, if_pos h]
  · rw [if_neg h, if_neg h, if_neg h]
theorem writes_form (μ : xM) (c : Nat) (i : Int32) (K : Nat) (v : Int64) : ∃ w, writesM μ c i K v = sB μ w := by
  unfold writesM
  split
  · exact sJ_form _ _ _
  · exact sB_self μ
theorem pass_form (μ : xM) (c : Nat) (i : Int32) (d : Nat) (j : Int32) : ∃ w, passM μ c i d j = sB μ w := by
  unfold passM
  split
  · exact writes_form _ _ _ _ _
  · exact sB_self μ
def noChangeM (μ : xM) (c : Nat) (i : Int32) (d : Nat) (j : Int32) : Nat := if noPlaceM μ c i = 0 then (if noPlaceM μ d j = 0 then (if noTakeM (kd μ (tp μ d)) (cellKindM μ (tp μ c) (ix i)) = 0 then noTakeM (kd μ (tp μ c)) (cellKindM μ (tp μ d) (ix j)) else noTakeM (kd μ (tp μ d)) (cellKindM μ (tp μ c) (ix i))) else noPlaceM μ d j) else noPlaceM μ c i
def changeM (μ : xM) (c : Nat) (i : Int32) (d : Nat) (j : Int32) : xM := if noChangeM μ c i d j = 0 then sJ (sJ μ 48 (32 * tp μ d + ix j) (fitM (kd μ (tp μ d)) (cv μ (tp μ c) (ix i)))) 48 (32 * tp μ c + ix i) (fitM (kd μ (tp μ c)) (cv μ (tp μ d) (ix j))) else μ
theorem change_form (μ : xM) (c : Nat) (i : Int32) (d : Nat) (j : Int32) : ∃ w, changeM μ c i d j = sB μ w := by
  unfold changeM
  split
  · obtain ⟨w, e⟩ := sJ_form μ (32 * tp μ d + ix j) (fitM (kd μ (tp μ d)) (cv μ (tp μ c) (ix i)))
    rw [e]
    obtain ⟨w2, e2⟩ := sJ_form (sB μ w) (32 * tp μ c + ix i) (fitM (kd μ (tp μ c)) (cv μ (tp μ d) (ix j)))
    rw [e2, sB_sB]
    exact ⟨w2, rfl⟩
  · exact sB_self μ
theorem noTake_0 {k o : Nat} (h : noTakeM k o = 0) : takesM k o = true := by
  unfold noTakeM at h
  by_cases q : takesM k o = true
  · exact q
  · rw [if_neg q] at h; cases h
theorem noChange_le (μ : xM) (c : Nat) (i : Int32) (d : Nat) (j : Int32) : noChangeM μ c i d j < 6 := by
  unfold noChangeM
  split
  · split
    · split
      · exact noTake_le _ _
      · exact noTake_le _ _
    · exact noPlace_le _ _ _
  · exact noPlace_le _ _ _
theorem noChange_0 {μ : xM} {c d : Nat} {i j : Int32} (h : noChangeM μ c i d j = 0) : noPlaceM μ c i = 0 ∧ noPlaceM μ d j = 0 ∧ takesM (kd μ (tp μ d)) (cellKindM μ (tp μ c) (ix i)) = true ∧ takesM (kd μ (tp μ c)) (cellKindM μ (tp μ d) (ix j)) = true := by
  unfold noChangeM at h
  by_cases h1 : noPlaceM μ c i = 0
  · rw [if_pos h1] at h
    by_cases h2 : noPlaceM μ d j = 0
    · rw [if_pos h2] at h
      by_cases h3 : noTakeM (kd μ (tp μ d)) (cellKindM μ (tp μ c) (ix i)) = 0
      · rw [if_pos h3] at h
        exact ⟨h1, h2, noTake_0 h3, noTake_0 h⟩
      · rw [if_neg h3] at h; exact absurd h h3
    · rw [if_neg h2] at h; exact absurd h h2
  · rw [if_neg h1] at h; exact absurd h h1
theorem WFt.change {μ : xM} (hw : WFt μ) {c d : Nat} {i j : Int32} (hc : c < 16) (hd : d < 16) : WFt (changeM μ c i d j) := by
  unfold changeM
  by_cases hz : noChangeM μ c i d j = 0
  · rw [if_pos hz]
    obtain ⟨h1, h2, h3, h4⟩ := noChange_0 hz
    obtain ⟨a0, ar, ae, ai⟩ := noPlace_0 h1
    obtain ⟨b0, br, be, bi⟩ := noPlace_0 h2
    obtain ⟨ht, -⟩ := hw.1 c hc a0
    obtain ⟨hu, -⟩ := hw.1 d hd b0
    exact (hw.sJ hu bi (write_ok h3 (read_ok hw ht ai))).sJ (t := tp μ c) ht ai (write_ok h4 (read_ok hw hu bi))
  · rw [if_neg hz]; exact hw
set_option maxRecDepth 100000 in
set_option maxHeartbeats 4000000 in
theorem m_changes1 {c d : Nat} {i j : Int32} {μ : xM} {Q : Option Value → xM → Prop} (hM : ShM μ) (hw : WFt μ) (hc : c < 16) (hd : d < 16) (h1 : ¬ noPlaceM μ c i = 0) (hq : Q (some (.int (nI (noChangeM μ c i d j)))) (changeM μ c i d j)) : Mt kX5_changes [.ref 44, .int (nI c), .int i, .int (nI d), .int j] μ Q := by
  have e1 : noChangeM μ c i d j = noPlaceM μ c i := by unfold noChangeM; rw [if_neg h1]
  unfold changeM at hq
  rw [if_neg (by rw [e1]; exact h1), e1] at hq
  refine Mt.enter rfl (Nat.le_of_ble_eq_true rfl) ?_
  refine X.aload_n dX5_changes_0 rfl ?_
  refine X.iload_n dX5_changes_1 rfl ?_
  refine X.iload_n dX5_changes_2 rfl ?_
  refine X.cV2i (k' := kX5_noPlace) dX5_changes_3 (hM.1 44 (by decide) (by decide)) ⟨by decide, rfl⟩ v_X5_noPlace wm_X5_113 wi_X5_noPlace ws_X5_noPlace ⟨Nat.le_of_ble_eq_true rfl, Nat.le_of_ble_eq_true rfl⟩ n_X5_noPlace (Nat.le_of_ble_eq_true rfl) ?_
  refine m_noPlace hM hw hc ?_
  refine ⟨_, rfl, ?_⟩
  refine X.istore dX5_changes_6 (Nat.le_of_ble_eq_true rfl) ?_
  refine X.iload dX5_changes_8 rfl ?_
  refine X.if_ne_t (tgt := 22) dX5_changes_10 (by decide) (nI_neq (b := 0) h1 (by have := noPlace_le μ c i; omega) (by decide)) ?_
  refine X.iload dX5_changes_22 rfl ?_
  refine X.if_le_f (tgt := 30) dX5_changes_24 (by decide) (fun q => h1 (nI_le0 q (by have := noPlace_le μ c i; omega))) ?_
  refine X.iload dX5_changes_27 rfl ?_
  refine X.ret dX5_changes_29 ⟨trivial, ?_⟩
  exact hq
set_option maxRecDepth 100000 in
set_option maxHeartbeats 4000000 in
theorem m_changes2 {c d : Nat} {i j : Int32} {μ : xM} {Q : Option Value → xM → Prop} (hM : ShM μ) (hw : WFt μ) (hc : c < 16) (hd : d < 16) (h1 : noPlaceM μ c i = 0) (h2 : ¬ noPlaceM μ d j = 0) (hq : Q (some (.int (nI (noChangeM μ c i d j)))) (changeM μ c i d j)) : Mt kX5_changes [.ref 44, .int (nI c), .int i, .int (nI d), .int j] μ Q := by
  have e1 : noChangeM μ c i d j = noPlaceM μ d j := by unfold noChangeM; rw [if_pos h1, if_neg h2]
  unfold changeM at hq
  rw [if_neg (by rw [e1]; exact h2), e1] at hq
  refine Mt.enter rfl (Nat.le_of_ble_eq_true rfl) ?_
  refine X.aload_n dX5_changes_0 rfl ?_
  refine X.iload_n dX5_changes_1 rfl ?_
  refine X.iload_n dX5_changes_2 rfl ?_
  refine X.cV2i (k' := kX5_noPlace) dX5_changes_3 (hM.1 44 (by decide) (by decide)) ⟨by decide, rfl⟩ v_X5_noPlace wm_X5_113 wi_X5_noPlace ws_X5_noPlace ⟨Nat.le_of_ble_eq_true rfl, Nat.le_of_ble_eq_true rfl⟩ n_X5_noPlace (Nat.le_of_ble_eq_true rfl) ?_
  refine m_noPlace hM hw hc ?_
  refine ⟨_, rfl, ?_⟩
  refine X.istore dX5_changes_6 (Nat.le_of_ble_eq_true rfl) ?_
  refine X.iload dX5_changes_8 rfl ?_
  refine X.if_ne_f (tgt := 22) dX5_changes_10 (by decide) ((by rw [h1]; rfl)) ?_
  refine X.aload_n dX5_changes_13 rfl ?_
  refine X.iload_n dX5_changes_14 rfl ?_
  refine X.iload dX5_changes_15 rfl ?_
  refine X.cV2i (k' := kX5_noPlace) dX5_changes_17 (hM.1 44 (by decide) (by decide)) ⟨by decide, rfl⟩ v_X5_noPlace wm_X5_113 wi_X5_noPlace ws_X5_noPlace ⟨Nat.le_of_ble_eq_true rfl, Nat.le_of_ble_eq_true rfl⟩ n_X5_noPlace (Nat.le_of_ble_eq_true rfl) ?_
  refine m_noPlace hM hw hd ?_
  refine ⟨_, rfl, ?_⟩
  refine X.istore dX5_changes_20 (Nat.le_of_ble_eq_true rfl) ?_
  refine X.iload dX5_changes_22 rfl ?_
  refine X.if_le_f (tgt := 30) dX5_changes_24 (by decide) (fun q => h2 (nI_le0 q (by have := noPlace_le μ d j; omega))) ?_
  refine X.iload dX5_changes_27 rfl ?_
  refine X.ret dX5_changes_29 ⟨trivial, ?_⟩
  exact hq
set_option maxRecDepth 100000 in
set_option maxHeartbeats 4000000 in
theorem m_changes3 {c d : Nat} {i j : Int32} {μ : xM} {Q : Option Value → xM → Prop} (hM : ShM μ) (hw : WFt μ) (hc : c < 16) (hd : d < 16) (h1 : noPlaceM μ c i = 0) (h2 : noPlaceM μ d j = 0) (h3 : ¬ noTakeM (kd μ (tp μ d)) (cellKindM μ (tp μ c) (ix i)) = 0) (hq : Q (some (.int (nI (noChangeM μ c i d j)))) (changeM μ c i d j)) : Mt kX5_changes [.ref 44, .int (nI c), .int i, .int (nI d), .int j] μ Q := by
  obtain ⟨a0, ar, ae, ai⟩ := noPlace_0 h1
  obtain ⟨b0, br, be, bi⟩ := noPlace_0 h2
  obtain ⟨ht, et⟩ := hw.1 c hc a0
  obtain ⟨hu, eu⟩ := hw.1 d hd b0
  obtain ⟨⟨ek, lk⟩, es, ls⟩ := hw.2.1 _ ht
  obtain ⟨⟨ek2, lk2⟩, es2, ls2⟩ := hw.2.1 _ hu
  have e1 : noChangeM μ c i d j = noTakeM (kd μ (tp μ d)) (cellKindM μ (tp μ c) (ix i)) := by unfold noChangeM; rw [if_pos h1, if_pos h2, if_neg h3]
  unfold changeM at hq
  rw [if_neg (by rw [e1]; exact h3), e1] at hq
  have okc := read_ok hw ht ai
  have okd := read_ok hw hu bi
  generalize hgi : ix i = i0 at *
  generalize hgj : ix j = j0 at *
  subst ae
  subst be
  refine Mt.enter rfl (Nat.le_of_ble_eq_true rfl) ?_
  refine X.aload_n dX5_changes_0 rfl ?_
  refine X.iload_n dX5_changes_1 rfl ?_
  refine X.iload_n dX5_changes_2 rfl ?_
  refine X.cV2i (k' := kX5_noPlace) dX5_changes_3 (hM.1 44 (by decide) (by decide)) ⟨by decide, rfl⟩ v_X5_noPlace wm_X5_113 wi_X5_noPlace ws_X5_noPlace ⟨Nat.le_of_ble_eq_true rfl, Nat.le_of_ble_eq_true rfl⟩ n_X5_noPlace (Nat.le_of_ble_eq_true rfl) ?_
  refine m_noPlace hM hw hc ?_
  refine ⟨_, rfl, ?_⟩
  refine X.istore dX5_changes_6 (Nat.le_of_ble_eq_true rfl) ?_
  refine X.iload dX5_changes_8 rfl ?_
  refine X.if_ne_f (tgt := 22) dX5_changes_10 (by decide) ((by rw [h1]; rfl)) ?_
  refine X.aload_n dX5_changes_13 rfl ?_
  refine X.iload_n dX5_changes_14 rfl ?_
  refine X.iload dX5_changes_15 rfl ?_
  refine X.cV2i (k' := kX5_noPlace) dX5_changes_17 (hM.1 44 (by decide) (by decide)) ⟨by decide, rfl⟩ v_X5_noPlace wm_X5_113 wi_X5_noPlace ws_X5_noPlace ⟨Nat.le_of_ble_eq_true rfl, Nat.le_of_ble_eq_true rfl⟩ n_X5_noPlace (Nat.le_of_ble_eq_true rfl) ?_
  refine m_noPlace hM hw hd ?_
  refine ⟨_, rfl, ?_⟩
  refine X.istore dX5_changes_20 (Nat.le_of_ble_eq_true rfl) ?_
  refine X.iload dX5_changes_22 rfl ?_
  refine X.if_le_t (tgt := 30) dX5_changes_24 (by decide) ((by rw [h2]; decide)) ?_
  refine X.aload_n dX5_changes_30 rfl ?_
  refine X.aload_n dX5_changes_31 rfl ?_
  refine X.getR (b := 50) (kf := 6) dX5_changes_32 (hM.1 44 (by decide) (by decide)) (by decide) (by decide) rfl wf_X5_27 (hM.2 6 (by decide)) ?_
  refine X.iload_n dX5_changes_35 rfl ?_
  refine X.iald dX5_changes_36 (hM.1 50 (by decide) (by decide)) (rfl) (hc) (by decide) ?_
  refine X.iload_n dX5_changes_37 rfl ?_
  refine X.cV2i (k' := kX5_cellKind) dX5_changes_38 (hM.1 44 (by decide) (by decide)) ⟨by decide, rfl⟩ v_X5_cellKind wm_X5_130 wi_X5_cellKind ws_X5_cellKind ⟨Nat.le_of_ble_eq_true rfl, Nat.le_of_ble_eq_true rfl⟩ n_X5_cellKind (Nat.le_of_ble_eq_true rfl) ?_
  rw [et]
  refine m_cellKind hM hw ht ai ?_
  refine ⟨_, rfl, ?_⟩
  refine X.istore dX5_changes_41 (Nat.le_of_ble_eq_true rfl) ?_
  refine X.aload_n dX5_changes_43 rfl ?_
  refine X.aload_n dX5_changes_44 rfl ?_
  refine X.getR (b := 50) (kf := 6) dX5_changes_45 (hM.1 44 (by decide) (by decide)) (by decide) (by decide) rfl wf_X5_27 (hM.2 6 (by decide)) ?_
  refine X.iload_n dX5_changes_48 rfl ?_
  refine X.iald dX5_changes_49 (hM.1 50 (by decide) (by decide)) (rfl) (hd) (by decide) ?_
  refine X.iload dX5_changes_50 rfl ?_
  refine X.cV2i (k' := kX5_cellKind) dX5_changes_52 (hM.1 44 (by decide) (by decide)) ⟨by decide, rfl⟩ v_X5_cellKind wm_X5_130 wi_X5_cellKind ws_X5_cellKind ⟨Nat.le_of_ble_eq_true rfl, Nat.le_of_ble_eq_true rfl⟩ n_X5_cellKind (Nat.le_of_ble_eq_true rfl) ?_
  rw [eu]
  refine m_cellKind hM hw hu bi ?_
  refine ⟨_, rfl, ?_⟩
  refine X.istore dX5_changes_55 (Nat.le_of_ble_eq_true rfl) ?_
  refine X.aload_n dX5_changes_57 rfl ?_
  refine X.iload_n dX5_changes_58 rfl ?_
  refine X.cV1i (k' := kX5_kindOf) dX5_changes_59 (hM.1 44 (by decide) (by decide)) ⟨by decide, rfl⟩ v_X5_kindOf wm_X5_110 wi_X5_kindOf ws_X5_kindOf ⟨Nat.le_of_ble_eq_true rfl, Nat.le_of_ble_eq_true rfl⟩ n_X5_kindOf (Nat.le_of_ble_eq_true rfl) ?_
  refine m_kindOf hM hw hd b0 ?_
  refine ⟨_, rfl, ?_⟩
  refine X.iload dX5_changes_62 rfl ?_
  refine X.cS2i (k' := kX5_noTake) dX5_changes_64 v_X5_noTake wm_X5_117 wt_X5_noTake ⟨Nat.le_of_ble_eq_true rfl, Nat.le_of_ble_eq_true rfl⟩ n_X5_noTake (Nat.le_of_ble_eq_true rfl) ?_
  refine m_noTake lk2 (Nat.le_trans cellKind_le (by decide)) ?_
  refine ⟨_, rfl, ?_⟩
  refine X.istore dX5_changes_67 (Nat.le_of_ble_eq_true rfl) ?_
  refine X.iload dX5_changes_69 rfl ?_
  refine X.if_ne_t (tgt := 86) dX5_changes_71 (by decide) (nI_neq (b := 0) h3 (by have := noTake_le (kd μ (tp μ d)) (cellKindM μ (tp μ c) i0); omega) (by decide)) ?_
  refine X.iload dX5_changes_86 rfl ?_
  refine X.if_le_f (tgt := 94) dX5_changes_88 (by decide) (fun q => h3 (nI_le0 q (by have := noTake_le (kd μ (tp μ d)) (cellKindM μ (tp μ c) i0); omega))) ?_
  refine X.iload dX5_changes_91 rfl ?_
  refine X.ret dX5_changes_93 ⟨trivial, ?_⟩
  exact hq
set_option maxRecDepth 100000 in
set_option maxHeartbeats 4000000 in
theorem m_changes4 {c d : Nat} {i j : Int32} {μ : xM} {Q : Option Value → xM → Prop} (hM : ShM μ) (hw : WFt μ) (hc : c < 16) (hd : d < 16) (h1 : noPlaceM μ c i = 0) (h2 : noPlaceM μ d j = 0) (h3 : noTakeM (kd μ (tp μ d)) (cellKindM μ (tp μ c) (ix i)) = 0) (h4 : ¬ noTakeM (kd μ (tp μ c)) (cellKindM μ (tp μ d) (ix j)) = 0) (hq : Q (some (.int (nI (noChangeM μ c i d j)))) (changeM μ c i d j)) : Mt kX5_changes [.ref 44, .int (nI c), .int i, .int (nI d), .int j] μ Q := by
  obtain ⟨a0, ar, ae, ai⟩ := noPlace_0 h1
  obtain ⟨b0, br, be, bi⟩ := noPlace_0 h2
  obtain ⟨ht, et⟩ := hw.1 c hc a0
  obtain ⟨hu, eu⟩ := hw.1 d hd b0
  obtain ⟨⟨ek, lk⟩, es, ls⟩ := hw.2.1 _ ht
  obtain ⟨⟨ek2, lk2⟩, es2, ls2⟩ := hw.2.1 _ hu
  have e1 : noChangeM μ c i d j = noTakeM (kd μ (tp μ c)) (cellKindM μ (tp μ d) (ix j)) := by unfold noChangeM; rw [if_pos h1, if_pos h2, if_pos h3]
  unfold changeM at hq
  rw [if_neg (by rw [e1]; exact h4), e1] at hq
  have okc := read_ok hw ht ai
  have okd := read_ok hw hu bi
  generalize hgi : ix i = i0 at *
  generalize hgj : ix j = j0 at *
  subst ae
  subst be
  refine Mt.enter rfl (Nat.le_of_ble_eq_true rfl) ?_
  refine X.aload_n dX5_changes_0 rfl ?_
  refine X.iload_n dX5_changes_1 rfl ?_
  refine X.iload_n dX5_changes_2 rfl ?_
  refine X.cV2i (k' := kX5_noPlace) dX5_changes_3 (hM.1 44 (by decide) (by decide)) ⟨by decide, rfl⟩ v_X5_noPlace wm_X5_113 wi_X5_noPlace ws_X5_noPlace ⟨Nat.le_of_ble_eq_true rfl, Nat.le_of_ble_eq_true rfl⟩ n_X5_noPlace (Nat.le_of_ble_eq_true rfl) ?_
  refine m_noPlace hM hw hc ?_
  refine ⟨_, rfl, ?_⟩
  refine X.istore dX5_changes_6 (Nat.le_of_ble_eq_true rfl) ?_
  refine X.iload dX5_changes_8 rfl ?_
  refine X.if_ne_f (tgt := 22) dX5_changes_10 (by decide) ((by rw [h1]; rfl)) ?_
  refine X.aload_n dX5_changes_13 rfl ?_
  refine X.iload_n dX5_changes_14 rfl ?_
  refine X.iload dX5_changes_15 rfl ?_
  refine X.cV2i (k' := kX5_noPlace) dX5_changes_17 (hM.1 44 (by decide) (by decide)) ⟨by decide, rfl⟩ v_X5_noPlace wm_X5_113 wi_X5_noPlace ws_X5_noPlace ⟨Nat.le_of_ble_eq_true rfl, Nat.le_of_ble_eq_true rfl⟩ n_X5_noPlace (Nat.le_of_ble_eq_true rfl) ?_
  refine m_noPlace hM hw hd ?_
  refine ⟨_, rfl, ?_⟩
  refine X.istore dX5_changes_20 (Nat.le_of_ble_eq_true rfl) ?_
  refine X.iload dX5_changes_22 rfl ?_
  refine X.if_le_t (tgt := 30) dX5_changes_24 (by decide) ((by rw [h2]; decide)) ?_
  refine X.aload_n dX5_changes_30 rfl ?_
  refine X.aload_n dX5_changes_31 rfl ?_
  refine X.getR (b := 50) (kf := 6) dX5_changes_32 (hM.1 44 (by decide) (by decide)) (by decide) (by decide) rfl wf_X5_27 (hM.2 6 (by decide)) ?_
  refine X.iload_n dX5_changes_35 rfl ?_
  refine X.iald dX5_changes_36 (hM.1 50 (by decide) (by decide)) (rfl) (hc) (by decide) ?_
  refine X.iload_n dX5_changes_37 rfl ?_
  refine X.cV2i (k' := kX5_cellKind) dX5_changes_38 (hM.1 44 (by decide) (by decide)) ⟨by decide, rfl⟩ v_X5_cellKind wm_X5_130 wi_X5_cellKind ws_X5_cellKind ⟨Nat.le_of_ble_eq_true rfl, Nat.le_of_ble_eq_true rfl⟩ n_X5_cellKind (Nat.le_of_ble_eq_true rfl) ?_
  rw [et]
  refine m_cellKind hM hw ht ai ?_
  refine ⟨_, rfl, ?_⟩
  refine X.istore dX5_changes_41 (Nat.le_of_ble_eq_true rfl) ?_
  refine X.aload_n dX5_changes_43 rfl ?_
  refine X.aload_n dX5_changes_44 rfl ?_
  refine X.getR (b := 50) (kf := 6) dX5_changes_45 (hM.1 44 (by decide) (by decide)) (by decide) (by decide) rfl wf_X5_27 (hM.2 6 (by decide)) ?_
  refine X.iload_n dX5_changes_48 rfl ?_
  refine X.iald dX5_changes_49 (hM.1 50 (by decide) (by decide)) (rfl) (hd) (by decide) ?_
  refine X.iload dX5_changes_50 rfl ?_
  refine X.cV2i (k' := kX5_cellKind) dX5_changes_52 (hM.1 44 (by decide) (by decide)) ⟨by decide, rfl⟩ v_X5_cellKind wm_X5_130 wi_X5_cellKind ws_X5_cellKind ⟨Nat.le_of_ble_eq_true rfl, Nat.le_of_ble_eq_true rfl⟩ n_X5_cellKind (Nat.le_of_ble_eq_true rfl) ?_
  rw [eu]
  refine m_cellKind hM hw hu bi ?_
  refine ⟨_, rfl, ?_⟩
  refine X.istore dX5_changes_55 (Nat.le_of_ble_eq_true rfl) ?_
  refine X.aload_n dX5_changes_57 rfl ?_
  refine X.iload_n dX5_changes_58 rfl ?_
  refine X.cV1i (k' := kX5_kindOf) dX5_changes_59 (hM.1 44 (by decide) (by decide)) ⟨by decide, rfl⟩ v_X5_kindOf wm_X5_110 wi_X5_kindOf ws_X5_kindOf ⟨Nat.le_of_ble_eq_true rfl, Nat.le_of_ble_eq_true rfl⟩ n_X5_kindOf (Nat.le_of_ble_eq_true rfl) ?_
  refine m_kindOf hM hw hd b0 ?_
  refine ⟨_, rfl, ?_⟩
  refine X.iload dX5_changes_62 rfl ?_
  refine X.cS2i (k' := kX5_noTake) dX5_changes_64 v_X5_noTake wm_X5_117 wt_X5_noTake ⟨Nat.le_of_ble_eq_true rfl, Nat.le_of_ble_eq_true rfl⟩ n_X5_noTake (Nat.le_of_ble_eq_true rfl) ?_
  refine m_noTake lk2 (Nat.le_trans cellKind_le (by decide)) ?_
  refine ⟨_, rfl, ?_⟩
  refine X.istore dX5_changes_67 (Nat.le_of_ble_eq_true rfl) ?_
  refine X.iload dX5_changes_69 rfl ?_
  refine X.if_ne_f (tgt := 86) dX5_changes_71 (by decide) ((by rw [h3]; rfl)) ?_
  refine X.aload_n dX5_changes_74 rfl ?_
  refine X.iload_n dX5_changes_75 rfl ?_
  refine X.cV1i (k' := kX5_kindOf) dX5_changes_76 (hM.1 44 (by decide) (by decide)) ⟨by decide, rfl⟩ v_X5_kindOf wm_X5_110 wi_X5_kindOf ws_X5_kindOf ⟨Nat.le_of_ble_eq_true rfl, Nat.le_of_ble_eq_true rfl⟩ n_X5_kindOf (Nat.le_of_ble_eq_true rfl) ?_
  refine m_kindOf hM hw hc a0 ?_
  refine ⟨_, rfl, ?_⟩
  refine X.iload dX5_changes_79 rfl ?_
  refine X.cS2i (k' := kX5_noTake) dX5_changes_81 v_X5_noTake wm_X5_117 wt_X5_noTake ⟨Nat.le_of_ble_eq_true rfl, Nat.le_of_ble_eq_true rfl⟩ n_X5_noTake (Nat.le_of_ble_eq_true rfl) ?_
  refine m_noTake lk (Nat.le_trans cellKind_le (by decide)) ?_
  refine ⟨_, rfl, ?_⟩
  refine X.istore dX5_changes_84 (Nat.le_of_ble_eq_true rfl) ?_
  refine X.iload dX5_changes_86 rfl ?_
  refine X.if_le_f (tgt := 94) dX5_changes_88 (by decide) (fun q => h4 (nI_le0 q (by have := noTake_le (kd μ (tp μ c)) (cellKindM μ (tp μ d) j0); omega))) ?_
  refine X.iload dX5_changes_91 rfl ?_
  refine X.ret dX5_changes_93 ⟨trivial, ?_⟩
  exact hq
set_option maxRecDepth 100000 in
set_option maxHeartbeats 4000000 in
theorem m_changes5 {c d : Nat} {i j : Int32} {μ : xM} {Q : Option Value → xM → Prop} (hM : ShM μ) (hw : WFt μ) (hc : c < 16) (hd : d < 16) (h1 : noPlaceM μ c i = 0) (h2 : noPlaceM μ d j = 0) (h3 : noTakeM (kd μ (tp μ d)) (cellKindM μ (tp μ c) (ix i)) = 0) (h4 : noTakeM (kd μ (tp μ c)) (cellKindM μ (tp μ d) (ix j)) = 0) (hq : Q (some (.int (nI (noChangeM μ c i d j)))) (changeM μ c i d j)) : Mt kX5_changes [.ref 44, .int (nI c), .int i, .int (nI d), .int j] μ Q := by
  obtain ⟨a0, ar, ae, ai⟩ := noPlace_0 h1
  obtain ⟨b0, br, be, bi⟩ := noPlace_0 h2
  obtain ⟨ht, et⟩ := hw.1 c hc a0
  obtain ⟨hu, eu⟩ := hw.1 d hd b0
  obtain ⟨⟨ek, lk⟩, es, ls⟩ := hw.2.1 _ ht
  obtain ⟨⟨ek2, lk2⟩, es2, ls2⟩ := hw.2.1 _ hu
  have e1 : noChangeM μ c i d j = 0 := by unfold noChangeM; rw [if_pos h1, if_pos h2, if_pos h3]; exact h4
  unfold changeM at hq
  rw [if_pos e1, e1] at hq
  have okc := read_ok hw ht ai
  have okd := read_ok hw hu bi
  generalize hgi : ix i = i0 at *
  generalize hgj : ix j = j0 at *
  subst ae
  subst be
  have hw2 := hw.sJ (v := fitM (kd μ (tp μ d)) (cv μ (tp μ c) i0)) hu bi (write_ok (noTake_0 h3) okc)
  refine Mt.enter rfl (Nat.le_of_ble_eq_true rfl) ?_
  refine X.aload_n dX5_changes_0 rfl ?_
  refine X.iload_n dX5_changes_1 rfl ?_
  refine X.iload_n dX5_changes_2 rfl ?_
  refine X.cV2i (k' := kX5_noPlace) dX5_changes_3 (hM.1 44 (by decide) (by decide)) ⟨by decide, rfl⟩ v_X5_noPlace wm_X5_113 wi_X5_noPlace ws_X5_noPlace ⟨Nat.le_of_ble_eq_true rfl, Nat.le_of_ble_eq_true rfl⟩ n_X5_noPlace (Nat.le_of_ble_eq_true rfl) ?_
  refine m_noPlace hM hw hc ?_
  refine ⟨_, rfl, ?_⟩
  refine X.istore dX5_changes_6 (Nat.le_of_ble_eq_true rfl) ?_
  refine X.iload dX5_changes_8 rfl ?_
  refine X.if_ne_f (tgt := 22) dX5_changes_10 (by decide) ((by rw [h1]; rfl)) ?_
  refine X.aload_n dX5_changes_13 rfl ?_
  refine X.iload_n dX5_changes_14 rfl ?_
  refine X.iload dX5_changes_15 rfl ?_
  refine X.cV2i (k' := kX5_noPlace) dX5_changes_17 (hM.1 44 (by decide) (by decide)) ⟨by decide, rfl⟩ v_X5_noPlace wm_X5_113 wi_X5_noPlace ws_X5_noPlace ⟨Nat.le_of_ble_eq_true rfl, Nat.le_of_ble_eq_true rfl⟩ n_X5_noPlace (Nat.le_of_ble_eq_true rfl) ?_
  refine m_noPlace hM hw hd ?_
  refine ⟨_, rfl, ?_⟩
  refine X.istore dX5_changes_20 (Nat.le_of_ble_eq_true rfl) ?_
  refine X.iload dX5_changes_22 rfl ?_
  refine X.if_le_t (tgt := 30) dX5_changes_24 (by decide) ((by rw [h2]; decide)) ?_
  refine X.aload_n dX5_changes_30 rfl ?_
  refine X.aload_n dX5_changes_31 rfl ?_
  refine X.getR (b := 50) (kf := 6) dX5_changes_32 (hM.1 44 (by decide) (by decide)) (by decide) (by decide) rfl wf_X5_27 (hM.2 6 (by decide)) ?_
  refine X.iload_n dX5_changes_35 rfl ?_
  refine X.iald dX5_changes_36 (hM.1 50 (by decide) (by decide)) (rfl) (hc) (by decide) ?_
  refine X.iload_n dX5_changes_37 rfl ?_
  refine X.cV2i (k' := kX5_cellKind) dX5_changes_38 (hM.1 44 (by decide) (by decide)) ⟨by decide, rfl⟩ v_X5_cellKind wm_X5_130 wi_X5_cellKind ws_X5_cellKind ⟨Nat.le_of_ble_eq_true rfl, Nat.le_of_ble_eq_true rfl⟩ n_X5_cellKind (Nat.le_of_ble_eq_true rfl) ?_
  rw [et]
  refine m_cellKind hM hw ht ai ?_
  refine ⟨_, rfl, ?_⟩
  refine X.istore dX5_changes_41 (Nat.le_of_ble_eq_true rfl) ?_
  refine X.aload_n dX5_changes_43 rfl ?_
  refine X.aload_n dX5_changes_44 rfl ?_
  refine X.getR (b := 50) (kf := 6) dX5_changes_45 (hM.1 44 (by decide) (by decide)) (by decide) (by decide) rfl wf_X5_27 (hM.2 6 (by decide)) ?_
  refine X.iload_n dX5_changes_48 rfl ?_
  refine X.iald dX5_changes_49 (hM.1 50 (by decide) (by decide)) (rfl) (hd) (by decide) ?_
  refine X.iload dX5_changes_50 rfl ?_
  refine X.cV2i (k' := kX5_cellKind) dX5_changes_52 (hM.1 44 (by decide) (by decide)) ⟨by decide, rfl⟩ v_X5_cellKind wm_X5_130 wi_X5_cellKind ws_X5_cellKind ⟨Nat.le_of_ble_eq_true rfl, Nat.le_of_ble_eq_true rfl⟩ n_X5_cellKind (Nat.le_of_ble_eq_true rfl) ?_
  rw [eu]
  refine m_cellKind hM hw hu bi ?_
  refine ⟨_, rfl, ?_⟩
  refine X.istore dX5_changes_55 (Nat.le_of_ble_eq_true rfl) ?_
  refine X.aload_n dX5_changes_57 rfl ?_
  refine X.iload_n dX5_changes_58 rfl ?_
  refine X.cV1i (k' := kX5_kindOf) dX5_changes_59 (hM.1 44 (by decide) (by decide)) ⟨by decide, rfl⟩ v_X5_kindOf wm_X5_110 wi_X5_kindOf ws_X5_kindOf ⟨Nat.le_of_ble_eq_true rfl, Nat.le_of_ble_eq_true rfl⟩ n_X5_kindOf (Nat.le_of_ble_eq_true rfl) ?_
  refine m_kindOf hM hw hd b0 ?_
  refine ⟨_, rfl, ?_⟩
  refine X.iload dX5_changes_62 rfl ?_
  refine X.cS2i (k' := kX5_noTake) dX5_changes_64 v_X5_noTake wm_X5_117 wt_X5_noTake ⟨Nat.le_of_ble_eq_true rfl, Nat.le_of_ble_eq_true rfl⟩ n_X5_noTake (Nat.le_of_ble_eq_true rfl) ?_
  refine m_noTake lk2 (Nat.le_trans cellKind_le (by decide)) ?_
  refine ⟨_, rfl, ?_⟩
  refine X.istore dX5_changes_67 (Nat.le_of_ble_eq_true rfl) ?_
  refine X.iload dX5_changes_69 rfl ?_
  refine X.if_ne_f (tgt := 86) dX5_changes_71 (by decide) ((by rw [h3]; rfl)) ?_
  refine X.aload_n dX5_changes_74 rfl ?_
  refine X.iload_n dX5_changes_75 rfl ?_
  refine X.cV1i (k' := kX5_kindOf) dX5_changes_76 (hM.1 44 (by decide) (by decide)) ⟨by decide, rfl⟩ v_X5_kindOf wm_X5_110 wi_X5_kindOf ws_X5_kindOf ⟨Nat.le_of_ble_eq_true rfl, Nat.le_of_ble_eq_true rfl⟩ n_X5_kindOf (Nat.le_of_ble_eq_true rfl) ?_
  refine m_kindOf hM hw hc a0 ?_
  refine ⟨_, rfl, ?_⟩
  refine X.iload dX5_changes_79 rfl ?_
  refine X.cS2i (k' := kX5_noTake) dX5_changes_81 v_X5_noTake wm_X5_117 wt_X5_noTake ⟨Nat.le_of_ble_eq_true rfl, Nat.le_of_ble_eq_true rfl⟩ n_X5_noTake (Nat.le_of_ble_eq_true rfl) ?_
  refine m_noTake lk (Nat.le_trans cellKind_le (by decide)) ?_
  refine ⟨_, rfl, ?_⟩
  refine X.istore dX5_changes_84 (Nat.le_of_ble_eq_true rfl) ?_
  refine X.iload dX5_changes_86 rfl ?_
  refine X.if_le_t (tgt := 94) dX5_changes_88 (by decide) ((by rw [h4]; decide)) ?_
  refine X.aload_n dX5_changes_94 rfl ?_
  refine X.getR (b := 48) (kf := 3) dX5_changes_95 (hM.1 44 (by decide) (by decide)) (by decide) (by decide) rfl wf_X5_20 (hM.2 3 (by decide)) ?_
  refine X.aload_n dX5_changes_98 rfl ?_
  refine X.iload_n dX5_changes_99 rfl ?_
  refine X.iload_n dX5_changes_100 rfl ?_
  refine X.cV2i (k' := kX5_at) dX5_changes_101 (hM.1 44 (by decide) (by decide)) ⟨by decide, rfl⟩ v_X5_at wm_X5_124 wi_X5_at ws_X5_at ⟨Nat.le_of_ble_eq_true rfl, Nat.le_of_ble_eq_true rfl⟩ n_X5_at (Nat.le_of_ble_eq_true rfl) ?_
  refine m_at hM hw hc a0 ?_
  refine ⟨_, rfl, ?_⟩
  refine X.lald dX5_changes_104 (hM.1 48 (by decide) (by decide)) (rfl) (cell_in ht (Nat.lt_of_lt_of_le ai ls)) (by decide) ?_
  refine X.lstore dX5_changes_105 (Nat.le_of_ble_eq_true rfl) ?_
  refine X.aload_n dX5_changes_107 rfl ?_
  refine X.getR (b := 48) (kf := 3) dX5_changes_108 (hM.1 44 (by decide) (by decide)) (by decide) (by decide) rfl wf_X5_20 (hM.2 3 (by decide)) ?_
  refine X.aload_n dX5_changes_111 rfl ?_
  refine X.iload_n dX5_changes_112 rfl ?_
  refine X.iload dX5_changes_113 rfl ?_
  refine X.cV2i (k' := kX5_at) dX5_changes_115 (hM.1 44 (by decide) (by decide)) ⟨by decide, rfl⟩ v_X5_at wm_X5_124 wi_X5_at ws_X5_at ⟨Nat.le_of_ble_eq_true rfl, Nat.le_of_ble_eq_true rfl⟩ n_X5_at (Nat.le_of_ble_eq_true rfl) ?_
  refine m_at hM hw hd b0 ?_
  refine ⟨_, rfl, ?_⟩
  refine X.lald dX5_changes_118 (hM.1 48 (by decide) (by decide)) (rfl) (cell_in hu (Nat.lt_of_lt_of_le bi ls2)) (by decide) ?_
  refine X.lstore dX5_changes_119 (Nat.le_of_ble_eq_true rfl) ?_
  refine X.aload_n dX5_changes_121 rfl ?_
  refine X.getR (b := 48) (kf := 3) dX5_changes_122 (hM.1 44 (by decide) (by decide)) (by decide) (by decide) rfl wf_X5_20 (hM.2 3 (by decide)) ?_
  refine X.aload_n dX5_changes_125 rfl ?_
  refine X.iload_n dX5_changes_126 rfl ?_
  refine X.iload dX5_changes_127 rfl ?_
  refine X.cV2i (k' := kX5_at) dX5_changes_129 (hM.1 44 (by decide) (by decide)) ⟨by decide, rfl⟩ v_X5_at wm_X5_124 wi_X5_at ws_X5_at ⟨Nat.le_of_ble_eq_true rfl, Nat.le_of_ble_eq_true rfl⟩ n_X5_at (Nat.le_of_ble_eq_true rfl) ?_
  refine m_at hM hw hd b0 ?_
  refine ⟨_, rfl, ?_⟩
  refine X.aload_n dX5_changes_132 rfl ?_
  refine X.iload_n dX5_changes_133 rfl ?_
  refine X.cV1i (k' := kX5_kindOf) dX5_changes_134 (hM.1 44 (by decide) (by decide)) ⟨by decide, rfl⟩ v_X5_kindOf wm_X5_110 wi_X5_kindOf ws_X5_kindOf ⟨Nat.le_of_ble_eq_true rfl, Nat.le_of_ble_eq_true rfl⟩ n_X5_kindOf (Nat.le_of_ble_eq_true rfl) ?_
  refine m_kindOf hM hw hd b0 ?_
  refine ⟨_, rfl, ?_⟩
  refine X.lload dX5_changes_137 rfl ?_
  refine X.cS2l (k' := kX5_kept) dX5_changes_139 v_X5_kept wm_X5_127 wt_X5_kept ⟨Nat.le_of_ble_eq_true rfl, Nat.le_of_ble_eq_true rfl⟩ n_X5_kept (Nat.le_of_ble_eq_true rfl) ?_
  refine m_kept lk2 ?_
  refine ⟨_, rfl, ?_⟩
  refine X.last dX5_changes_142 (hM.1 48 (by decide) (by decide)) (rfl) (cell_in hu (Nat.lt_of_lt_of_le bi ls2)) (by decide) ?_
  refine X.aload_n dX5_changes_143 rfl ?_
  refine X.getR (b := 48) (kf := 3) dX5_changes_144 (hM.1 44 (by decide) (by decide)) (by decide) (by decide) rfl wf_X5_20 (hM.2 3 (by decide)) ?_
  refine X.aload_n dX5_changes_147 rfl ?_
  refine X.iload_n dX5_changes_148 rfl ?_
  refine X.iload_n dX5_changes_149 rfl ?_
  refine X.cV2i (k' := kX5_at) dX5_changes_150 (hM.1 44 (by decide) (by decide)) ⟨by decide, rfl⟩ v_X5_at wm_X5_124 wi_X5_at ws_X5_at ⟨Nat.le_of_ble_eq_true rfl, Nat.le_of_ble_eq_true rfl⟩ n_X5_at (Nat.le_of_ble_eq_true rfl) ?_
  refine m_at hM hw2 hc a0 ?_
  refine ⟨_, rfl, ?_⟩
  refine X.aload_n dX5_changes_153 rfl ?_
  refine X.iload_n dX5_changes_154 rfl ?_
  refine X.cV1i (k' := kX5_kindOf) dX5_changes_155 (hM.1 44 (by decide) (by decide)) ⟨by decide, rfl⟩ v_X5_kindOf wm_X5_110 wi_X5_kindOf ws_X5_kindOf ⟨Nat.le_of_ble_eq_true rfl, Nat.le_of_ble_eq_true rfl⟩ n_X5_kindOf (Nat.le_of_ble_eq_true rfl) ?_
  refine m_kindOf hM hw2 hc a0 ?_
  refine ⟨_, rfl, ?_⟩
  refine X.lload dX5_changes_158 rfl ?_
  refine X.cS2l (k' := kX5_kept) dX5_changes_160 v_X5_kept wm_X5_127 wt_X5_kept ⟨Nat.le_of_ble_eq_true rfl, Nat.le_of_ble_eq_true rfl⟩ n_X5_kept (Nat.le_of_ble_eq_true rfl) ?_
  refine m_kept lk ?_
  refine ⟨_, rfl, ?_⟩
  refine X.last dX5_changes_163 (hM.1 48 (by decide) (by decide)) (rfl) (cell_in ht (Nat.lt_of_lt_of_le ai ls)) (by decide) ?_
  refine X.iconst (v := 0) dX5_changes_164 (by decide) ?_
  refine X.ret dX5_changes_165 ⟨trivial, ?_⟩
  exact hq
theorem m_changes {c d : Nat} {i j : Int32} {μ : xM} {Q : Option Value → xM → Prop} (hM : ShM μ) (hw : WFt μ) (hc : c < 16) (hd : d < 16) (hq : Q (some (.int (nI (noChangeM μ c i d j)))) (changeM μ c i d j)) : Mt kX5_changes [.ref 44, .int (nI c), .int i, .int (nI d), .int j] μ Q := by
  by_cases h1 : noPlaceM μ c i = 0
  · by_cases h2 : noPlaceM μ d j = 0
    · by_cases h3 : noTakeM (kd μ (tp μ d)) (cellKindM μ (tp μ c) (ix i)) = 0
      · by_cases h4 : noTakeM (kd μ (tp μ c)) (cellKindM μ (tp μ d) (ix j)) = 0
        · exact m_changes5 hM hw hc hd h1 h2 h3 h4 hq
        · exact m_changes4 hM hw hc hd h1 h2 h3 h4 hq
      · exact m_changes3 hM hw hc hd h1 h2 h3 hq
    · exact m_changes2 hM hw hc hd h1 h2 hq
  · exact m_changes1 hM hw hc hd h1 hq
