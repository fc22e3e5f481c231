/-! the reference: a new tape, faults, moves (laid by wip/whole/mkmodel6.py) -/
def sB (μ : xM) (w : Nat → Int64) : xM := (mT μ, mI μ, fun b j => if b = 48 then w j else mJ μ b j, mR μ, mN μ, mS μ)
def zr (t i : Nat) (f : Nat → Int64) : Nat → Int64 := fun j => if 32 * t ≤ j ∧ j < 32 * t + i then 0 else f j
theorem sB_sJ (μ : xM) (t i : Nat) (f : Nat → Int64) : sJ (sB μ (zr t i f)) 48 (32 * t + i) 0 = sB μ (zr t (i + 1) f) := by
  show (mT μ, mI μ, up2 (fun b j => if b = 48 then zr t i f j else mJ μ b j) 48 (32 * t + i) 0, mR μ, mN μ, mS μ) = (mT μ, mI μ, (fun b j => if b = 48 then zr t (i + 1) f j else mJ μ b j), mR μ, mN μ, mS μ)
  congr 3
  funext b j
  show (if b = 48 ∧ j = 32 * t + i then 0 else (if b = 48 then zr t i f j else mJ μ b j)) = (if b = 48 then zr t (i + 1) f j else mJ μ b j)
  by_cases h : b = 48
  · rw [if_pos h, if_pos h]
    unfold zr
    by_cases h2 : j = 32 * t + i
    · rw [if_pos ⟨h, h2⟩, if_pos (by omega)]
    · rw [if_neg (fun q => h2 q.2)]
      by_cases h3 : 32 * t ≤ j ∧ j < 32 * t + i
      · rw [if_pos h3, if_pos (by omega)]
      · rw [if_neg h3, if_neg (by omega)]
  · rw [if_neg (fun q => h q.1), if_neg h, if_neg h]
theorem sB_0 (μ : xM) (t : Nat) : sB μ (zr t 0 (mJ μ 48)) = μ := by
  show (mT μ, mI μ, (fun b j => if b = 48 then zr t 0 (mJ μ 48) j else mJ μ b j), mR μ, mN μ, mS μ) = μ
  have e : (fun b j => if b = 48 then zr t 0 (mJ μ 48) j else mJ μ b j) = mJ μ := by
    funext b j
    by_cases h : b = 48
    · rw [if_pos h, h]
      unfold zr
      rw [if_neg (by omega)]
    · rw [if_neg h]
  rw [e]
  rfl
noncomputable def newTM (μ : xM) (u : Nat → Int32) (k n : Nat) : xM := sB (sI (sI (sA μ 47 u) 45 (freeM μ) (nI k)) 46 (freeM μ) (nI n)) (zr (freeM μ) n (mJ μ 48))
def failM (μ : xM) (who : Int32) (h : Nat) : xM := sI (sI (sI (sI (sI μ 62 (fM μ % 20) (mI μ 44 19)) 63 (fM μ % 20) who) 64 (fM μ % 20) (nI h)) 44 20 (mI μ 44 20 + 1)) 65 h (mI μ 65 h + 1)
def WFf (μ : xM) : Prop := mI μ 44 20 = nI (fM μ) ∧ fM μ < 2 ^ 30
def fmodM (x n : Int32) : Int32 := if 0 ≤ x - x / n * n then x - x / n * n else x - x / n * n + n
def noMoveM (μ : xM) (c : Nat) : Nat := if noTapeM μ c = 0 then (if sz μ (tp μ c) = 0 then 4 else 0) else noTapeM μ c
def moveM (μ : xM) (c : Nat) : xM := if mI μ 53 c = 0 then sI μ 51 c (mI μ 51 c + mI μ 52 c) else if noMoveM μ c = 0 then sI μ 51 c (fmodM (mI μ 51 c + mI μ 52 c) (mI μ 46 (tp μ c))) else failM μ (100 + nI c) (noMoveM μ c)
set_option maxRecDepth 100000 in
set_option maxHeartbeats 4000000 in
theorem nt1 {μ : xM} {Q : Option Value → xM → Prop} (hM : ShM μ) {t n : Nat} {f : Nat → Int64} (ht : t < 560) (hn : n ≤ 32) (K : Q (some (.int (nI t))) (sB μ (zr t n f))) : ∀ (m i : Nat), i + m = n → X kX5_newTape none 22 (xl [(0, .ref 44), (2, .int (nI n)), (3, .int (nI t)), (4, .int (nI i))]) [] (sB μ (zr t i f)) (fun r μ' => xrok kX5_newTape.2.2.2.1 r ∧ Q r μ') := by
  intro m
  induction m with
  | zero =>
    intro i hi
    obtain rfl : i = n := by omega
    refine X.iload dX5_newTape_22 rfl ?_
    refine X.iload_n dX5_newTape_24 rfl ?_
    refine X.icmp_ge_t (tgt := 47) dX5_newTape_25 (by decide) (nI_le (Nat.le_refl _) (by omega)) ?_
    refine X.iload_n dX5_newTape_47 rfl ?_
    refine X.ret dX5_newTape_48 ⟨trivial, ?_⟩
    exact K
  | succ m ih =>
    intro i hi
    refine X.iload dX5_newTape_22 rfl ?_
    refine X.iload_n dX5_newTape_24 rfl ?_
    refine X.icmp_ge_f (tgt := 47) dX5_newTape_25 (by decide) (nI_ge (by omega) (by omega)) ?_
    refine X.aload_n dX5_newTape_28 rfl ?_
    refine X.getR (b := 48) (kf := 3) dX5_newTape_29 (hM.1 44 (by decide) (by decide)) (by decide) (by decide) rfl wf_X5_20 (hM.2 3 (by decide)) ?_
    refine X.bipush (v := 32) dX5_newTape_32 (by decide) ?_
    refine X.iload_n dX5_newTape_34 rfl ?_
    refine X.imul dX5_newTape_35 ?_
    refine X.iload dX5_newTape_36 rfl ?_
    refine X.iadd dX5_newTape_38 ?_
    refine X.lconst (v := 0) dX5_newTape_39 (by decide) ?_
    refine X.last dX5_newTape_40 (hM.1 48 (by decide) (by decide)) (at_eq2 t i) (cell_in ht (by omega)) (by decide) ?_
    refine X.iinc1 dX5_newTape_41 rfl (Nat.le_of_ble_eq_true rfl) ?_
    refine X.goto (tgt := 22) dX5_newTape_44 (by decide) ?_
    rw [sB_sJ]
    exact X.at [(0, .ref 44), (2, .int (nI n)), (3, .int (nI t)), (4, .int (nI (i + 1)))] ⟨rfl, rfl, rfl, iN i, trivial⟩ (ih (i + 1) (by omega))
set_option maxRecDepth 100000 in
set_option maxHeartbeats 4000000 in
theorem m_newTape {k n : Nat} {μ : xM} {Q : Option Value → xM → Prop} (hM : ShM μ) (hw : WFt μ) (hn : n ≤ 32) (hq : ∀ u, Q (some (.int (nI (freeM μ)))) (newTM μ u k n)) : Mt kX5_newTape [.ref 44, .int (nI k), .int (nI n)] μ Q := by
  obtain ⟨hf1, hf2, hf3⟩ := freeM_ok hw
  refine Mt.enter rfl (Nat.le_of_ble_eq_true rfl) ?_
  refine X.aload_n dX5_newTape_0 rfl ?_
  refine X.cV0i (k' := kX5_freeTape) dX5_newTape_1 (hM.1 44 (by decide) (by decide)) ⟨by decide, rfl⟩ v_X5_freeTape wm_X5_86 wi_X5_freeTape ws_X5_freeTape ⟨Nat.le_of_ble_eq_true rfl, Nat.le_of_ble_eq_true rfl⟩ n_X5_freeTape (Nat.le_of_ble_eq_true rfl) ?_
  refine m_freeTape hM hw (fun u => ?_)
  refine ⟨_, rfl, ?_⟩
  refine X.istore_n dX5_newTape_4 (Nat.le_of_ble_eq_true rfl) ?_
  refine X.aload_n dX5_newTape_5 rfl ?_
  refine X.getR (b := 45) (kf := 0) dX5_newTape_6 (hM.1 44 (by decide) (by decide)) (by decide) (by decide) rfl wf_X5_7 (hM.2 0 (by decide)) ?_
  refine X.iload_n dX5_newTape_9 rfl ?_
  refine X.iload_n dX5_newTape_10 rfl ?_
  refine X.iast dX5_newTape_11 (hM.1 45 (by decide) (by decide)) (rfl) (hf1) (by decide) ?_
  refine X.aload_n dX5_newTape_12 rfl ?_
  refine X.getR (b := 46) (kf := 1) dX5_newTape_13 (hM.1 44 (by decide) (by decide)) (by decide) (by decide) rfl wf_X5_13 (hM.2 1 (by decide)) ?_
  refine X.iload_n dX5_newTape_16 rfl ?_
  refine X.iload_n dX5_newTape_17 rfl ?_
  refine X.iast dX5_newTape_18 (hM.1 46 (by decide) (by decide)) (rfl) (hf1) (by decide) ?_
  refine X.iconst (v := 0) dX5_newTape_19 (by decide) ?_
  refine X.istore dX5_newTape_20 (Nat.le_of_ble_eq_true rfl) ?_
  rw [← sB_0 (sI (sI (sA μ 47 u) 45 (freeM μ) (nI k)) 46 (freeM μ) (nI n)) (freeM μ)]
  refine X.at [(0, .ref 44), (2, .int (nI n)), (3, .int (nI (freeM μ))), (4, .int (nI 0))] ⟨rfl, rfl, rfl, rfl, trivial⟩ ?_
  exact nt1 (Q := Q) (μ := sI (sI (sA μ 47 u) 45 (freeM μ) (nI k)) 46 (freeM μ) (nI n)) (f := mJ μ 48) hM hf1 hn (hq u) n 0 (by omega)
set_option maxRecDepth 100000 in
set_option maxHeartbeats 4000000 in
theorem m_fails {who : Int32} {h : Nat} {μ : xM} {Q : Option Value → xM → Prop} (hM : ShM μ) (hf : WFf μ) (hh : h < 6) (hq : Q none (failM μ who h)) : Mt kX5_fails [.ref 44, .int who, .int (nI h)] μ Q := by
  have e20 : mI μ 44 20 - mI μ 44 20 / 20 * 20 = nI (fM μ % 20) := by
    rw [hf.1]
    exact pk_rem (a := fM μ) (d := 20) (by have := hf.2; omega) (by decide) (by decide)
  refine Mt.enter rfl (Nat.le_of_ble_eq_true rfl) ?_
  refine X.aload_n dX5_fails_0 rfl ?_
  refine X.getI (kf := 20) dX5_fails_1 (hM.1 44 (by decide) (by decide)) (by decide) (by decide) rfl wf_X5_172 ?_
  refine X.bipush (v := 20) dX5_fails_4 (by decide) ?_
  refine X.irem dX5_fails_6 (by decide) ?_
  refine X.istore_n dX5_fails_7 (Nat.le_of_ble_eq_true rfl) ?_
  refine X.aload_n dX5_fails_8 rfl ?_
  refine X.getR (b := 62) (kf := 21) dX5_fails_9 (hM.1 44 (by decide) (by decide)) (by decide) (by decide) rfl wf_X5_63 (hM.2 21 (by decide)) ?_
  refine X.iload_n dX5_fails_12 rfl ?_
  refine X.aload_n dX5_fails_13 rfl ?_
  refine X.getI (kf := 19) dX5_fails_14 (hM.1 44 (by decide) (by decide)) (by decide) (by decide) rfl wf_X5_175 ?_
  refine X.iast dX5_fails_17 (hM.1 62 (by decide) (by decide)) (e20) (by omega) (by decide) ?_
  refine X.aload_n dX5_fails_18 rfl ?_
  refine X.getR (b := 63) (kf := 22) dX5_fails_19 (hM.1 44 (by decide) (by decide)) (by decide) (by decide) rfl wf_X5_66 (hM.2 22 (by decide)) ?_
  refine X.iload_n dX5_fails_22 rfl ?_
  refine X.iload_n dX5_fails_23 rfl ?_
  refine X.iast dX5_fails_24 (hM.1 63 (by decide) (by decide)) (e20) (by omega) (by decide) ?_
  refine X.aload_n dX5_fails_25 rfl ?_
  refine X.getR (b := 64) (kf := 23) dX5_fails_26 (hM.1 44 (by decide) (by decide)) (by decide) (by decide) rfl wf_X5_69 (hM.2 23 (by decide)) ?_
  refine X.iload_n dX5_fails_29 rfl ?_
  refine X.iload_n dX5_fails_30 rfl ?_
  refine X.iast dX5_fails_31 (hM.1 64 (by decide) (by decide)) (e20) (by omega) (by decide) ?_
  refine X.aload_n dX5_fails_32 rfl ?_
  refine X.dup dX5_fails_33 ?_
  refine X.getI (kf := 20) dX5_fails_34 (hM.1 44 (by decide) (by decide)) (by decide) (by decide) rfl wf_X5_172 ?_
  refine X.iconst (v := 1) dX5_fails_37 (by decide) ?_
  refine X.iadd dX5_fails_38 ?_
  refine X.putI (kf := 20) dX5_fails_39 (hM.1 44 (by decide) (by decide)) (by decide) (by decide) rfl (Or.inl rfl) ⟨rfl, rfl⟩ wf_X5_172 ?_
  refine X.aload_n dX5_fails_42 rfl ?_
  refine X.getR (b := 65) (kf := 24) dX5_fails_43 (hM.1 44 (by decide) (by decide)) (by decide) (by decide) rfl wf_X5_72 (hM.2 24 (by decide)) ?_
  refine X.iload_n dX5_fails_46 rfl ?_
  refine X.dup2 dX5_fails_47 ?_
  refine X.iald dX5_fails_48 (hM.1 65 (by decide) (by decide)) (rfl) (hh) (by decide) ?_
  refine X.iconst (v := 1) dX5_fails_49 (by decide) ?_
  refine X.iadd dX5_fails_50 ?_
  refine X.iast dX5_fails_51 (hM.1 65 (by decide) (by decide)) (rfl) (hh) (by decide) ?_
  refine X.retv dX5_fails_52 ⟨trivial, ?_⟩
  exact hq
set_option maxRecDepth 100000 in
set_option maxHeartbeats 4000000 in
theorem m_moves1 {c : Nat} {μ : xM} {Q : Option Value → xM → Prop} (hM : ShM μ) (hw : WFt μ) (hf : WFf μ) (hc : c < 16) (hl : mI μ 53 c = 0) (hq : Q none (moveM μ c)) : Mt kX5_moves [.ref 44, .int (nI c)] μ Q := by
  refine Mt.enter rfl (Nat.le_of_ble_eq_true rfl) ?_
  refine X.aload_n dX5_moves_0 rfl ?_
  refine X.getR (b := 51) (kf := 7) dX5_moves_1 (hM.1 44 (by decide) (by decide)) (by decide) (by decide) rfl wf_X5_30 (hM.2 7 (by decide)) ?_
  refine X.iload_n dX5_moves_4 rfl ?_
  refine X.iald dX5_moves_5 (hM.1 51 (by decide) (by decide)) (rfl) (hc) (by decide) ?_
  refine X.aload_n dX5_moves_6 rfl ?_
  refine X.getR (b := 52) (kf := 8) dX5_moves_7 (hM.1 44 (by decide) (by decide)) (by decide) (by decide) rfl wf_X5_33 (hM.2 8 (by decide)) ?_
  refine X.iload_n dX5_moves_10 rfl ?_
  refine X.iald dX5_moves_11 (hM.1 52 (by decide) (by decide)) (rfl) (hc) (by decide) ?_
  refine X.iadd dX5_moves_12 ?_
  refine X.istore_n dX5_moves_13 (Nat.le_of_ble_eq_true rfl) ?_
  refine X.aload_n dX5_moves_14 rfl ?_
  refine X.getR (b := 53) (kf := 9) dX5_moves_15 (hM.1 44 (by decide) (by decide)) (by decide) (by decide) rfl wf_X5_36 (hM.2 9 (by decide)) ?_
  refine X.iload_n dX5_moves_18 rfl ?_
  refine X.zald dX5_moves_19 (hM.1 53 (by decide) (by decide)) (rfl) (hc) (by decide) ?_
  refine X.if_eq_t (tgt := 94) dX5_moves_20 (by decide) (hl) ?_
  refine X.aload_n dX5_moves_94 rfl ?_
  refine X.getR (b := 51) (kf := 7) dX5_moves_95 (hM.1 44 (by decide) (by decide)) (by decide) (by decide) rfl wf_X5_30 (hM.2 7 (by decide)) ?_
  refine X.iload_n dX5_moves_98 rfl ?_
  refine X.iload_n dX5_moves_99 rfl ?_
  refine X.iast dX5_moves_100 (hM.1 51 (by decide) (by decide)) (rfl) (hc) (by decide) ?_
  refine X.retv dX5_moves_101 ⟨trivial, ?_⟩
  unfold moveM at hq
  rw [if_pos hl] at hq
  exact hq
set_option maxRecDepth 100000 in
set_option maxHeartbeats 4000000 in
theorem m_moves2 {c : Nat} {μ : xM} {Q : Option Value → xM → Prop} (hM : ShM μ) (hw : WFt μ) (hf : WFf μ) (hc : c < 16) (hl : ¬ mI μ 53 c = 0) (h0 : ¬ noTapeM μ c = 0) (hq : Q none (moveM μ c)) : Mt kX5_moves [.ref 44, .int (nI c)] μ Q := by
  have en : noMoveM μ c = noTapeM μ c := by unfold noMoveM; rw [if_neg h0]
  refine Mt.enter rfl (Nat.le_of_ble_eq_true rfl) ?_
  refine X.aload_n dX5_moves_0 rfl ?_
  refine X.getR (b := 51) (kf := 7) dX5_moves_1 (hM.1 44 (by decide) (by decide)) (by decide) (by decide) rfl wf_X5_30 (hM.2 7 (by decide)) ?_
  refine X.iload_n dX5_moves_4 rfl ?_
  refine X.iald dX5_moves_5 (hM.1 51 (by decide) (by decide)) (rfl) (hc) (by decide) ?_
  refine X.aload_n dX5_moves_6 rfl ?_
  refine X.getR (b := 52) (kf := 8) dX5_moves_7 (hM.1 44 (by decide) (by decide)) (by decide) (by decide) rfl wf_X5_33 (hM.2 8 (by decide)) ?_
  refine X.iload_n dX5_moves_10 rfl ?_
  refine X.iald dX5_moves_11 (hM.1 52 (by decide) (by decide)) (rfl) (hc) (by decide) ?_
  refine X.iadd dX5_moves_12 ?_
  refine X.istore_n dX5_moves_13 (Nat.le_of_ble_eq_true rfl) ?_
  refine X.aload_n dX5_moves_14 rfl ?_
  refine X.getR (b := 53) (kf := 9) dX5_moves_15 (hM.1 44 (by decide) (by decide)) (by decide) (by decide) rfl wf_X5_36 (hM.2 9 (by decide)) ?_
  refine X.iload_n dX5_moves_18 rfl ?_
  refine X.zald dX5_moves_19 (hM.1 53 (by decide) (by decide)) (rfl) (hc) (by decide) ?_
  refine X.if_eq_f (tgt := 94) dX5_moves_20 (by decide) (hl) ?_
  refine X.aload_n dX5_moves_23 rfl ?_
  refine X.iload_n dX5_moves_24 rfl ?_
  refine X.cV1i (k' := kX5_noTape) dX5_moves_25 (hM.1 44 (by decide) (by decide)) ⟨by decide, rfl⟩ v_X5_noTape wm_X5_102 wi_X5_noTape ws_X5_noTape ⟨Nat.le_of_ble_eq_true rfl, Nat.le_of_ble_eq_true rfl⟩ n_X5_noTape (Nat.le_of_ble_eq_true rfl) ?_
  refine m_noTape hM hc ?_
  refine ⟨_, rfl, ?_⟩
  refine X.istore_n dX5_moves_28 (Nat.le_of_ble_eq_true rfl) ?_
  refine X.iload_n dX5_moves_29 rfl ?_
  refine X.if_ne_t (tgt := 49) dX5_moves_30 (by decide) (nI_neq (b := 0) h0 (by have := noTapeM_le μ c; omega) (by decide)) ?_
  refine X.iload_n dX5_moves_49 rfl ?_
  refine X.if_le_f (tgt := 63) dX5_moves_50 (by decide) (fun q => h0 (nI_le0 q (by have := noTapeM_le μ c; omega))) ?_
  refine X.aload_n dX5_moves_53 rfl ?_
  refine X.bipush (v := 100) dX5_moves_54 (by decide) ?_
  refine X.iload_n dX5_moves_56 rfl ?_
  refine X.iadd dX5_moves_57 ?_
  refine X.iload_n dX5_moves_58 rfl ?_
  refine X.cV2v (k' := kX5_fails) dX5_moves_59 (hM.1 44 (by decide) (by decide)) ⟨by decide, rfl⟩ v_X5_fails wm_X5_178 wi_X5_fails ws_X5_fails ⟨Nat.le_of_ble_eq_true rfl, Nat.le_of_ble_eq_true rfl⟩ n_X5_fails (Nat.le_of_ble_eq_true rfl) ?_
  refine m_fails hM hf (by have := noTapeM_le μ c; omega) ?_
  refine ⟨rfl, ?_⟩
  refine X.retv dX5_moves_62 ⟨trivial, ?_⟩
  unfold moveM at hq
  rw [if_neg hl, if_neg (by rw [en]; exact h0), en] at hq
  exact hq
set_option maxRecDepth 100000 in
set_option maxHeartbeats 4000000 in
theorem m_moves3 {c : Nat} {μ : xM} {Q : Option Value → xM → Prop} (hM : ShM μ) (hw : WFt μ) (hf : WFf μ) (hc : c < 16) (hl : ¬ mI μ 53 c = 0) (h0 : noTapeM μ c = 0) (hz : sz μ (tp μ c) = 0) (hq : Q none (moveM μ c)) : Mt kX5_moves [.ref 44, .int (nI c)] μ Q := by
  obtain ⟨ht, et⟩ := hw.1 c hc h0
  obtain ⟨⟨ek, lk⟩, es, ls⟩ := hw.2.1 _ ht
  have en : noMoveM μ c = 4 := by unfold noMoveM; rw [if_pos h0, if_pos hz]
  refine Mt.enter rfl (Nat.le_of_ble_eq_true rfl) ?_
  refine X.aload_n dX5_moves_0 rfl ?_
  refine X.getR (b := 51) (kf := 7) dX5_moves_1 (hM.1 44 (by decide) (by decide)) (by decide) (by decide) rfl wf_X5_30 (hM.2 7 (by decide)) ?_
  refine X.iload_n dX5_moves_4 rfl ?_
  refine X.iald dX5_moves_5 (hM.1 51 (by decide) (by decide)) (rfl) (hc) (by decide) ?_
  refine X.aload_n dX5_moves_6 rfl ?_
  refine X.getR (b := 52) (kf := 8) dX5_moves_7 (hM.1 44 (by decide) (by decide)) (by decide) (by decide) rfl wf_X5_33 (hM.2 8 (by decide)) ?_
  refine X.iload_n dX5_moves_10 rfl ?_
  refine X.iald dX5_moves_11 (hM.1 52 (by decide) (by decide)) (rfl) (hc) (by decide) ?_
  refine X.iadd dX5_moves_12 ?_
  refine X.istore_n dX5_moves_13 (Nat.le_of_ble_eq_true rfl) ?_
  refine X.aload_n dX5_moves_14 rfl ?_
  refine X.getR (b := 53) (kf := 9) dX5_moves_15 (hM.1 44 (by decide) (by decide)) (by decide) (by decide) rfl wf_X5_36 (hM.2 9 (by decide)) ?_
  refine X.iload_n dX5_moves_18 rfl ?_
  refine X.zald dX5_moves_19 (hM.1 53 (by decide) (by decide)) (rfl) (hc) (by decide) ?_
  refine X.if_eq_f (tgt := 94) dX5_moves_20 (by decide) (hl) ?_
  refine X.aload_n dX5_moves_23 rfl ?_
  refine X.iload_n dX5_moves_24 rfl ?_
  refine X.cV1i (k' := kX5_noTape) dX5_moves_25 (hM.1 44 (by decide) (by decide)) ⟨by decide, rfl⟩ v_X5_noTape wm_X5_102 wi_X5_noTape ws_X5_noTape ⟨Nat.le_of_ble_eq_true rfl, Nat.le_of_ble_eq_true rfl⟩ n_X5_noTape (Nat.le_of_ble_eq_true rfl) ?_
  refine m_noTape hM hc ?_
  refine ⟨_, rfl, ?_⟩
  refine X.istore_n dX5_moves_28 (Nat.le_of_ble_eq_true rfl) ?_
  refine X.iload_n dX5_moves_29 rfl ?_
  refine X.if_ne_f (tgt := 49) dX5_moves_30 (by decide) ((by rw [h0]; rfl)) ?_
  refine X.aload_n dX5_moves_33 rfl ?_
  refine X.getR (b := 46) (kf := 1) dX5_moves_34 (hM.1 44 (by decide) (by decide)) (by decide) (by decide) rfl wf_X5_13 (hM.2 1 (by decide)) ?_
  refine X.aload_n dX5_moves_37 rfl ?_
  refine X.getR (b := 50) (kf := 6) dX5_moves_38 (hM.1 44 (by decide) (by decide)) (by decide) (by decide) rfl wf_X5_27 (hM.2 6 (by decide)) ?_
  refine X.iload_n dX5_moves_41 rfl ?_
  refine X.iald dX5_moves_42 (hM.1 50 (by decide) (by decide)) (rfl) (hc) (by decide) ?_
  refine X.iald dX5_moves_43 (hM.1 46 (by decide) (by decide)) (et) (ht) (by decide) ?_
  refine X.if_ne_f (tgt := 49) dX5_moves_44 (by decide) ((by rw [es, hz]; rfl)) ?_
  refine X.iconst (v := 4) dX5_moves_47 (by decide) ?_
  refine X.istore_n dX5_moves_48 (Nat.le_of_ble_eq_true rfl) ?_
  refine X.iload_n dX5_moves_49 rfl ?_
  refine X.if_le_f (tgt := 63) dX5_moves_50 (by decide) ((by decide)) ?_
  refine X.aload_n dX5_moves_53 rfl ?_
  refine X.bipush (v := 100) dX5_moves_54 (by decide) ?_
  refine X.iload_n dX5_moves_56 rfl ?_
  refine X.iadd dX5_moves_57 ?_
  refine X.iload_n dX5_moves_58 rfl ?_
  refine X.cV2v (k' := kX5_fails) dX5_moves_59 (hM.1 44 (by decide) (by decide)) ⟨by decide, rfl⟩ v_X5_fails wm_X5_178 wi_X5_fails ws_X5_fails ⟨Nat.le_of_ble_eq_true rfl, Nat.le_of_ble_eq_true rfl⟩ n_X5_fails (Nat.le_of_ble_eq_true rfl) ?_
  refine m_fails (h := 4) hM hf (by decide) ?_
  refine ⟨rfl, ?_⟩
  refine X.retv dX5_moves_62 ⟨trivial, ?_⟩
  unfold moveM at hq
  rw [if_neg hl, if_neg (by rw [en]; decide), en] at hq
  exact hq
set_option maxRecDepth 100000 in
set_option maxHeartbeats 4000000 in
theorem m_moves4 {c : Nat} {μ : xM} {Q : Option Value → xM → Prop} (hM : ShM μ) (hw : WFt μ) (hf : WFf μ) (hc : c < 16) (hl : ¬ mI μ 53 c = 0) (h0 : noTapeM μ c = 0) (hz : ¬ sz μ (tp μ c) = 0) (hq : Q none (moveM μ c)) : Mt kX5_moves [.ref 44, .int (nI c)] μ Q := by
  obtain ⟨ht, et⟩ := hw.1 c hc h0
  obtain ⟨⟨ek, lk⟩, es, ls⟩ := hw.2.1 _ ht
  have en : noMoveM μ c = 0 := by unfold noMoveM; rw [if_pos h0, if_neg hz]
  refine Mt.enter rfl (Nat.le_of_ble_eq_true rfl) ?_
  refine X.aload_n dX5_moves_0 rfl ?_
  refine X.getR (b := 51) (kf := 7) dX5_moves_1 (hM.1 44 (by decide) (by decide)) (by decide) (by decide) rfl wf_X5_30 (hM.2 7 (by decide)) ?_
  refine X.iload_n dX5_moves_4 rfl ?_
  refine X.iald dX5_moves_5 (hM.1 51 (by decide) (by decide)) (rfl) (hc) (by decide) ?_
  refine X.aload_n dX5_moves_6 rfl ?_
  refine X.getR (b := 52) (kf := 8) dX5_moves_7 (hM.1 44 (by decide) (by decide)) (by decide) (by decide) rfl wf_X5_33 (hM.2 8 (by decide)) ?_
  refine X.iload_n dX5_moves_10 rfl ?_
  refine X.iald dX5_moves_11 (hM.1 52 (by decide) (by decide)) (rfl) (hc) (by decide) ?_
  refine X.iadd dX5_moves_12 ?_
  refine X.istore_n dX5_moves_13 (Nat.le_of_ble_eq_true rfl) ?_
  refine X.aload_n dX5_moves_14 rfl ?_
  refine X.getR (b := 53) (kf := 9) dX5_moves_15 (hM.1 44 (by decide) (by decide)) (by decide) (by decide) rfl wf_X5_36 (hM.2 9 (by decide)) ?_
  refine X.iload_n dX5_moves_18 rfl ?_
  refine X.zald dX5_moves_19 (hM.1 53 (by decide) (by decide)) (rfl) (hc) (by decide) ?_
  refine X.if_eq_f (tgt := 94) dX5_moves_20 (by decide) (hl) ?_
  refine X.aload_n dX5_moves_23 rfl ?_
  refine X.iload_n dX5_moves_24 rfl ?_
  refine X.cV1i (k' := kX5_noTape) dX5_moves_25 (hM.1 44 (by decide) (by decide)) ⟨by decide, rfl⟩ v_X5_noTape wm_X5_102 wi_X5_noTape ws_X5_noTape ⟨Nat.le_of_ble_eq_true rfl, Nat.le_of_ble_eq_true rfl⟩ n_X5_noTape (Nat.le_of_ble_eq_true rfl) ?_
  refine m_noTape hM hc ?_
  refine ⟨_, rfl, ?_⟩
  refine X.istore_n dX5_moves_28 (Nat.le_of_ble_eq_true rfl) ?_
  refine X.iload_n dX5_moves_29 rfl ?_
  refine X.if_ne_f (tgt := 49) dX5_moves_30 (by decide) ((by rw [h0]; rfl)) ?_
  refine X.aload_n dX5_moves_33 rfl ?_
  refine X.getR (b := 46) (kf := 1) dX5_moves_34 (hM.1 44 (by decide) (by decide)) (by decide) (by decide) rfl wf_X5_13 (hM.2 1 (by decide)) ?_
  refine X.aload_n dX5_moves_37 rfl ?_
  refine X.getR (b := 50) (kf := 6) dX5_moves_38 (hM.1 44 (by decide) (by decide)) (by decide) (by decide) rfl wf_X5_27 (hM.2 6 (by decide)) ?_
  refine X.iload_n dX5_moves_41 rfl ?_
  refine X.iald dX5_moves_42 (hM.1 50 (by decide) (by decide)) (rfl) (hc) (by decide) ?_
  refine X.iald dX5_moves_43 (hM.1 46 (by decide) (by decide)) (et) (ht) (by decide) ?_
  refine X.if_ne_t (tgt := 49) dX5_moves_44 (by decide) ((by rw [es]; exact nI_neq (b := 0) hz (by omega) (by decide))) ?_
  refine X.iload_n dX5_moves_49 rfl ?_
  refine X.if_le_t (tgt := 63) dX5_moves_50 (by decide) ((by rw [h0]; decide)) ?_
  refine X.aload_n dX5_moves_63 rfl ?_
  refine X.getR (b := 46) (kf := 1) dX5_moves_64 (hM.1 44 (by decide) (by decide)) (by decide) (by decide) rfl wf_X5_13 (hM.2 1 (by decide)) ?_
  refine X.aload_n dX5_moves_67 rfl ?_
  refine X.getR (b := 50) (kf := 6) dX5_moves_68 (hM.1 44 (by decide) (by decide)) (by decide) (by decide) rfl wf_X5_27 (hM.2 6 (by decide)) ?_
  refine X.iload_n dX5_moves_71 rfl ?_
  refine X.iald dX5_moves_72 (hM.1 50 (by decide) (by decide)) (rfl) (hc) (by decide) ?_
  refine X.iald dX5_moves_73 (hM.1 46 (by decide) (by decide)) (et) (ht) (by decide) ?_
  refine X.istore dX5_moves_74 (Nat.le_of_ble_eq_true rfl) ?_
  refine X.iload_n dX5_moves_76 rfl ?_
  refine X.iload dX5_moves_77 rfl ?_
  refine X.irem dX5_moves_79 (by show ¬ mI μ 46 (tp μ c) = 0; rw [es]; exact nI_neq (b := 0) hz (by omega) (by decide)) ?_
  refine X.istore_n dX5_moves_80 (Nat.le_of_ble_eq_true rfl) ?_
  refine X.iload_n dX5_moves_81 rfl ?_
  refine X.if_ge (tgt := 92) dX5_moves_82 (by decide) (fun c82 => ?_) (fun c82 => ?_)
  · refine X.iload_n dX5_moves_92 rfl ?_
    refine X.istore_n dX5_moves_93 (Nat.le_of_ble_eq_true rfl) ?_
    refine X.aload_n dX5_moves_94 rfl ?_
    refine X.getR (b := 51) (kf := 7) dX5_moves_95 (hM.1 44 (by decide) (by decide)) (by decide) (by decide) rfl wf_X5_30 (hM.2 7 (by decide)) ?_
    refine X.iload_n dX5_moves_98 rfl ?_
    refine X.iload_n dX5_moves_99 rfl ?_
    refine X.iast dX5_moves_100 (hM.1 51 (by decide) (by decide)) (rfl) (hc) (by decide) ?_
    refine X.retv dX5_moves_101 ⟨trivial, ?_⟩
    unfold moveM at hq
    rw [if_neg hl, if_pos en] at hq
    unfold fmodM at hq
    first
      | (rw [if_pos c82] at hq; exact hq)
      | (rw [if_neg c82] at hq; exact hq)
  · refine X.iload_n dX5_moves_85 rfl ?_
    refine X.iload dX5_moves_86 rfl ?_
    refine X.iadd dX5_moves_88 ?_
    refine X.goto (tgt := 93) dX5_moves_89 (by decide) ?_
    refine X.istore_n dX5_moves_93 (Nat.le_of_ble_eq_true rfl) ?_
    refine X.aload_n dX5_moves_94 rfl ?_
    refine X.getR (b := 51) (kf := 7) dX5_moves_95 (hM.1 44 (by decide) (by decide)) (by decide) (by decide) rfl wf_X5_30 (hM.2 7 (by decide)) ?_
    refine X.iload_n dX5_moves_98 rfl ?_
    refine X.iload_n dX5_moves_99 rfl ?_
    refine X.iast dX5_moves_100 (hM.1 51 (by decide) (by decide)) (rfl) (hc) (by decide) ?_
    refine X.retv dX5_moves_101 ⟨trivial, ?_⟩
    unfold moveM at hq
    rw [if_neg hl, if_pos en] at hq
    unfold fmodM at hq
    first
      | (rw [if_pos c82] at hq; exact hq)
      | (rw [if_neg c82] at hq; exact hq)
theorem m_moves {c : Nat} {μ : xM} {Q : Option Value → xM → Prop} (hM : ShM μ) (hw : WFt μ) (hf : WFf μ) (hc : c < 16) (hq : Q none (moveM μ c)) : Mt kX5_moves [.ref 44, .int (nI c)] μ Q := by
  by_cases hl : mI μ 53 c = 0
  · exact m_moves1 hM hw hf hc hl hq
  · by_cases h0 : noTapeM μ c = 0
    · by_cases hz : sz μ (tp μ c) = 0
      · exact m_moves3 hM hw hf hc hl h0 hz hq
      · exact m_moves4 hM hw hf hc hl h0 hz hq
    · exact m_moves2 hM hw hf hc hl h0 hq
