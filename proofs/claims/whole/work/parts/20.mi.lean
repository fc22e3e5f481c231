/-! the reference: tick (laid by wip/whole/mkmodel9.py) -/
def calmM (μ : xM) (k : Nat) (a b : Int32) : xM := sI (sI (sI μ 59 k 0) 61 k (mI μ 61 k + a)) 60 k (mI μ 60 k + b)
def strikeM (μ : xM) (k : Nat) : xM := sI (sI μ 59 k (mI μ 59 k + 1)) 57 k (if mI μ 59 k + 1 = mI μ 58 k then 0 else 1)
def cabM (μ : xM) (k : Nat) : xM := if mI μ 57 k = 0 then μ else if noCarryM μ k = 6 then calmM (carryM μ k) k 1 0 else if noCarryM μ k = 0 then calmM (carryM μ k) k 0 1 else strikeM (failM (carryM μ k) (nI k) (noCarryM μ k)) k
def cntM (μ : xM) (k : Nat) : Int32 := if mI μ 57 k = 0 then 0 else if noCarryM μ k = 0 then 1 else 0
def cabsM (μ : xM) : Nat → xM
  | 0 => μ
  | k + 1 => cabM (cabsM μ k) k
def cntsM (μ : xM) : Nat → Int32
  | 0 => 0
  | k + 1 => cntsM μ k + cntM (cabsM μ k) k
def mvsM (μ : xM) : Nat → xM
  | 0 => μ
  | c + 1 => moveM (mvsM μ c) c
def WFm (μ : xM) (B : Nat) : Prop := ShM μ ∧ WFt μ ∧ WFc μ ∧ mI μ 44 20 = nI (fM μ) ∧ fM μ ≤ B
theorem WFm.f {μ : xM} {B : Nat} (h : WFm μ B) (hB : B < 2 ^ 30) : WFf μ := ⟨h.2.2.2.1, Nat.lt_of_le_of_lt h.2.2.2.2 hB⟩
theorem WFm.up {μ : xM} {B B' : Nat} (h : WFm μ B) (hB : B ≤ B') : WFm μ B' := ⟨h.1, h.2.1, h.2.2.1, h.2.2.2.1, Nat.le_trans h.2.2.2.2 hB⟩
theorem WFm.carry {μ : xM} {B : Nat} (h : WFm μ B) {k : Nat} (hk : k < qM μ) : WFm (carryM μ k) B := by
  have hw := h.2.1.carry h.2.2.1 hk
  obtain ⟨w, e⟩ := carry_form μ k
  rw [e] at hw ⊢
  exact ⟨h.1, hw, h.2.2.1, h.2.2.2.1, h.2.2.2.2⟩
theorem fM_fail {μ : xM} {B : Nat} (h : WFm μ B) (hB : B < 2 ^ 30) (who : Int32) (x : Nat) : mI (failM μ who x) 44 20 = nI (fM (failM μ who x)) ∧ fM (failM μ who x) = fM μ + 1 := by
  have e : mI (failM μ who x) 44 20 = mI μ 44 20 + 1 := rfl
  have e2 : mI (failM μ who x) 44 20 = nI (fM μ + 1) := by rw [e, h.2.2.2.1, nI_1]
  have e3 : fM (failM μ who x) = fM μ + 1 := by
    have := h.2.2.2.2
    unfold fM at e2 ⊢
    rw [e2, nI_clamp]
    unfold fM at this
    omega
  exact ⟨by rw [e3]; exact e2, e3⟩
theorem WFm.fail {μ : xM} {B : Nat} (h : WFm μ B) (hB : B < 2 ^ 30) (who : Int32) (x : Nat) : WFm (failM μ who x) (B + 1) := by
  obtain ⟨e1, e2⟩ := fM_fail h hB who x
  exact ⟨h.1, h.2.1, h.2.2.1, e1, by rw [e2]; have := h.2.2.2.2; omega⟩
theorem WFm.calm {μ : xM} {B : Nat} (h : WFm μ B) (k : Nat) (a b : Int32) : WFm (calmM μ k a b) B := ⟨h.1, h.2.1, h.2.2.1, h.2.2.2.1, h.2.2.2.2⟩
theorem WFm.strike {μ : xM} {B : Nat} (h : WFm μ B) (k : Nat) : WFm (strikeM μ k) B := ⟨h.1, h.2.1, h.2.2.1, h.2.2.2.1, h.2.2.2.2⟩
theorem WFm.cab {μ : xM} {B : Nat} (h : WFm μ B) (hB : B < 2 ^ 30) {k : Nat} (hk : k < qM μ) : WFm (cabM μ k) (B + 1) := by
  unfold cabM
  have hc := h.carry hk
  split
  · exact h.up (by omega)
  · split
    · exact (hc.calm k 1 0).up (by omega)
    · split
      · exact (hc.calm k 0 1).up (by omega)
      · exact (hc.fail hB (nI k) (noCarryM μ k)).strike k
theorem WFm.move {μ : xM} {B : Nat} (h : WFm μ B) (hB : B < 2 ^ 30) (c : Nat) : WFm (moveM μ c) (B + 1) := by
  unfold moveM
  split
  · exact WFm.up (B := B) ⟨h.1, h.2.1, h.2.2.1, h.2.2.2.1, h.2.2.2.2⟩ (by omega)
  · split
    · exact WFm.up (B := B) ⟨h.1, h.2.1, h.2.2.1, h.2.2.2.1, h.2.2.2.2⟩ (by omega)
    · exact h.fail hB _ _
theorem qM_cab (μ : xM) (k : Nat) : qM (cabM μ k) = qM μ := by
  obtain ⟨w, e⟩ := carry_form μ k
  unfold cabM
  rw [e]
  split
  · rfl
  · split
    · rfl
    · split <;> rfl
theorem qM_cabs (μ : xM) : ∀ k, qM (cabsM μ k) = qM μ
  | 0 => rfl
  | k + 1 => by rw [show cabsM μ (k + 1) = cabM (cabsM μ k) k from rfl, qM_cab, qM_cabs μ k]
theorem WFm.cabs {μ : xM} {B : Nat} (h : WFm μ B) (hB : B + 24 < 2 ^ 30) : ∀ k, k ≤ qM μ → WFm (cabsM μ k) (B + k)
  | 0, _ => h
  | k + 1, hk => by
    have hq := h.2.2.1.1.2
    exact (h.cabs hB k (by omega)).cab (by omega) (by rw [qM_cabs]; omega)
theorem WFm.mvs {μ : xM} {B : Nat} (h : WFm μ B) (hB : B + 16 < 2 ^ 30) : ∀ c, c ≤ 16 → WFm (mvsM μ c) (B + c)
  | 0, _ => h
  | c + 1, hc => (h.mvs hB c (by omega)).move (by omega) c
theorem rC_pos {n : Nat} (h6 : n ≠ 6) : rC n = nI n := by unfold rC; rw [if_neg h6]
set_option maxRecDepth 100000 in
set_option maxHeartbeats 4000000 in
theorem tk0 {ν : xM} {Q : Option Value → xM → Prop} {B k : Nat} {n : Int32} (h : WFm ν B) (hB : B < 2 ^ 30) (hk : k < qM ν) (hin : mI ν 57 k = 0) (K : X kX5_tick none 141 (xl [(0, .ref 44), (1, .int (n + cntM ν k)), (2, .int (nI k))]) [] (cabM ν k) Q) : X kX5_tick none 22 (xl [(0, .ref 44), (1, .int n), (2, .int (nI k))]) [] ν Q := by
  obtain ⟨hM, hw, hcb, -⟩ := id h
  have hq24 := hcb.1.2
  have hk24 : k < 24 := by omega
  obtain ⟨w, ew⟩ := carry_form ν k
  unfold cntM cabM at K
  rw [if_pos hin, if_pos hin, Int32.add_zero] at K
  refine X.aload_n dX5_tick_22 rfl ?_
  refine X.getR (b := 57) (kf := 14) dX5_tick_23 (hM.1 44 (by decide) (by decide)) (by decide) (by decide) rfl wf_X5_48 (hM.2 14 (by decide)) ?_
  refine X.iload_n dX5_tick_26 rfl ?_
  refine X.zald dX5_tick_27 (hM.1 57 (by decide) (by decide)) (rfl) (hk24) (by decide) ?_
  refine X.if_eq_t (tgt := 141) dX5_tick_28 (by decide) (hin) ?_
  exact X.at [(0, .ref 44), (1, .int n), (2, .int (nI k))] ⟨rfl, rfl, rfl, trivial⟩ K
set_option maxRecDepth 100000 in
set_option maxHeartbeats 4000000 in
theorem tk6 {ν : xM} {Q : Option Value → xM → Prop} {B k : Nat} {n : Int32} (h : WFm ν B) (hB : B < 2 ^ 30) (hk : k < qM ν) (hin : ¬ mI ν 57 k = 0) (h6 : noCarryM ν k = 6) (K : X kX5_tick none 141 (xl [(0, .ref 44), (1, .int (n + cntM ν k)), (2, .int (nI k))]) [] (cabM ν k) Q) : X kX5_tick none 22 (xl [(0, .ref 44), (1, .int n), (2, .int (nI k))]) [] ν Q := by
  obtain ⟨hM, hw, hcb, -⟩ := id h
  have hq24 := hcb.1.2
  have hk24 : k < 24 := by omega
  obtain ⟨w, ew⟩ := carry_form ν k
  have hr : rC (noCarryM ν k) = -1 := by rw [h6]; rfl
  unfold cntM cabM at K
  rw [if_neg hin, if_neg hin, if_pos h6, if_neg (by omega), ew] at K
  refine X.aload_n dX5_tick_22 rfl ?_
  refine X.getR (b := 57) (kf := 14) dX5_tick_23 (hM.1 44 (by decide) (by decide)) (by decide) (by decide) rfl wf_X5_48 (hM.2 14 (by decide)) ?_
  refine X.iload_n dX5_tick_26 rfl ?_
  refine X.zald dX5_tick_27 (hM.1 57 (by decide) (by decide)) (rfl) (hk24) (by decide) ?_
  refine X.if_eq_f (tgt := 141) dX5_tick_28 (by decide) (hin) ?_
  refine X.aload_n dX5_tick_31 rfl ?_
  refine X.iload_n dX5_tick_32 rfl ?_
  refine X.cV1i (k' := kX5_carries) dX5_tick_33 (hM.1 44 (by decide) (by decide)) ⟨by decide, rfl⟩ v_X5_carries wm_X5_182 wi_X5_carries ws_X5_carries ⟨Nat.le_of_ble_eq_true rfl, Nat.le_of_ble_eq_true rfl⟩ n_X5_carries (Nat.le_of_ble_eq_true rfl) ?_
  refine m_carries hM hw hcb hk ?_
  rw [hr, ew]
  refine ⟨_, rfl, ?_⟩
  refine X.istore_n dX5_tick_36 (Nat.le_of_ble_eq_true rfl) ?_
  refine X.iload_n dX5_tick_37 rfl ?_
  refine X.if_le_t (tgt := 86) dX5_tick_38 (by decide) ((by decide)) ?_
  refine X.aload_n dX5_tick_86 rfl ?_
  refine X.getR (b := 59) (kf := 16) dX5_tick_87 (hM.1 44 (by decide) (by decide)) (by decide) (by decide) rfl wf_X5_54 (hM.2 16 (by decide)) ?_
  refine X.iload_n dX5_tick_90 rfl ?_
  refine X.iconst (v := 0) dX5_tick_91 (by decide) ?_
  refine X.iast dX5_tick_92 (hM.1 59 (by decide) (by decide)) (rfl) (hk24) (by decide) ?_
  refine X.aload_n dX5_tick_93 rfl ?_
  refine X.getR (b := 61) (kf := 18) dX5_tick_94 (hM.1 44 (by decide) (by decide)) (by decide) (by decide) rfl wf_X5_60 (hM.2 18 (by decide)) ?_
  refine X.iload_n dX5_tick_97 rfl ?_
  refine X.dup2 dX5_tick_98 ?_
  refine X.iald dX5_tick_99 (hM.1 61 (by decide) (by decide)) (rfl) (hk24) (by decide) ?_
  refine X.iload_n dX5_tick_100 rfl ?_
  refine X.if_ge_f (tgt := 108) dX5_tick_101 (by decide) ((by decide)) ?_
  refine X.iconst (v := 1) dX5_tick_104 (by decide) ?_
  refine X.goto (tgt := 109) dX5_tick_105 (by decide) ?_
  refine X.iadd dX5_tick_109 ?_
  refine X.iast dX5_tick_110 (hM.1 61 (by decide) (by decide)) (rfl) (hk24) (by decide) ?_
  refine X.aload_n dX5_tick_111 rfl ?_
  refine X.getR (b := 60) (kf := 17) dX5_tick_112 (hM.1 44 (by decide) (by decide)) (by decide) (by decide) rfl wf_X5_57 (hM.2 17 (by decide)) ?_
  refine X.iload_n dX5_tick_115 rfl ?_
  refine X.dup2 dX5_tick_116 ?_
  refine X.iald dX5_tick_117 (hM.1 60 (by decide) (by decide)) (rfl) (hk24) (by decide) ?_
  refine X.iload_n dX5_tick_118 rfl ?_
  refine X.if_ge_f (tgt := 126) dX5_tick_119 (by decide) ((by decide)) ?_
  refine X.iconst (v := 0) dX5_tick_122 (by decide) ?_
  refine X.goto (tgt := 127) dX5_tick_123 (by decide) ?_
  refine X.iadd dX5_tick_127 ?_
  refine X.iast dX5_tick_128 (hM.1 60 (by decide) (by decide)) (rfl) (hk24) (by decide) ?_
  refine X.iload_n dX5_tick_129 rfl ?_
  refine X.iload_n dX5_tick_130 rfl ?_
  refine X.if_ge_f (tgt := 138) dX5_tick_131 (by decide) ((by decide)) ?_
  refine X.iconst (v := 0) dX5_tick_134 (by decide) ?_
  refine X.goto (tgt := 139) dX5_tick_135 (by decide) ?_
  refine X.iadd dX5_tick_139 ?_
  refine X.istore_n dX5_tick_140 (Nat.le_of_ble_eq_true rfl) ?_
  exact X.at [(0, .ref 44), (1, .int (n + 0)), (2, .int (nI k))] ⟨rfl, rfl, rfl, trivial⟩ K
set_option maxRecDepth 100000 in
set_option maxHeartbeats 4000000 in
theorem tk1 {ν : xM} {Q : Option Value → xM → Prop} {B k : Nat} {n : Int32} (h : WFm ν B) (hB : B < 2 ^ 30) (hk : k < qM ν) (hin : ¬ mI ν 57 k = 0) (h0 : noCarryM ν k = 0) (K : X kX5_tick none 141 (xl [(0, .ref 44), (1, .int (n + cntM ν k)), (2, .int (nI k))]) [] (cabM ν k) Q) : X kX5_tick none 22 (xl [(0, .ref 44), (1, .int n), (2, .int (nI k))]) [] ν Q := by
  obtain ⟨hM, hw, hcb, -⟩ := id h
  have hq24 := hcb.1.2
  have hk24 : k < 24 := by omega
  obtain ⟨w, ew⟩ := carry_form ν k
  have hr : rC (noCarryM ν k) = 0 := by rw [h0]; rfl
  unfold cntM cabM at K
  have h6 : ¬ noCarryM ν k = 6 := by omega
  rw [if_neg hin, if_neg hin, if_neg h6, if_pos h0, if_pos h0, ew] at K
  refine X.aload_n dX5_tick_22 rfl ?_
  refine X.getR (b := 57) (kf := 14) dX5_tick_23 (hM.1 44 (by decide) (by decide)) (by decide) (by decide) rfl wf_X5_48 (hM.2 14 (by decide)) ?_
  refine X.iload_n dX5_tick_26 rfl ?_
  refine X.zald dX5_tick_27 (hM.1 57 (by decide) (by decide)) (rfl) (hk24) (by decide) ?_
  refine X.if_eq_f (tgt := 141) dX5_tick_28 (by decide) (hin) ?_
  refine X.aload_n dX5_tick_31 rfl ?_
  refine X.iload_n dX5_tick_32 rfl ?_
  refine X.cV1i (k' := kX5_carries) dX5_tick_33 (hM.1 44 (by decide) (by decide)) ⟨by decide, rfl⟩ v_X5_carries wm_X5_182 wi_X5_carries ws_X5_carries ⟨Nat.le_of_ble_eq_true rfl, Nat.le_of_ble_eq_true rfl⟩ n_X5_carries (Nat.le_of_ble_eq_true rfl) ?_
  refine m_carries hM hw hcb hk ?_
  rw [hr, ew]
  refine ⟨_, rfl, ?_⟩
  refine X.istore_n dX5_tick_36 (Nat.le_of_ble_eq_true rfl) ?_
  refine X.iload_n dX5_tick_37 rfl ?_
  refine X.if_le_t (tgt := 86) dX5_tick_38 (by decide) ((by decide)) ?_
  refine X.aload_n dX5_tick_86 rfl ?_
  refine X.getR (b := 59) (kf := 16) dX5_tick_87 (hM.1 44 (by decide) (by decide)) (by decide) (by decide) rfl wf_X5_54 (hM.2 16 (by decide)) ?_
  refine X.iload_n dX5_tick_90 rfl ?_
  refine X.iconst (v := 0) dX5_tick_91 (by decide) ?_
  refine X.iast dX5_tick_92 (hM.1 59 (by decide) (by decide)) (rfl) (hk24) (by decide) ?_
  refine X.aload_n dX5_tick_93 rfl ?_
  refine X.getR (b := 61) (kf := 18) dX5_tick_94 (hM.1 44 (by decide) (by decide)) (by decide) (by decide) rfl wf_X5_60 (hM.2 18 (by decide)) ?_
  refine X.iload_n dX5_tick_97 rfl ?_
  refine X.dup2 dX5_tick_98 ?_
  refine X.iald dX5_tick_99 (hM.1 61 (by decide) (by decide)) (rfl) (hk24) (by decide) ?_
  refine X.iload_n dX5_tick_100 rfl ?_
  refine X.if_ge_t (tgt := 108) dX5_tick_101 (by decide) ((by decide)) ?_
  refine X.iconst (v := 0) dX5_tick_108 (by decide) ?_
  refine X.iadd dX5_tick_109 ?_
  refine X.iast dX5_tick_110 (hM.1 61 (by decide) (by decide)) (rfl) (hk24) (by decide) ?_
  refine X.aload_n dX5_tick_111 rfl ?_
  refine X.getR (b := 60) (kf := 17) dX5_tick_112 (hM.1 44 (by decide) (by decide)) (by decide) (by decide) rfl wf_X5_57 (hM.2 17 (by decide)) ?_
  refine X.iload_n dX5_tick_115 rfl ?_
  refine X.dup2 dX5_tick_116 ?_
  refine X.iald dX5_tick_117 (hM.1 60 (by decide) (by decide)) (rfl) (hk24) (by decide) ?_
  refine X.iload_n dX5_tick_118 rfl ?_
  refine X.if_ge_t (tgt := 126) dX5_tick_119 (by decide) ((by decide)) ?_
  refine X.iconst (v := 1) dX5_tick_126 (by decide) ?_
  refine X.iadd dX5_tick_127 ?_
  refine X.iast dX5_tick_128 (hM.1 60 (by decide) (by decide)) (rfl) (hk24) (by decide) ?_
  refine X.iload_n dX5_tick_129 rfl ?_
  refine X.iload_n dX5_tick_130 rfl ?_
  refine X.if_ge_t (tgt := 138) dX5_tick_131 (by decide) ((by decide)) ?_
  refine X.iconst (v := 1) dX5_tick_138 (by decide) ?_
  refine X.iadd dX5_tick_139 ?_
  refine X.istore_n dX5_tick_140 (Nat.le_of_ble_eq_true rfl) ?_
  exact X.at [(0, .ref 44), (1, .int (n + 1)), (2, .int (nI k))] ⟨rfl, rfl, rfl, trivial⟩ K
set_option maxRecDepth 100000 in
set_option maxHeartbeats 4000000 in
theorem tk2 {ν : xM} {Q : Option Value → xM → Prop} {B k : Nat} {n : Int32} (h : WFm ν B) (hB : B < 2 ^ 30) (hk : k < qM ν) (hin : ¬ mI ν 57 k = 0) (h6 : ¬ noCarryM ν k = 6) (h0 : ¬ noCarryM ν k = 0) (K : X kX5_tick none 141 (xl [(0, .ref 44), (1, .int (n + cntM ν k)), (2, .int (nI k))]) [] (cabM ν k) Q) : X kX5_tick none 22 (xl [(0, .ref 44), (1, .int n), (2, .int (nI k))]) [] ν Q := by
  obtain ⟨hM, hw, hcb, -⟩ := id h
  have hq24 := hcb.1.2
  have hk24 : k < 24 := by omega
  obtain ⟨w, ew⟩ := carry_form ν k
  have hle := noCarry_le ν k
  have hr : rC (noCarryM ν k) = nI (noCarryM ν k) := rC_pos h6
  have hcar := h.carry hk
  unfold cntM cabM at K
  rw [if_neg hin, if_neg hin, if_neg h6, if_neg h0, if_neg h0, Int32.add_zero, ew] at K
  rw [ew] at hcar
  refine X.aload_n dX5_tick_22 rfl ?_
  refine X.getR (b := 57) (kf := 14) dX5_tick_23 (hM.1 44 (by decide) (by decide)) (by decide) (by decide) rfl wf_X5_48 (hM.2 14 (by decide)) ?_
  refine X.iload_n dX5_tick_26 rfl ?_
  refine X.zald dX5_tick_27 (hM.1 57 (by decide) (by decide)) (rfl) (hk24) (by decide) ?_
  refine X.if_eq_f (tgt := 141) dX5_tick_28 (by decide) (hin) ?_
  refine X.aload_n dX5_tick_31 rfl ?_
  refine X.iload_n dX5_tick_32 rfl ?_
  refine X.cV1i (k' := kX5_carries) dX5_tick_33 (hM.1 44 (by decide) (by decide)) ⟨by decide, rfl⟩ v_X5_carries wm_X5_182 wi_X5_carries ws_X5_carries ⟨Nat.le_of_ble_eq_true rfl, Nat.le_of_ble_eq_true rfl⟩ n_X5_carries (Nat.le_of_ble_eq_true rfl) ?_
  refine m_carries hM hw hcb hk ?_
  rw [hr, ew]
  refine ⟨_, rfl, ?_⟩
  refine X.istore_n dX5_tick_36 (Nat.le_of_ble_eq_true rfl) ?_
  refine X.iload_n dX5_tick_37 rfl ?_
  refine X.if_le_f (tgt := 86) dX5_tick_38 (by decide) (fun q => h0 (nI_le0 q (by omega))) ?_
  refine X.aload_n dX5_tick_41 rfl ?_
  refine X.iload_n dX5_tick_42 rfl ?_
  refine X.iload_n dX5_tick_43 rfl ?_
  refine X.cV2v (k' := kX5_fails) dX5_tick_44 (hM.1 44 (by decide) (by decide)) ⟨by decide, rfl⟩ v_X5_fails wm_X5_178 wi_X5_fails ws_X5_fails ⟨Nat.le_of_ble_eq_true rfl, Nat.le_of_ble_eq_true rfl⟩ n_X5_fails (Nat.le_of_ble_eq_true rfl) ?_
  refine m_fails hM (hcar.f hB) (by omega) ?_
  refine ⟨rfl, ?_⟩
  refine X.aload_n dX5_tick_47 rfl ?_
  refine X.getR (b := 59) (kf := 16) dX5_tick_48 (hM.1 44 (by decide) (by decide)) (by decide) (by decide) rfl wf_X5_54 (hM.2 16 (by decide)) ?_
  refine X.iload_n dX5_tick_51 rfl ?_
  refine X.dup2 dX5_tick_52 ?_
  refine X.iald dX5_tick_53 (hM.1 59 (by decide) (by decide)) (rfl) (hk24) (by decide) ?_
  refine X.iconst (v := 1) dX5_tick_54 (by decide) ?_
  refine X.iadd dX5_tick_55 ?_
  refine X.iast dX5_tick_56 (hM.1 59 (by decide) (by decide)) (rfl) (hk24) (by decide) ?_
  refine X.aload_n dX5_tick_57 rfl ?_
  refine X.getR (b := 57) (kf := 14) dX5_tick_58 (hM.1 44 (by decide) (by decide)) (by decide) (by decide) rfl wf_X5_48 (hM.2 14 (by decide)) ?_
  refine X.iload_n dX5_tick_61 rfl ?_
  refine X.aload_n dX5_tick_62 rfl ?_
  refine X.getR (b := 59) (kf := 16) dX5_tick_63 (hM.1 44 (by decide) (by decide)) (by decide) (by decide) rfl wf_X5_54 (hM.2 16 (by decide)) ?_
  refine X.iload_n dX5_tick_66 rfl ?_
  refine X.iald dX5_tick_67 (hM.1 59 (by decide) (by decide)) (rfl) (hk24) (by decide) ?_
  refine X.aload_n dX5_tick_68 rfl ?_
  refine X.getR (b := 58) (kf := 15) dX5_tick_69 (hM.1 44 (by decide) (by decide)) (by decide) (by decide) rfl wf_X5_51 (hM.2 15 (by decide)) ?_
  refine X.iload_n dX5_tick_72 rfl ?_
  refine X.iald dX5_tick_73 (hM.1 58 (by decide) (by decide)) (rfl) (hk24) (by decide) ?_
  refine X.icmp_eq (tgt := 81) dX5_tick_74 (by decide) (fun c74 => ?_) (fun c74 => ?_)
  · refine X.iconst (v := 0) dX5_tick_81 (by decide) ?_
    refine X.zast dX5_tick_82 (hM.1 57 (by decide) (by decide)) (rfl) (hk24) (by decide) (by first | exact Or.inl rfl | exact Or.inr rfl) ?_
    refine X.goto (tgt := 141) dX5_tick_83 (by decide) ?_
    unfold strikeM at K
    rw [mI_sI, up2_s, up2_a _ _ (show (58 : Nat) ≠ 59 by decide)] at c74
    first
      | (rw [if_pos c74] at K; exact X.at [(0, .ref 44), (1, .int n), (2, .int (nI k))] ⟨rfl, rfl, rfl, trivial⟩ K)
      | (rw [if_neg c74] at K; exact X.at [(0, .ref 44), (1, .int n), (2, .int (nI k))] ⟨rfl, rfl, rfl, trivial⟩ K)
  · refine X.iconst (v := 1) dX5_tick_77 (by decide) ?_
    refine X.goto (tgt := 82) dX5_tick_78 (by decide) ?_
    refine X.zast dX5_tick_82 (hM.1 57 (by decide) (by decide)) (rfl) (hk24) (by decide) (by first | exact Or.inl rfl | exact Or.inr rfl) ?_
    refine X.goto (tgt := 141) dX5_tick_83 (by decide) ?_
    unfold strikeM at K
    rw [mI_sI, up2_s, up2_a _ _ (show (58 : Nat) ≠ 59 by decide)] at c74
    first
      | (rw [if_pos c74] at K; exact X.at [(0, .ref 44), (1, .int n), (2, .int (nI k))] ⟨rfl, rfl, rfl, trivial⟩ K)
      | (rw [if_neg c74] at K; exact X.at [(0, .ref 44), (1, .int n), (2, .int (nI k))] ⟨rfl, rfl, rfl, trivial⟩ K)
theorem tkc {ν : xM} {Q : Option Value → xM → Prop} {B k : Nat} {n : Int32} (h : WFm ν B) (hB : B < 2 ^ 30) (hk : k < qM ν) (K : X kX5_tick none 141 (xl [(0, .ref 44), (1, .int (n + cntM ν k)), (2, .int (nI k))]) [] (cabM ν k) Q) : X kX5_tick none 22 (xl [(0, .ref 44), (1, .int n), (2, .int (nI k))]) [] ν Q := by
  by_cases hin : mI ν 57 k = 0
  · exact tk0 h hB hk hin K
  · by_cases h6 : noCarryM ν k = 6
    · exact tk6 h hB hk hin h6 K
    · by_cases h0 : noCarryM ν k = 0
      · exact tk1 h hB hk hin h0 K
      · exact tk2 h hB hk hin h6 h0 K
set_option maxRecDepth 100000 in
set_option maxHeartbeats 4000000 in
theorem tkl {μ : xM} {Q : Option Value → xM → Prop} {B : Nat} (h : WFm μ B) (hB : B + 24 < 2 ^ 30) (K : X kX5_tick none 147 (xl [(0, .ref 44), (1, .int (cntsM μ (qM μ)))]) [] (cabsM μ (qM μ)) Q) : ∀ (n k : Nat), k + n = qM μ → X kX5_tick none 14 (xl [(0, .ref 44), (1, .int (cntsM μ k)), (2, .int (nI k))]) [] (cabsM μ k) Q := by
  have hq24 := h.2.2.1.1.2
  intro n
  induction n with
  | zero =>
    intro k hk
    obtain rfl : k = qM μ := by omega
    have hk2 := h.cabs hB (qM μ) (Nat.le_refl _)
    have hM := hk2.1
    have eq10 := hk2.2.2.1.1.1
    rw [qM_cabs] at eq10
    refine X.iload_n dX5_tick_14 rfl ?_
    refine X.aload_n dX5_tick_15 rfl ?_
    refine X.getI (kf := 10) dX5_tick_16 (hM.1 44 (by decide) (by decide)) (by decide) (by decide) rfl wf_X5_79 ?_
    refine X.icmp_ge_t (tgt := 147) dX5_tick_19 (by decide) ((by rw [eq10]; exact nI_le (Nat.le_refl _) (by omega))) ?_
    exact X.at [(0, .ref 44), (1, .int (cntsM μ (qM μ)))] ⟨rfl, rfl, trivial⟩ K
  | succ n ih =>
    intro k hk
    have hk2 := h.cabs hB k (by omega)
    have hM := hk2.1
    have eq10 := hk2.2.2.1.1.1
    rw [qM_cabs] at eq10
    refine X.iload_n dX5_tick_14 rfl ?_
    refine X.aload_n dX5_tick_15 rfl ?_
    refine X.getI (kf := 10) dX5_tick_16 (hM.1 44 (by decide) (by decide)) (by decide) (by decide) rfl wf_X5_79 ?_
    refine X.icmp_ge_f (tgt := 147) dX5_tick_19 (by decide) ((by rw [eq10]; exact nI_ge (by omega) (by omega))) ?_
    refine X.at [(0, .ref 44), (1, .int (cntsM μ k)), (2, .int (nI k))] ⟨rfl, rfl, rfl, trivial⟩ ?_
    refine tkc hk2 (by omega) (by rw [qM_cabs]; omega) ?_
    refine X.iinc1 dX5_tick_141 rfl (Nat.le_of_ble_eq_true rfl) ?_
    refine X.goto (tgt := 14) dX5_tick_144 (by decide) ?_
    exact X.at [(0, .ref 44), (1, .int (cntsM μ (k + 1))), (2, .int (nI (k + 1)))] ⟨rfl, rfl, iN k, trivial⟩ (ih (k + 1) (by omega))
set_option maxRecDepth 100000 in
set_option maxHeartbeats 4000000 in
theorem tkm {μ : xM} {Q : Option Value → xM → Prop} {B : Nat} {n : Int32} (h : WFm μ B) (hB : B + 16 < 2 ^ 30) (K : Q (some (.int n)) (mvsM μ 16)) : ∀ (m c : Nat), c + m = 16 → X kX5_tick none 149 (xl [(0, .ref 44), (1, .int n), (2, .int (nI c))]) [] (mvsM μ c) (fun r μ' => xrok kX5_tick.2.2.2.1 r ∧ Q r μ') := by
  intro m
  induction m with
  | zero =>
    intro c hc
    obtain rfl : c = 16 := by omega
    refine X.iload_n dX5_tick_149 rfl ?_
    refine X.bipush (v := 16) dX5_tick_150 (by decide) ?_
    refine X.icmp_ge_t (tgt := 166) dX5_tick_152 (by decide) ((by decide)) ?_
    refine X.iload_n dX5_tick_166 rfl ?_
    refine X.ret dX5_tick_167 ⟨trivial, ?_⟩
    exact K
  | succ m ih =>
    intro c hc
    have hk2 := h.mvs hB c (by omega)
    have hM := hk2.1
    refine X.iload_n dX5_tick_149 rfl ?_
    refine X.bipush (v := 16) dX5_tick_150 (by decide) ?_
    refine X.icmp_ge_f (tgt := 166) dX5_tick_152 (by decide) (nI_ge (a := c) (b := 16) (by omega) (by decide)) ?_
    refine X.aload_n dX5_tick_155 rfl ?_
    refine X.iload_n dX5_tick_156 rfl ?_
    refine X.cV1v (k' := kX5_moves) dX5_tick_157 (hM.1 44 (by decide) (by decide)) ⟨by decide, rfl⟩ v_X5_moves wm_X5_185 wi_X5_moves ws_X5_moves ⟨Nat.le_of_ble_eq_true rfl, Nat.le_of_ble_eq_true rfl⟩ n_X5_moves (Nat.le_of_ble_eq_true rfl) ?_
    refine m_moves hM hk2.2.1 (hk2.f (by omega)) (by omega) ?_
    refine ⟨rfl, ?_⟩
    refine X.iinc1 dX5_tick_160 rfl (Nat.le_of_ble_eq_true rfl) ?_
    refine X.goto (tgt := 149) dX5_tick_163 (by decide) ?_
    exact X.at [(0, .ref 44), (1, .int n), (2, .int (nI (c + 1)))] ⟨rfl, rfl, iN c, trivial⟩ (ih (c + 1) (by omega))
def timeM (μ : xM) : xM := sI μ 44 19 (mI μ 44 19 + 1)
def tickM (μ : xM) : xM := mvsM (cabsM (timeM μ) (qM μ)) 16
theorem WFm.time {μ : xM} {B : Nat} (h : WFm μ B) : WFm (timeM μ) B := ⟨h.1, h.2.1, h.2.2.1, h.2.2.2.1, h.2.2.2.2⟩
set_option maxRecDepth 100000 in
set_option maxHeartbeats 4000000 in
theorem m_tick {B : Nat} {μ : xM} {Q : Option Value → xM → Prop} (h : WFm μ B) (hB : B + 40 < 2 ^ 30) (hq : Q (some (.int (cntsM (timeM μ) (qM μ)))) (tickM μ)) : Mt kX5_tick [.ref 44] μ Q := by
  have hM := h.1
  refine Mt.enter rfl (Nat.le_of_ble_eq_true rfl) ?_
  refine X.aload_n dX5_tick_0 rfl ?_
  refine X.dup dX5_tick_1 ?_
  refine X.getI (kf := 19) dX5_tick_2 (hM.1 44 (by decide) (by decide)) (by decide) (by decide) rfl wf_X5_175 ?_
  refine X.iconst (v := 1) dX5_tick_5 (by decide) ?_
  refine X.iadd dX5_tick_6 ?_
  refine X.putI (kf := 19) dX5_tick_7 (hM.1 44 (by decide) (by decide)) (by decide) (by decide) rfl (Or.inl rfl) ⟨rfl, rfl⟩ wf_X5_175 ?_
  refine X.iconst (v := 0) dX5_tick_10 (by decide) ?_
  refine X.istore_n dX5_tick_11 (Nat.le_of_ble_eq_true rfl) ?_
  refine X.iconst (v := 0) dX5_tick_12 (by decide) ?_
  refine X.istore_n dX5_tick_13 (Nat.le_of_ble_eq_true rfl) ?_
  have ht := h.time
  refine X.at [(0, .ref 44), (1, .int (cntsM (timeM μ) 0)), (2, .int (nI 0))] ⟨rfl, rfl, rfl, trivial⟩ ?_
  refine tkl ht (by omega) ?_ (qM (timeM μ)) 0 (by omega)
  refine X.iconst (v := 0) dX5_tick_147 (by decide) ?_
  refine X.istore_n dX5_tick_148 (Nat.le_of_ble_eq_true rfl) ?_
  refine X.at [(0, .ref 44), (1, .int (cntsM (timeM μ) (qM (timeM μ)))), (2, .int (nI 0))] ⟨rfl, rfl, rfl, trivial⟩ ?_
  have hq24 := ht.2.2.1.1.2
  exact tkm (ht.cabs (by omega) (qM (timeM μ)) (Nat.le_refl _)) (by omega) hq 16 0 (by omega)
