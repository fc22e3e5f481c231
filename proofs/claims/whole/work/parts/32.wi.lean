/-! the class: what a cable carries (laid by wip/whole/mkpb4.py) -/
theorem nI_z {n : Nat} (h : nI n = 0) (hn : n < 2 ^ 31) : n = 0 := by
  rcases Nat.eq_zero_or_pos n with e | e
  · exact e
  · exact absurd h (nI_ne0 e hn)
theorem Rel.keep {ρ ν μ : xM} {φ κ : Nat → Nat} {B : Nat × Nat × Nat × (Nat → Prop)} (h : Rel ρ ν μ φ κ B) : Rel ρ ν μ φ κ (B.1, B.2.1, B.2.2.1, lvE ν B.2.2.2) := by
  obtain ⟨h1, h2, h3, h4, h5, h6, h7, h8⟩ := h
  have e : ∀ t, lvE ν (lvE ν B.2.2.2) t → lvE ν B.2.2.2 t := fun t q => q.elim Or.inl (fun q => q.1)
  exact ⟨h1, h2, h3, h4, h5, ⟨fun t q => h6.1 t (e t q), fun t t' q q' => h6.2.1 t t' (e t q) (e t' q'), h6.2.2⟩, h7, h8⟩
theorem Rel.drop {ρ ν μ : xM} {φ κ : Nat → Nat} {B : Nat × Nat × Nat × (Nat → Prop)} {E : Nat → Prop} (h : Rel ρ ν μ φ κ (B.1, B.2.1, B.2.2.1, E)) (hE : ∀ t, B.2.2.2 t → t < 560 → E t) : Rel ρ ν μ φ κ B := by
  obtain ⟨h1, h2, h3, h4, h5, h6, h7, h8⟩ := h
  have e : ∀ t, lvE ν B.2.2.2 t → lvE ν E t := fun t q => q.elim Or.inl (fun q => Or.inr ⟨hE t q.1 q.2, q.2⟩)
  exact ⟨h1, h2, h3, h4, h5, ⟨fun t q => h6.1 t (e t q), fun t t' q q' => h6.2.1 t t' (e t q) (e t' q'), h6.2.2⟩, h7, h8⟩
theorem CellR.kept {ρ ν μ : xM} {φ κ : Nat → Nat} {B : Nat × Nat × Nat × (Nat → Prop)} (h : Rel ρ ν μ φ κ B) {K : Nat} {v num : Int64} {r : Option Nat} (hc : CellR ν φ B.2.2.2 K v num r) {ν1 : xM} (e : mI ν1 = mI ν) : CellR ν1 φ (lvE ν B.2.2.2) K v num r := by
  have eg : gM ν1 = gM ν := by unfold gM; rw [e]
  have ek : ∀ t, kd ν1 t = kd ν t := fun t => by unfold kd; rw [e]
  unfold CellR
  rw [eg, e, ek]
  rcases hc with a | a | ⟨a1, a2, a3, a4, a5, a6, a7, a8⟩ | a
  · exact Or.inl a
  · exact Or.inr (Or.inl a)
  · exact Or.inr (Or.inr (Or.inl ⟨a1, a2, a3, a4, a5, a6, Or.inr ⟨a7, lvE_lt h.wt a7⟩, a8⟩))
  · exact Or.inr (Or.inr (Or.inr a))
theorem noWrite_eq {ν : xM} {c : Nat} {i : Int32} {K : Nat} (h : noPlaceM ν c i = 0) : noWriteM ν c i K = noTakeM (kd ν (tp ν c)) K := by
  unfold noWriteM
  rw [if_pos (noPlace_0 h).1]
  by_cases q : kd ν (tp ν c) < 8 ∧ K = 11
  · rw [if_pos q]
    unfold noTakeM
    cases e : takesM (kd ν (tp ν c)) K with
    | true => have := takes_lt q.1 e; omega
    | false => rfl
  · rw [if_neg q, if_pos h]
theorem sJ_back (ν : xM) (p : Nat) (w : Int64) : sJ (sJ ν 48 p w) 48 p (mJ ν 48 p) = ν := by
  have e : up2 (up2 (mJ ν) 48 p w) 48 p (mJ ν 48 p) = mJ ν := by
    funext b j
    by_cases q : b = 48 ∧ j = p
    · unfold up2; rw [if_pos q, q.1, q.2]
    · unfold up2; rw [if_neg q, if_neg q]
  show (mT ν, mI ν, up2 (up2 (mJ ν) 48 p w) 48 p (mJ ν 48 p), mR ν, mN ν, mS ν) = ν
  rw [e]
  rfl
set_option maxRecDepth 100000 in
set_option maxHeartbeats 4000000 in
theorem c_wire_o1 {c d : Nat} {i j : Int32} {ρ ν μ : xM} {φ κ : Nat → Nat} {B : Nat × Nat × Nat × (Nat → Prop)} {Q : Option Value → xM → Prop} (hR : Rel ρ ν μ φ κ B) (hc : c < 16) (hd : d < 16) (hz : ¬ noPlaceM ν c i = 0) (hq : Q (some (.int (nI (noPlaceM ν c i)))) μ) : Mt kX4_wire [.ref 1, .ref (28 + c), .int i, .ref (28 + d), .int j] μ Q := by
  have hB := hR.2.1
  refine Mt.enter rfl (Nat.le_of_ble_eq_true rfl) ?_
  refine X.aload_n dX4_wire_0 rfl ?_
  refine X.iload_n dX4_wire_1 rfl ?_
  refine X.aload_n dX4_wire_2 rfl ?_
  refine X.getR (b := 26) (kf := 9) dX4_wire_3 (hB.1 1 (by decide) (by decide)) (by decide) (by decide) rfl wf_X4_49 (hB.2.1 9 (by decide)) ?_
  refine X.cV2i (k' := kX2_read) dX4_wire_6 ((hB.2.2.1 c hc).1) ⟨by decide, rfl⟩ v_X2_read wm_X4_123 wi_X2_read ws_X2_read ⟨Nat.le_of_ble_eq_true rfl, Nat.le_of_ble_eq_true rfl⟩ n_X2_read (Nat.le_of_ble_eq_true rfl) ?_
  refine c_read_o hR hc hz ?_
  refine ⟨_, rfl, ?_⟩
  refine X.istore dX4_wire_9 (Nat.le_of_ble_eq_true rfl) ?_
  refine X.iload dX4_wire_11 rfl ?_
  refine X.if_eq_f (tgt := 21) dX4_wire_13 (by decide) ((fun q => hz (nI_z q (by have := noPlace_le ν c i; omega)))) ?_
  refine X.iload dX4_wire_16 rfl ?_
  refine X.goto (tgt := 31) dX4_wire_18 (by decide) ?_
  refine X.ret dX4_wire_31 ⟨trivial, ?_⟩
  exact hq
set_option maxRecDepth 100000 in
set_option maxHeartbeats 4000000 in
theorem c_wire_o2 {c d : Nat} {i j : Int32} {ρ ν μ : xM} {φ κ : Nat → Nat} {B : Nat × Nat × Nat × (Nat → Prop)} {Q : Option Value → xM → Prop} (hR : Rel ρ ν μ φ κ B) (hc : c < 16) (hd : d < 16) (hz : noPlaceM ν c i = 0) (hw2 : ¬ noWriteM ν d j (cellKindM ν (tp ν c) (ix i)) = 0) (hq : ∀ μ1, Rel ρ ν μ1 φ κ B → Q (some (.int (nI (noWriteM ν d j (cellKindM ν (tp ν c) (ix i)))))) μ1) : Mt kX4_wire [.ref 1, .ref (28 + c), .int i, .ref (28 + d), .int j] μ Q := by
  have hB := hR.2.1
  obtain ⟨h0c, -, -, hjc⟩ := noPlace_0 hz
  refine Mt.enter rfl (Nat.le_of_ble_eq_true rfl) ?_
  refine X.aload_n dX4_wire_0 rfl ?_
  refine X.iload_n dX4_wire_1 rfl ?_
  refine X.aload_n dX4_wire_2 rfl ?_
  refine X.getR (b := 26) (kf := 9) dX4_wire_3 (hB.1 1 (by decide) (by decide)) (by decide) (by decide) rfl wf_X4_49 (hB.2.1 9 (by decide)) ?_
  refine X.cV2i (k' := kX2_read) dX4_wire_6 ((hB.2.2.1 c hc).1) ⟨by decide, rfl⟩ v_X2_read wm_X4_123 wi_X2_read ws_X2_read ⟨Nat.le_of_ble_eq_true rfl, Nat.le_of_ble_eq_true rfl⟩ n_X2_read (Nat.le_of_ble_eq_true rfl) ?_
  refine c_read hR hc (Or.inl rfl) hz ?_
  refine ⟨_, rfl, ?_⟩
  have hC26 := hR.cellR hc h0c hjc
  have hR := hR.cell (Or.inl rfl) (nI (cellKindM ν (tp ν c) (ix i))) (numM ν (tp ν c) (ix i)) (tref ν φ (tp ν c) (ix i))
  have hB := hR.2.1
  refine X.istore dX4_wire_9 (Nat.le_of_ble_eq_true rfl) ?_
  refine X.iload dX4_wire_11 rfl ?_
  refine X.if_eq_t (tgt := 21) dX4_wire_13 (by decide) ((by decide)) ?_
  refine X.aload_n dX4_wire_21 rfl ?_
  refine X.iload dX4_wire_22 rfl ?_
  refine X.aload_n dX4_wire_24 rfl ?_
  refine X.getR (b := 26) (kf := 9) dX4_wire_25 (hB.1 1 (by decide) (by decide)) (by decide) (by decide) rfl wf_X4_49 (hB.2.1 9 (by decide)) ?_
  refine X.cV2i (k' := kX2_write) dX4_wire_28 ((hB.2.2.1 d hd).1) ⟨by decide, rfl⟩ v_X2_write wm_X4_119 wi_X2_write ws_X2_write ⟨Nat.le_of_ble_eq_true rfl, Nat.le_of_ble_eq_true rfl⟩ n_X2_write (Nat.le_of_ble_eq_true rfl) ?_
  refine c_write_o hR hd (Or.inl rfl) (K := (cellKindM ν (tp ν c) (ix i))) rfl (Nat.le_trans cellKind_le (by decide)) hw2 ?_
  refine ⟨_, rfl, ?_⟩
  refine X.ret dX4_wire_31 ⟨trivial, ?_⟩
  exact hq _ hR
set_option maxRecDepth 100000 in
set_option maxHeartbeats 4000000 in
theorem c_wire_in {c d : Nat} {i j : Int32} {ρ ν μ : xM} {φ κ : Nat → Nat} {B : Nat × Nat × Nat × (Nat → Prop)} {Q : Option Value → xM → Prop} (hR : Rel ρ ν μ φ κ B) (hc : c < 16) (hd : d < 16) (hz : noPlaceM ν c i = 0) (hw2 : noWriteM ν d j (cellKindM ν (tp ν c) (ix i)) = 0) (hq : ∀ μ1, Rel ρ (writesM ν d j (cellKindM ν (tp ν c) (ix i)) (cv ν (tp ν c) (ix i))) μ1 φ κ B → Q (some (.int (nI 0))) μ1) : Mt kX4_wire [.ref 1, .ref (28 + c), .int i, .ref (28 + d), .int j] μ Q := by
  have hB := hR.2.1
  obtain ⟨h0c, -, -, hjc⟩ := noPlace_0 hz
  refine Mt.enter rfl (Nat.le_of_ble_eq_true rfl) ?_
  refine X.aload_n dX4_wire_0 rfl ?_
  refine X.iload_n dX4_wire_1 rfl ?_
  refine X.aload_n dX4_wire_2 rfl ?_
  refine X.getR (b := 26) (kf := 9) dX4_wire_3 (hB.1 1 (by decide) (by decide)) (by decide) (by decide) rfl wf_X4_49 (hB.2.1 9 (by decide)) ?_
  refine X.cV2i (k' := kX2_read) dX4_wire_6 ((hB.2.2.1 c hc).1) ⟨by decide, rfl⟩ v_X2_read wm_X4_123 wi_X2_read ws_X2_read ⟨Nat.le_of_ble_eq_true rfl, Nat.le_of_ble_eq_true rfl⟩ n_X2_read (Nat.le_of_ble_eq_true rfl) ?_
  refine c_read hR hc (Or.inl rfl) hz ?_
  refine ⟨_, rfl, ?_⟩
  have hC26 := hR.cellR hc h0c hjc
  have hR := hR.cell (Or.inl rfl) (nI (cellKindM ν (tp ν c) (ix i))) (numM ν (tp ν c) (ix i)) (tref ν φ (tp ν c) (ix i))
  have hB := hR.2.1
  refine X.istore dX4_wire_9 (Nat.le_of_ble_eq_true rfl) ?_
  refine X.iload dX4_wire_11 rfl ?_
  refine X.if_eq_t (tgt := 21) dX4_wire_13 (by decide) ((by decide)) ?_
  refine X.aload_n dX4_wire_21 rfl ?_
  refine X.iload dX4_wire_22 rfl ?_
  refine X.aload_n dX4_wire_24 rfl ?_
  refine X.getR (b := 26) (kf := 9) dX4_wire_25 (hB.1 1 (by decide) (by decide)) (by decide) (by decide) rfl wf_X4_49 (hB.2.1 9 (by decide)) ?_
  refine X.cV2i (k' := kX2_write) dX4_wire_28 ((hB.2.2.1 d hd).1) ⟨by decide, rfl⟩ v_X2_write wm_X4_119 wi_X2_write ws_X2_write ⟨Nat.le_of_ble_eq_true rfl, Nat.le_of_ble_eq_true rfl⟩ n_X2_write (Nat.le_of_ble_eq_true rfl) ?_
  refine c_write hR hd (Or.inl rfl) (K := (cellKindM ν (tp ν c) (ix i))) (v := (cv ν (tp ν c) (ix i))) rfl (Nat.le_trans cellKind_le (by decide)) hC26 hw2 (fun μ1 hR1 hL1 => ?_)
  refine ⟨_, rfl, ?_⟩
  refine X.ret dX4_wire_31 ⟨trivial, ?_⟩
  exact hq _ hR1
theorem c_wire {c d : Nat} {i j : Int32} {ρ ν μ : xM} {φ κ : Nat → Nat} {B : Nat × Nat × Nat × (Nat → Prop)} {Q : Option Value → xM → Prop} (hR : Rel ρ ν μ φ κ B) (hc : c < 16) (hd : d < 16) (hq : ∀ μ1, Rel ρ (passM ν c i d j) μ1 φ κ B → Q (some (.int (nI (noPassM ν c i d j)))) μ1) : Mt kX4_wire [.ref 1, .ref (28 + c), .int i, .ref (28 + d), .int j] μ Q := by
  unfold noPassM passM at hq
  by_cases hz : noPlaceM ν c i = 0
  · rw [if_pos hz, if_pos hz] at hq
    by_cases hw2 : noWriteM ν d j (cellKindM ν (tp ν c) (ix i)) = 0
    · rw [hw2] at hq
      exact c_wire_in hR hc hd hz hw2 hq
    · unfold writesM at hq
      rw [if_neg hw2] at hq
      exact c_wire_o2 hR hc hd hz hw2 hq
  · rw [if_neg hz, if_neg hz] at hq
    exact c_wire_o1 hR hc hd hz (hq _ hR)
set_option maxRecDepth 100000 in
set_option maxHeartbeats 4000000 in
theorem c_gate_o1 {c d : Nat} {i j : Int32} {ρ ν μ : xM} {φ κ : Nat → Nat} {B : Nat × Nat × Nat × (Nat → Prop)} {Q : Option Value → xM → Prop} (hR : Rel ρ ν μ φ κ B) (hc : c < 16) (hd : d < 16) (hz : ¬ noPlaceM ν c i = 0) (hq : Q (some (.int (nI (noPlaceM ν c i)))) μ) : Mt kX4_gate [.ref 1, .ref (28 + c), .int i, .ref (28 + d), .int j] μ Q := by
  have hB := hR.2.1
  refine Mt.enter rfl (Nat.le_of_ble_eq_true rfl) ?_
  refine X.aload_n dX4_gate_0 rfl ?_
  refine X.iload_n dX4_gate_1 rfl ?_
  refine X.aload_n dX4_gate_2 rfl ?_
  refine X.getR (b := 26) (kf := 9) dX4_gate_3 (hB.1 1 (by decide) (by decide)) (by decide) (by decide) rfl wf_X4_49 (hB.2.1 9 (by decide)) ?_
  refine X.cV2i (k' := kX2_read) dX4_gate_6 ((hB.2.2.1 c hc).1) ⟨by decide, rfl⟩ v_X2_read wm_X4_123 wi_X2_read ws_X2_read ⟨Nat.le_of_ble_eq_true rfl, Nat.le_of_ble_eq_true rfl⟩ n_X2_read (Nat.le_of_ble_eq_true rfl) ?_
  refine c_read_o hR hc hz ?_
  refine ⟨_, rfl, ?_⟩
  refine X.istore dX4_gate_9 (Nat.le_of_ble_eq_true rfl) ?_
  refine X.iload dX4_gate_11 rfl ?_
  refine X.if_eq_f (tgt := 19) dX4_gate_13 (by decide) ((fun q => hz (nI_z q (by have := noPlace_le ν c i; omega)))) ?_
  refine X.iload dX4_gate_16 rfl ?_
  refine X.ret dX4_gate_18 ⟨trivial, ?_⟩
  exact hq
set_option maxRecDepth 100000 in
set_option maxHeartbeats 4000000 in
theorem c_gate_o2 {c d : Nat} {i j : Int32} {ρ ν μ : xM} {φ κ : Nat → Nat} {B : Nat × Nat × Nat × (Nat → Prop)} {Q : Option Value → xM → Prop} (hR : Rel ρ ν μ φ κ B) (hc : c < 16) (hd : d < 16) (hz : noPlaceM ν c i = 0) (hn : ¬ numM ν (tp ν c) (ix i) = 0) (hw2 : ¬ noWriteM ν d j (cellKindM ν (tp ν c) (ix i)) = 0) (hq : ∀ μ1, Rel ρ ν μ1 φ κ B → Q (some (.int (nI (noWriteM ν d j (cellKindM ν (tp ν c) (ix i)))))) μ1) : Mt kX4_gate [.ref 1, .ref (28 + c), .int i, .ref (28 + d), .int j] μ Q := by
  have hB := hR.2.1
  obtain ⟨h0c, -, -, hjc⟩ := noPlace_0 hz
  refine Mt.enter rfl (Nat.le_of_ble_eq_true rfl) ?_
  refine X.aload_n dX4_gate_0 rfl ?_
  refine X.iload_n dX4_gate_1 rfl ?_
  refine X.aload_n dX4_gate_2 rfl ?_
  refine X.getR (b := 26) (kf := 9) dX4_gate_3 (hB.1 1 (by decide) (by decide)) (by decide) (by decide) rfl wf_X4_49 (hB.2.1 9 (by decide)) ?_
  refine X.cV2i (k' := kX2_read) dX4_gate_6 ((hB.2.2.1 c hc).1) ⟨by decide, rfl⟩ v_X2_read wm_X4_123 wi_X2_read ws_X2_read ⟨Nat.le_of_ble_eq_true rfl, Nat.le_of_ble_eq_true rfl⟩ n_X2_read (Nat.le_of_ble_eq_true rfl) ?_
  refine c_read hR hc (Or.inl rfl) hz ?_
  refine ⟨_, rfl, ?_⟩
  have hC26 := hR.cellR hc h0c hjc
  have hR := hR.cell (Or.inl rfl) (nI (cellKindM ν (tp ν c) (ix i))) (numM ν (tp ν c) (ix i)) (tref ν φ (tp ν c) (ix i))
  have hB := hR.2.1
  refine X.istore dX4_gate_9 (Nat.le_of_ble_eq_true rfl) ?_
  refine X.iload dX4_gate_11 rfl ?_
  refine X.if_eq_t (tgt := 19) dX4_gate_13 (by decide) ((by decide)) ?_
  refine X.aload_n dX4_gate_19 rfl ?_
  refine X.getR (b := 26) (kf := 9) dX4_gate_20 (hB.1 1 (by decide) (by decide)) (by decide) (by decide) rfl wf_X4_49 (hB.2.1 9 (by decide)) ?_
  refine X.getJ (kf := 1) dX4_gate_23 (hB.1 26 (by decide) (by decide)) (by decide) (by decide) rfl wf_X4_136 ?_
  refine X.lconst (v := 0) dX4_gate_26 (by decide) ?_
  refine X.lcmp dX4_gate_27 ?_
  refine X.if_ne_t (tgt := 35) dX4_gate_28 (by decide) (lgc_ne hn) ?_
  refine X.aload_n dX4_gate_35 rfl ?_
  refine X.iload dX4_gate_36 rfl ?_
  refine X.aload_n dX4_gate_38 rfl ?_
  refine X.getR (b := 26) (kf := 9) dX4_gate_39 (hB.1 1 (by decide) (by decide)) (by decide) (by decide) rfl wf_X4_49 (hB.2.1 9 (by decide)) ?_
  refine X.cV2i (k' := kX2_write) dX4_gate_42 ((hB.2.2.1 d hd).1) ⟨by decide, rfl⟩ v_X2_write wm_X4_119 wi_X2_write ws_X2_write ⟨Nat.le_of_ble_eq_true rfl, Nat.le_of_ble_eq_true rfl⟩ n_X2_write (Nat.le_of_ble_eq_true rfl) ?_
  refine c_write_o hR hd (Or.inl rfl) (K := (cellKindM ν (tp ν c) (ix i))) rfl (Nat.le_trans cellKind_le (by decide)) hw2 ?_
  refine ⟨_, rfl, ?_⟩
  refine X.ret dX4_gate_45 ⟨trivial, ?_⟩
  exact hq _ hR
set_option maxRecDepth 100000 in
set_option maxHeartbeats 4000000 in
theorem c_gate_in {c d : Nat} {i j : Int32} {ρ ν μ : xM} {φ κ : Nat → Nat} {B : Nat × Nat × Nat × (Nat → Prop)} {Q : Option Value → xM → Prop} (hR : Rel ρ ν μ φ κ B) (hc : c < 16) (hd : d < 16) (hz : noPlaceM ν c i = 0) (hn : ¬ numM ν (tp ν c) (ix i) = 0) (hw2 : noWriteM ν d j (cellKindM ν (tp ν c) (ix i)) = 0) (hq : ∀ μ1, Rel ρ (writesM ν d j (cellKindM ν (tp ν c) (ix i)) (cv ν (tp ν c) (ix i))) μ1 φ κ B → Q (some (.int (nI 0))) μ1) : Mt kX4_gate [.ref 1, .ref (28 + c), .int i, .ref (28 + d), .int j] μ Q := by
  have hB := hR.2.1
  obtain ⟨h0c, -, -, hjc⟩ := noPlace_0 hz
  refine Mt.enter rfl (Nat.le_of_ble_eq_true rfl) ?_
  refine X.aload_n dX4_gate_0 rfl ?_
  refine X.iload_n dX4_gate_1 rfl ?_
  refine X.aload_n dX4_gate_2 rfl ?_
  refine X.getR (b := 26) (kf := 9) dX4_gate_3 (hB.1 1 (by decide) (by decide)) (by decide) (by decide) rfl wf_X4_49 (hB.2.1 9 (by decide)) ?_
  refine X.cV2i (k' := kX2_read) dX4_gate_6 ((hB.2.2.1 c hc).1) ⟨by decide, rfl⟩ v_X2_read wm_X4_123 wi_X2_read ws_X2_read ⟨Nat.le_of_ble_eq_true rfl, Nat.le_of_ble_eq_true rfl⟩ n_X2_read (Nat.le_of_ble_eq_true rfl) ?_
  refine c_read hR hc (Or.inl rfl) hz ?_
  refine ⟨_, rfl, ?_⟩
  have hC26 := hR.cellR hc h0c hjc
  have hR := hR.cell (Or.inl rfl) (nI (cellKindM ν (tp ν c) (ix i))) (numM ν (tp ν c) (ix i)) (tref ν φ (tp ν c) (ix i))
  have hB := hR.2.1
  refine X.istore dX4_gate_9 (Nat.le_of_ble_eq_true rfl) ?_
  refine X.iload dX4_gate_11 rfl ?_
  refine X.if_eq_t (tgt := 19) dX4_gate_13 (by decide) ((by decide)) ?_
  refine X.aload_n dX4_gate_19 rfl ?_
  refine X.getR (b := 26) (kf := 9) dX4_gate_20 (hB.1 1 (by decide) (by decide)) (by decide) (by decide) rfl wf_X4_49 (hB.2.1 9 (by decide)) ?_
  refine X.getJ (kf := 1) dX4_gate_23 (hB.1 26 (by decide) (by decide)) (by decide) (by decide) rfl wf_X4_136 ?_
  refine X.lconst (v := 0) dX4_gate_26 (by decide) ?_
  refine X.lcmp dX4_gate_27 ?_
  refine X.if_ne_t (tgt := 35) dX4_gate_28 (by decide) (lgc_ne hn) ?_
  refine X.aload_n dX4_gate_35 rfl ?_
  refine X.iload dX4_gate_36 rfl ?_
  refine X.aload_n dX4_gate_38 rfl ?_
  refine X.getR (b := 26) (kf := 9) dX4_gate_39 (hB.1 1 (by decide) (by decide)) (by decide) (by decide) rfl wf_X4_49 (hB.2.1 9 (by decide)) ?_
  refine X.cV2i (k' := kX2_write) dX4_gate_42 ((hB.2.2.1 d hd).1) ⟨by decide, rfl⟩ v_X2_write wm_X4_119 wi_X2_write ws_X2_write ⟨Nat.le_of_ble_eq_true rfl, Nat.le_of_ble_eq_true rfl⟩ n_X2_write (Nat.le_of_ble_eq_true rfl) ?_
  refine c_write hR hd (Or.inl rfl) (K := (cellKindM ν (tp ν c) (ix i))) (v := (cv ν (tp ν c) (ix i))) rfl (Nat.le_trans cellKind_le (by decide)) hC26 hw2 (fun μ1 hR1 hL1 => ?_)
  refine ⟨_, rfl, ?_⟩
  refine X.ret dX4_gate_45 ⟨trivial, ?_⟩
  exact hq _ hR1
theorem c_gate {c d : Nat} {i j : Int32} {ρ ν μ : xM} {φ κ : Nat → Nat} {B : Nat × Nat × Nat × (Nat → Prop)} {Q : Option Value → xM → Prop} (hR : Rel ρ ν μ φ κ B) (hc : c < 16) (hd : d < 16) (hn : noPlaceM ν c i = 0 → ¬ numM ν (tp ν c) (ix i) = 0) (hq : ∀ μ1, Rel ρ (passM ν c i d j) μ1 φ κ B → Q (some (.int (nI (noPassM ν c i d j)))) μ1) : Mt kX4_gate [.ref 1, .ref (28 + c), .int i, .ref (28 + d), .int j] μ Q := by
  unfold noPassM passM at hq
  by_cases hz : noPlaceM ν c i = 0
  · rw [if_pos hz, if_pos hz] at hq
    by_cases hw2 : noWriteM ν d j (cellKindM ν (tp ν c) (ix i)) = 0
    · rw [hw2] at hq
      exact c_gate_in hR hc hd hz (hn hz) hw2 hq
    · unfold writesM at hq
      rw [if_neg hw2] at hq
      exact c_gate_o2 hR hc hd hz (hn hz) hw2 hq
  · rw [if_neg hz, if_neg hz] at hq
    exact c_gate_o1 hR hc hd hz (hq _ hR)
set_option maxRecDepth 100000 in
set_option maxHeartbeats 4000000 in
theorem c_gate_s {c d : Nat} {i j : Int32} {ρ ν μ : xM} {φ κ : Nat → Nat} {B : Nat × Nat × Nat × (Nat → Prop)} {Q : Option Value → xM → Prop} (hR : Rel ρ ν μ φ κ B) (hc : c < 16) (hd : d < 16) (hz : noPlaceM ν c i = 0) (hn : numM ν (tp ν c) (ix i) = 0) (hq : ∀ μ1, Rel ρ ν μ1 φ κ B → Q (some (.int (-1))) μ1) : Mt kX4_gate [.ref 1, .ref (28 + c), .int i, .ref (28 + d), .int j] μ Q := by
  have hB := hR.2.1
  obtain ⟨h0c, -, -, hjc⟩ := noPlace_0 hz
  refine Mt.enter rfl (Nat.le_of_ble_eq_true rfl) ?_
  refine X.aload_n dX4_gate_0 rfl ?_
  refine X.iload_n dX4_gate_1 rfl ?_
  refine X.aload_n dX4_gate_2 rfl ?_
  refine X.getR (b := 26) (kf := 9) dX4_gate_3 (hB.1 1 (by decide) (by decide)) (by decide) (by decide) rfl wf_X4_49 (hB.2.1 9 (by decide)) ?_
  refine X.cV2i (k' := kX2_read) dX4_gate_6 ((hB.2.2.1 c hc).1) ⟨by decide, rfl⟩ v_X2_read wm_X4_123 wi_X2_read ws_X2_read ⟨Nat.le_of_ble_eq_true rfl, Nat.le_of_ble_eq_true rfl⟩ n_X2_read (Nat.le_of_ble_eq_true rfl) ?_
  refine c_read hR hc (Or.inl rfl) hz ?_
  refine ⟨_, rfl, ?_⟩
  have hC26 := hR.cellR hc h0c hjc
  have hR := hR.cell (Or.inl rfl) (nI (cellKindM ν (tp ν c) (ix i))) (numM ν (tp ν c) (ix i)) (tref ν φ (tp ν c) (ix i))
  have hB := hR.2.1
  refine X.istore dX4_gate_9 (Nat.le_of_ble_eq_true rfl) ?_
  refine X.iload dX4_gate_11 rfl ?_
  refine X.if_eq_t (tgt := 19) dX4_gate_13 (by decide) ((by decide)) ?_
  refine X.aload_n dX4_gate_19 rfl ?_
  refine X.getR (b := 26) (kf := 9) dX4_gate_20 (hB.1 1 (by decide) (by decide)) (by decide) (by decide) rfl wf_X4_49 (hB.2.1 9 (by decide)) ?_
  refine X.getJ (kf := 1) dX4_gate_23 (hB.1 26 (by decide) (by decide)) (by decide) (by decide) rfl wf_X4_136 ?_
  refine X.lconst (v := 0) dX4_gate_26 (by decide) ?_
  refine X.lcmp dX4_gate_27 ?_
  refine X.if_ne_f (tgt := 35) dX4_gate_28 (by decide) (lgc_eq hn) ?_
  refine X.iconst (v := -1) dX4_gate_31 (by decide) ?_
  refine X.goto (tgt := 45) dX4_gate_32 (by decide) ?_
  refine X.ret dX4_gate_45 ⟨trivial, ?_⟩
  exact hq _ hR
set_option maxRecDepth 100000 in
set_option maxHeartbeats 4000000 in
theorem c_pair_o {c d : Nat} {i j : Int32} {ρ ν μ : xM} {φ κ : Nat → Nat} {B : Nat × Nat × Nat × (Nat → Prop)} {Q : Option Value → xM → Prop} (hR : Rel ρ ν μ φ κ B) (hc : c < 16) (hd : d < 16) (hz : ¬ noPassM ν c i d j = 0) (hq : ∀ μ1, Rel ρ (passM ν c i d j) μ1 φ κ B → Q (some (.int (nI (noPassM ν c i d j)))) μ1) : Mt kX4_pair [.ref 1, .ref (28 + c), .int i, .ref (28 + d), .int j] μ Q := by
  have hB := hR.2.1
  refine Mt.enter rfl (Nat.le_of_ble_eq_true rfl) ?_
  refine X.aload_n dX4_pair_0 rfl ?_
  refine X.aload_n dX4_pair_1 rfl ?_
  refine X.iload_n dX4_pair_2 rfl ?_
  refine X.aload_n dX4_pair_3 rfl ?_
  refine X.iload dX4_pair_4 rfl ?_
  refine X.cV4i (k' := kX4_wire) dX4_pair_6 (hB.1 1 (by decide) (by decide)) ⟨by decide, rfl⟩ v_X4_wire wm_X4_176 wi_X4_wire ws_X4_wire ⟨Nat.le_of_ble_eq_true rfl, Nat.le_of_ble_eq_true rfl⟩ n_X4_wire (Nat.le_of_ble_eq_true rfl) ?_
  refine c_wire hR hc hd (fun μ1 hR1 => ?_)
  refine ⟨_, rfl, ?_⟩
  refine X.istore dX4_pair_9 (Nat.le_of_ble_eq_true rfl) ?_
  refine X.iload dX4_pair_11 rfl ?_
  refine X.if_eq_f (tgt := 21) dX4_pair_13 (by decide) ((fun q => hz (nI_z q (by have := noPass_le ν c i d j; omega)))) ?_
  refine X.iload dX4_pair_16 rfl ?_
  refine X.goto (tgt := 34) dX4_pair_18 (by decide) ?_
  refine X.ret dX4_pair_34 ⟨trivial, ?_⟩
  exact hq _ hR1
set_option maxRecDepth 100000 in
set_option maxHeartbeats 4000000 in
theorem c_pair_in {c d : Nat} {i j : Int32} {ρ ν μ : xM} {φ κ : Nat → Nat} {B : Nat × Nat × Nat × (Nat → Prop)} {Q : Option Value → xM → Prop} (hR : Rel ρ ν μ φ κ B) (hc : c < 16) (hd : d < 16) (hz : noPassM ν c i d j = 0) (hq : ∀ μ1, Rel ρ (passM (passM ν c i d j) c (i + 1) d (j + 1)) μ1 φ κ B → Q (some (.int (nI (noPassM (passM ν c i d j) c (i + 1) d (j + 1))))) μ1) : Mt kX4_pair [.ref 1, .ref (28 + c), .int i, .ref (28 + d), .int j] μ Q := by
  have hB := hR.2.1
  refine Mt.enter rfl (Nat.le_of_ble_eq_true rfl) ?_
  refine X.aload_n dX4_pair_0 rfl ?_
  refine X.aload_n dX4_pair_1 rfl ?_
  refine X.iload_n dX4_pair_2 rfl ?_
  refine X.aload_n dX4_pair_3 rfl ?_
  refine X.iload dX4_pair_4 rfl ?_
  refine X.cV4i (k' := kX4_wire) dX4_pair_6 (hB.1 1 (by decide) (by decide)) ⟨by decide, rfl⟩ v_X4_wire wm_X4_176 wi_X4_wire ws_X4_wire ⟨Nat.le_of_ble_eq_true rfl, Nat.le_of_ble_eq_true rfl⟩ n_X4_wire (Nat.le_of_ble_eq_true rfl) ?_
  refine c_wire hR hc hd (fun μ1 hR => ?_)
  have hB := hR.2.1
  refine ⟨_, rfl, ?_⟩
  refine X.istore dX4_pair_9 (Nat.le_of_ble_eq_true rfl) ?_
  refine X.iload dX4_pair_11 rfl ?_
  refine X.if_eq_t (tgt := 21) dX4_pair_13 (by decide) ((by rw [hz]; decide)) ?_
  refine X.aload_n dX4_pair_21 rfl ?_
  refine X.aload_n dX4_pair_22 rfl ?_
  refine X.iload_n dX4_pair_23 rfl ?_
  refine X.iconst (v := 1) dX4_pair_24 (by decide) ?_
  refine X.iadd dX4_pair_25 ?_
  refine X.aload_n dX4_pair_26 rfl ?_
  refine X.iload dX4_pair_27 rfl ?_
  refine X.iconst (v := 1) dX4_pair_29 (by decide) ?_
  refine X.iadd dX4_pair_30 ?_
  refine X.cV4i (k' := kX4_wire) dX4_pair_31 (hB.1 1 (by decide) (by decide)) ⟨by decide, rfl⟩ v_X4_wire wm_X4_176 wi_X4_wire ws_X4_wire ⟨Nat.le_of_ble_eq_true rfl, Nat.le_of_ble_eq_true rfl⟩ n_X4_wire (Nat.le_of_ble_eq_true rfl) ?_
  refine c_wire hR hc hd (fun μ2 hR => ?_)
  refine ⟨_, rfl, ?_⟩
  refine X.ret dX4_pair_34 ⟨trivial, ?_⟩
  exact hq _ hR
set_option maxRecDepth 100000 in
set_option maxHeartbeats 4000000 in
theorem c_swap_o1 {c d : Nat} {i j : Int32} {ρ ν μ : xM} {φ κ : Nat → Nat} {B : Nat × Nat × Nat × (Nat → Prop)} {Q : Option Value → xM → Prop} (hR : Rel ρ ν μ φ κ B) (hc : c < 16) (hd : d < 16) (hz : ¬ noPlaceM ν c i = 0) (hq : ∀ μ1, Rel ρ ν μ1 φ κ B → Q (some (.int (nI (noPlaceM ν c i)))) μ1) : Mt kX4_swap [.ref 1, .ref (28 + c), .int i, .ref (28 + d), .int j] μ Q := by
  have hB := hR.2.1
  refine Mt.enter rfl (Nat.le_of_ble_eq_true rfl) ?_
  refine X.aload_n dX4_swap_0 rfl ?_
  refine X.iload_n dX4_swap_1 rfl ?_
  refine X.aload_n dX4_swap_2 rfl ?_
  refine X.getR (b := 26) (kf := 9) dX4_swap_3 (hB.1 1 (by decide) (by decide)) (by decide) (by decide) rfl wf_X4_49 (hB.2.1 9 (by decide)) ?_
  refine X.cV2i (k' := kX2_read) dX4_swap_6 ((hB.2.2.1 c hc).1) ⟨by decide, rfl⟩ v_X2_read wm_X4_123 wi_X2_read ws_X2_read ⟨Nat.le_of_ble_eq_true rfl, Nat.le_of_ble_eq_true rfl⟩ n_X2_read (Nat.le_of_ble_eq_true rfl) ?_
  refine c_read_o hR hc hz ?_
  refine ⟨_, rfl, ?_⟩
  refine X.istore dX4_swap_9 (Nat.le_of_ble_eq_true rfl) ?_
  refine X.iload dX4_swap_11 rfl ?_
  refine X.if_ne_t (tgt := 28) dX4_swap_13 (by decide) ((fun q => hz (nI_z q (by have := noPlace_le ν c i; omega)))) ?_
  refine X.iload dX4_swap_28 rfl ?_
  refine X.if_ne_t (tgt := 45) dX4_swap_30 (by decide) ((fun q => hz (nI_z q (by have := noPlace_le ν c i; omega)))) ?_
  refine X.iload dX4_swap_45 rfl ?_
  refine X.if_eq_f (tgt := 53) dX4_swap_47 (by decide) ((fun q => hz (nI_z q (by have := noPlace_le ν c i; omega)))) ?_
  refine X.iload dX4_swap_50 rfl ?_
  refine X.ret dX4_swap_52 ⟨trivial, ?_⟩
  exact hq _ hR
set_option maxRecDepth 100000 in
set_option maxHeartbeats 4000000 in
theorem c_swap_o2 {c d : Nat} {i j : Int32} {ρ ν μ : xM} {φ κ : Nat → Nat} {B : Nat × Nat × Nat × (Nat → Prop)} {Q : Option Value → xM → Prop} (hR : Rel ρ ν μ φ κ B) (hc : c < 16) (hd : d < 16) (hz : noPlaceM ν c i = 0) (hz2 : ¬ noPlaceM ν d j = 0) (hq : ∀ μ1, Rel ρ ν μ1 φ κ B → Q (some (.int (nI (noPlaceM ν d j)))) μ1) : Mt kX4_swap [.ref 1, .ref (28 + c), .int i, .ref (28 + d), .int j] μ Q := by
  have hB := hR.2.1
  obtain ⟨h0c, -, -, hjc⟩ := noPlace_0 hz
  refine Mt.enter rfl (Nat.le_of_ble_eq_true rfl) ?_
  refine X.aload_n dX4_swap_0 rfl ?_
  refine X.iload_n dX4_swap_1 rfl ?_
  refine X.aload_n dX4_swap_2 rfl ?_
  refine X.getR (b := 26) (kf := 9) dX4_swap_3 (hB.1 1 (by decide) (by decide)) (by decide) (by decide) rfl wf_X4_49 (hB.2.1 9 (by decide)) ?_
  refine X.cV2i (k' := kX2_read) dX4_swap_6 ((hB.2.2.1 c hc).1) ⟨by decide, rfl⟩ v_X2_read wm_X4_123 wi_X2_read ws_X2_read ⟨Nat.le_of_ble_eq_true rfl, Nat.le_of_ble_eq_true rfl⟩ n_X2_read (Nat.le_of_ble_eq_true rfl) ?_
  refine c_read hR hc (Or.inl rfl) hz ?_
  refine ⟨_, rfl, ?_⟩
  have hC26 := hR.cellR hc h0c hjc
  have hR := hR.cell (Or.inl rfl) (nI (cellKindM ν (tp ν c) (ix i))) (numM ν (tp ν c) (ix i)) (tref ν φ (tp ν c) (ix i))
  have hB := hR.2.1
  refine X.istore dX4_swap_9 (Nat.le_of_ble_eq_true rfl) ?_
  refine X.iload dX4_swap_11 rfl ?_
  refine X.if_ne_f (tgt := 28) dX4_swap_13 (by decide) ((by decide)) ?_
  refine X.aload_n dX4_swap_16 rfl ?_
  refine X.iload dX4_swap_17 rfl ?_
  refine X.aload_n dX4_swap_19 rfl ?_
  refine X.getR (b := 27) (kf := 10) dX4_swap_20 (hB.1 1 (by decide) (by decide)) (by decide) (by decide) rfl wf_X4_53 (hB.2.1 10 (by decide)) ?_
  refine X.cV2i (k' := kX2_read) dX4_swap_23 ((hB.2.2.1 d hd).1) ⟨by decide, rfl⟩ v_X2_read wm_X4_123 wi_X2_read ws_X2_read ⟨Nat.le_of_ble_eq_true rfl, Nat.le_of_ble_eq_true rfl⟩ n_X2_read (Nat.le_of_ble_eq_true rfl) ?_
  refine c_read_o hR hd hz2 ?_
  refine ⟨_, rfl, ?_⟩
  refine X.istore dX4_swap_26 (Nat.le_of_ble_eq_true rfl) ?_
  refine X.iload dX4_swap_28 rfl ?_
  refine X.if_ne_t (tgt := 45) dX4_swap_30 (by decide) ((fun q => hz2 (nI_z q (by have := noPlace_le ν d j; omega)))) ?_
  refine X.iload dX4_swap_45 rfl ?_
  refine X.if_eq_f (tgt := 53) dX4_swap_47 (by decide) ((fun q => hz2 (nI_z q (by have := noPlace_le ν d j; omega)))) ?_
  refine X.iload dX4_swap_50 rfl ?_
  refine X.ret dX4_swap_52 ⟨trivial, ?_⟩
  exact hq _ hR
set_option maxRecDepth 100000 in
set_option maxHeartbeats 4000000 in
theorem c_swap_o3 {c d : Nat} {i j : Int32} {ρ ν μ : xM} {φ κ : Nat → Nat} {B : Nat × Nat × Nat × (Nat → Prop)} {Q : Option Value → xM → Prop} (hR : Rel ρ ν μ φ κ B) (hc : c < 16) (hd : d < 16) (hz : noPlaceM ν c i = 0) (hz2 : noPlaceM ν d j = 0) (hw2 : ¬ noWriteM ν d j (cellKindM ν (tp ν c) (ix i)) = 0) (hq : ∀ μ1, Rel ρ ν μ1 φ κ B → Q (some (.int (nI (noWriteM ν d j (cellKindM ν (tp ν c) (ix i)))))) μ1) : Mt kX4_swap [.ref 1, .ref (28 + c), .int i, .ref (28 + d), .int j] μ Q := by
  have hB := hR.2.1
  obtain ⟨h0c, -, -, hjc⟩ := noPlace_0 hz
  obtain ⟨h0d, -, -, hjd⟩ := noPlace_0 hz2
  refine Mt.enter rfl (Nat.le_of_ble_eq_true rfl) ?_
  refine X.aload_n dX4_swap_0 rfl ?_
  refine X.iload_n dX4_swap_1 rfl ?_
  refine X.aload_n dX4_swap_2 rfl ?_
  refine X.getR (b := 26) (kf := 9) dX4_swap_3 (hB.1 1 (by decide) (by decide)) (by decide) (by decide) rfl wf_X4_49 (hB.2.1 9 (by decide)) ?_
  refine X.cV2i (k' := kX2_read) dX4_swap_6 ((hB.2.2.1 c hc).1) ⟨by decide, rfl⟩ v_X2_read wm_X4_123 wi_X2_read ws_X2_read ⟨Nat.le_of_ble_eq_true rfl, Nat.le_of_ble_eq_true rfl⟩ n_X2_read (Nat.le_of_ble_eq_true rfl) ?_
  refine c_read hR hc (Or.inl rfl) hz ?_
  refine ⟨_, rfl, ?_⟩
  have hC26 := hR.cellR hc h0c hjc
  have hR := hR.cell (Or.inl rfl) (nI (cellKindM ν (tp ν c) (ix i))) (numM ν (tp ν c) (ix i)) (tref ν φ (tp ν c) (ix i))
  have hB := hR.2.1
  refine X.istore dX4_swap_9 (Nat.le_of_ble_eq_true rfl) ?_
  refine X.iload dX4_swap_11 rfl ?_
  refine X.if_ne_f (tgt := 28) dX4_swap_13 (by decide) ((by decide)) ?_
  refine X.aload_n dX4_swap_16 rfl ?_
  refine X.iload dX4_swap_17 rfl ?_
  refine X.aload_n dX4_swap_19 rfl ?_
  refine X.getR (b := 27) (kf := 10) dX4_swap_20 (hB.1 1 (by decide) (by decide)) (by decide) (by decide) rfl wf_X4_53 (hB.2.1 10 (by decide)) ?_
  refine X.cV2i (k' := kX2_read) dX4_swap_23 ((hB.2.2.1 d hd).1) ⟨by decide, rfl⟩ v_X2_read wm_X4_123 wi_X2_read ws_X2_read ⟨Nat.le_of_ble_eq_true rfl, Nat.le_of_ble_eq_true rfl⟩ n_X2_read (Nat.le_of_ble_eq_true rfl) ?_
  refine c_read hR hd (Or.inr rfl) hz2 ?_
  refine ⟨_, rfl, ?_⟩
  have hC27 := hR.cellR hd h0d hjd
  have hR := hR.cell (Or.inr rfl) (nI (cellKindM ν (tp ν d) (ix j))) (numM ν (tp ν d) (ix j)) (tref ν φ (tp ν d) (ix j))
  have hB := hR.2.1
  refine X.istore dX4_swap_26 (Nat.le_of_ble_eq_true rfl) ?_
  refine X.iload dX4_swap_28 rfl ?_
  refine X.if_ne_f (tgt := 45) dX4_swap_30 (by decide) ((by decide)) ?_
  refine X.aload_n dX4_swap_33 rfl ?_
  refine X.iload dX4_swap_34 rfl ?_
  refine X.aload_n dX4_swap_36 rfl ?_
  refine X.getR (b := 26) (kf := 9) dX4_swap_37 (hB.1 1 (by decide) (by decide)) (by decide) (by decide) rfl wf_X4_49 (hB.2.1 9 (by decide)) ?_
  refine X.cV2i (k' := kX2_write) dX4_swap_40 ((hB.2.2.1 d hd).1) ⟨by decide, rfl⟩ v_X2_write wm_X4_119 wi_X2_write ws_X2_write ⟨Nat.le_of_ble_eq_true rfl, Nat.le_of_ble_eq_true rfl⟩ n_X2_write (Nat.le_of_ble_eq_true rfl) ?_
  refine c_write_o hR hd (Or.inl rfl) (K := (cellKindM ν (tp ν c) (ix i))) rfl (Nat.le_trans cellKind_le (by decide)) hw2 ?_
  refine ⟨_, rfl, ?_⟩
  refine X.istore dX4_swap_43 (Nat.le_of_ble_eq_true rfl) ?_
  refine X.iload dX4_swap_45 rfl ?_
  refine X.if_eq_f (tgt := 53) dX4_swap_47 (by decide) ((fun q => hw2 (nI_z q (by have := noWrite_le ν d j (cellKindM ν (tp ν c) (ix i)); omega)))) ?_
  refine X.iload dX4_swap_50 rfl ?_
  refine X.ret dX4_swap_52 ⟨trivial, ?_⟩
  exact hq _ hR
set_option maxRecDepth 100000 in
set_option maxHeartbeats 4000000 in
theorem c_swap_in {c d : Nat} {i j : Int32} {ρ ν μ : xM} {φ κ : Nat → Nat} {B : Nat × Nat × Nat × (Nat → Prop)} {Q : Option Value → xM → Prop} (hR : Rel ρ ν μ φ κ B) (hc : c < 16) (hd : d < 16) (hz : noPlaceM ν c i = 0) (hz2 : noPlaceM ν d j = 0) (hw2 : noWriteM ν d j (cellKindM ν (tp ν c) (ix i)) = 0) (hw3 : noWriteM ν c i (cellKindM ν (tp ν d) (ix j)) = 0) (hq : ∀ μ1, Rel ρ (writesM (sJ ν 48 (32 * tp ν d + ix j) (fitM (kd ν (tp ν d)) (cv ν (tp ν c) (ix i)))) c i (cellKindM ν (tp ν d) (ix j)) (cv ν (tp ν d) (ix j))) μ1 φ κ B → Q (some (.int (nI 0))) μ1) : Mt kX4_swap [.ref 1, .ref (28 + c), .int i, .ref (28 + d), .int j] μ Q := by
  have hB := hR.2.1
  obtain ⟨h0c, -, -, hjc⟩ := noPlace_0 hz
  obtain ⟨h0d, -, -, hjd⟩ := noPlace_0 hz2
  refine Mt.enter rfl (Nat.le_of_ble_eq_true rfl) ?_
  refine X.aload_n dX4_swap_0 rfl ?_
  refine X.iload_n dX4_swap_1 rfl ?_
  refine X.aload_n dX4_swap_2 rfl ?_
  refine X.getR (b := 26) (kf := 9) dX4_swap_3 (hB.1 1 (by decide) (by decide)) (by decide) (by decide) rfl wf_X4_49 (hB.2.1 9 (by decide)) ?_
  refine X.cV2i (k' := kX2_read) dX4_swap_6 ((hB.2.2.1 c hc).1) ⟨by decide, rfl⟩ v_X2_read wm_X4_123 wi_X2_read ws_X2_read ⟨Nat.le_of_ble_eq_true rfl, Nat.le_of_ble_eq_true rfl⟩ n_X2_read (Nat.le_of_ble_eq_true rfl) ?_
  refine c_read hR hc (Or.inl rfl) hz ?_
  refine ⟨_, rfl, ?_⟩
  have hC26 := hR.cellR hc h0c hjc
  have hR := hR.cell (Or.inl rfl) (nI (cellKindM ν (tp ν c) (ix i))) (numM ν (tp ν c) (ix i)) (tref ν φ (tp ν c) (ix i))
  have hB := hR.2.1
  refine X.istore dX4_swap_9 (Nat.le_of_ble_eq_true rfl) ?_
  refine X.iload dX4_swap_11 rfl ?_
  refine X.if_ne_f (tgt := 28) dX4_swap_13 (by decide) ((by decide)) ?_
  refine X.aload_n dX4_swap_16 rfl ?_
  refine X.iload dX4_swap_17 rfl ?_
  refine X.aload_n dX4_swap_19 rfl ?_
  refine X.getR (b := 27) (kf := 10) dX4_swap_20 (hB.1 1 (by decide) (by decide)) (by decide) (by decide) rfl wf_X4_53 (hB.2.1 10 (by decide)) ?_
  refine X.cV2i (k' := kX2_read) dX4_swap_23 ((hB.2.2.1 d hd).1) ⟨by decide, rfl⟩ v_X2_read wm_X4_123 wi_X2_read ws_X2_read ⟨Nat.le_of_ble_eq_true rfl, Nat.le_of_ble_eq_true rfl⟩ n_X2_read (Nat.le_of_ble_eq_true rfl) ?_
  refine c_read hR hd (Or.inr rfl) hz2 ?_
  refine ⟨_, rfl, ?_⟩
  have hC27 := hR.cellR hd h0d hjd
  have hR := hR.cell (Or.inr rfl) (nI (cellKindM ν (tp ν d) (ix j))) (numM ν (tp ν d) (ix j)) (tref ν φ (tp ν d) (ix j))
  have hB := hR.2.1
  have hRa := hR
  have hC26 := hC26.kept hRa (ν1 := ν) rfl
  have hC27 := hC27.kept hRa (ν1 := (sJ ν 48 (32 * tp ν d + ix j) (fitM (kd ν (tp ν d)) (cv ν (tp ν c) (ix i))))) rfl
  have hR := hR.keep
  have hB := hR.2.1
  refine X.istore dX4_swap_26 (Nat.le_of_ble_eq_true rfl) ?_
  refine X.iload dX4_swap_28 rfl ?_
  refine X.if_ne_f (tgt := 45) dX4_swap_30 (by decide) ((by decide)) ?_
  refine X.aload_n dX4_swap_33 rfl ?_
  refine X.iload dX4_swap_34 rfl ?_
  refine X.aload_n dX4_swap_36 rfl ?_
  refine X.getR (b := 26) (kf := 9) dX4_swap_37 (hB.1 1 (by decide) (by decide)) (by decide) (by decide) rfl wf_X4_49 (hB.2.1 9 (by decide)) ?_
  refine X.cV2i (k' := kX2_write) dX4_swap_40 ((hB.2.2.1 d hd).1) ⟨by decide, rfl⟩ v_X2_write wm_X4_119 wi_X2_write ws_X2_write ⟨Nat.le_of_ble_eq_true rfl, Nat.le_of_ble_eq_true rfl⟩ n_X2_write (Nat.le_of_ble_eq_true rfl) ?_
  refine c_write hR hd (Or.inl rfl) (K := (cellKindM ν (tp ν c) (ix i))) (v := (cv ν (tp ν c) (ix i))) rfl (Nat.le_trans cellKind_le (by decide)) hC26 hw2 (fun μ1 hR hL => ?_)
  have hB := hR.2.1
  unfold writesM at hR
  rw [if_pos hw2] at hR
  obtain ⟨l1, l2, l3⟩ := hL 27 (by decide)
  have hC27 : CellR (sJ ν 48 (32 * tp ν d + ix j) (fitM (kd ν (tp ν d)) (cv ν (tp ν c) (ix i)))) φ (lvE ν B.2.2.2) (cellKindM ν (tp ν d) (ix j)) (cv ν (tp ν d) (ix j)) (mJ μ1 27 1) (mR μ1 27 2) := by rw [l2, l3]; exact hC27
  have hK27 : mI μ1 27 0 = nI (cellKindM ν (tp ν d) (ix j)) := by rw [l1]; rfl
  refine ⟨_, rfl, ?_⟩
  refine X.istore dX4_swap_43 (Nat.le_of_ble_eq_true rfl) ?_
  refine X.iload dX4_swap_45 rfl ?_
  refine X.if_eq_t (tgt := 53) dX4_swap_47 (by decide) ((by decide)) ?_
  refine X.aload_n dX4_swap_53 rfl ?_
  refine X.iload_n dX4_swap_54 rfl ?_
  refine X.aload_n dX4_swap_55 rfl ?_
  refine X.getR (b := 27) (kf := 10) dX4_swap_56 (hB.1 1 (by decide) (by decide)) (by decide) (by decide) rfl wf_X4_53 (hB.2.1 10 (by decide)) ?_
  refine X.cV2i (k' := kX2_write) dX4_swap_59 ((hB.2.2.1 c hc).1) ⟨by decide, rfl⟩ v_X2_write wm_X4_119 wi_X2_write ws_X2_write ⟨Nat.le_of_ble_eq_true rfl, Nat.le_of_ble_eq_true rfl⟩ n_X2_write (Nat.le_of_ble_eq_true rfl) ?_
  refine c_write hR hc (Or.inr rfl) (K := (cellKindM ν (tp ν d) (ix j))) (v := (cv ν (tp ν d) (ix j))) hK27 (Nat.le_trans cellKind_le (by decide)) hC27 hw3 (fun μ2 hR hL2 => ?_)
  refine ⟨_, rfl, ?_⟩
  refine X.istore dX4_swap_62 (Nat.le_of_ble_eq_true rfl) ?_
  refine X.iload dX4_swap_64 rfl ?_
  refine X.if_eq_t (tgt := 80) dX4_swap_66 (by decide) ((by decide)) ?_
  refine X.iload dX4_swap_80 rfl ?_
  refine X.ret dX4_swap_82 ⟨trivial, ?_⟩
  exact hq _ (hR.drop (fun t q1 q2 => Or.inr ⟨q1, q2⟩))
set_option maxRecDepth 100000 in
set_option maxHeartbeats 4000000 in
theorem c_swap_o4 {c d : Nat} {i j : Int32} {ρ ν μ : xM} {φ κ : Nat → Nat} {B : Nat × Nat × Nat × (Nat → Prop)} {Q : Option Value → xM → Prop} (hR : Rel ρ ν μ φ κ B) (hc : c < 16) (hd : d < 16) (hz : noPlaceM ν c i = 0) (hz2 : noPlaceM ν d j = 0) (hw2 : noWriteM ν d j (cellKindM ν (tp ν c) (ix i)) = 0) (hw3 : ¬ noWriteM ν c i (cellKindM ν (tp ν d) (ix j)) = 0) (hq : ∀ μ1, Rel ρ ν μ1 φ κ B → Q (some (.int (nI (noWriteM ν c i (cellKindM ν (tp ν d) (ix j)))))) μ1) : Mt kX4_swap [.ref 1, .ref (28 + c), .int i, .ref (28 + d), .int j] μ Q := by
  have hB := hR.2.1
  obtain ⟨h0c, -, -, hjc⟩ := noPlace_0 hz
  obtain ⟨h0d, -, -, hjd⟩ := noPlace_0 hz2
  refine Mt.enter rfl (Nat.le_of_ble_eq_true rfl) ?_
  refine X.aload_n dX4_swap_0 rfl ?_
  refine X.iload_n dX4_swap_1 rfl ?_
  refine X.aload_n dX4_swap_2 rfl ?_
  refine X.getR (b := 26) (kf := 9) dX4_swap_3 (hB.1 1 (by decide) (by decide)) (by decide) (by decide) rfl wf_X4_49 (hB.2.1 9 (by decide)) ?_
  refine X.cV2i (k' := kX2_read) dX4_swap_6 ((hB.2.2.1 c hc).1) ⟨by decide, rfl⟩ v_X2_read wm_X4_123 wi_X2_read ws_X2_read ⟨Nat.le_of_ble_eq_true rfl, Nat.le_of_ble_eq_true rfl⟩ n_X2_read (Nat.le_of_ble_eq_true rfl) ?_
  refine c_read hR hc (Or.inl rfl) hz ?_
  refine ⟨_, rfl, ?_⟩
  have hC26 := hR.cellR hc h0c hjc
  have hR := hR.cell (Or.inl rfl) (nI (cellKindM ν (tp ν c) (ix i))) (numM ν (tp ν c) (ix i)) (tref ν φ (tp ν c) (ix i))
  have hB := hR.2.1
  refine X.istore dX4_swap_9 (Nat.le_of_ble_eq_true rfl) ?_
  refine X.iload dX4_swap_11 rfl ?_
  refine X.if_ne_f (tgt := 28) dX4_swap_13 (by decide) ((by decide)) ?_
  refine X.aload_n dX4_swap_16 rfl ?_
  refine X.iload dX4_swap_17 rfl ?_
  refine X.aload_n dX4_swap_19 rfl ?_
  refine X.getR (b := 27) (kf := 10) dX4_swap_20 (hB.1 1 (by decide) (by decide)) (by decide) (by decide) rfl wf_X4_53 (hB.2.1 10 (by decide)) ?_
  refine X.cV2i (k' := kX2_read) dX4_swap_23 ((hB.2.2.1 d hd).1) ⟨by decide, rfl⟩ v_X2_read wm_X4_123 wi_X2_read ws_X2_read ⟨Nat.le_of_ble_eq_true rfl, Nat.le_of_ble_eq_true rfl⟩ n_X2_read (Nat.le_of_ble_eq_true rfl) ?_
  refine c_read hR hd (Or.inr rfl) hz2 ?_
  refine ⟨_, rfl, ?_⟩
  have hC27 := hR.cellR hd h0d hjd
  have hR := hR.cell (Or.inr rfl) (nI (cellKindM ν (tp ν d) (ix j))) (numM ν (tp ν d) (ix j)) (tref ν φ (tp ν d) (ix j))
  have hB := hR.2.1
  have hRa := hR
  have hC26 := hC26.kept hRa (ν1 := ν) rfl
  have hC27 := hC27.kept hRa (ν1 := (sJ ν 48 (32 * tp ν d + ix j) (fitM (kd ν (tp ν d)) (cv ν (tp ν c) (ix i))))) rfl
  have hR := hR.keep
  have hB := hR.2.1
  refine X.istore dX4_swap_26 (Nat.le_of_ble_eq_true rfl) ?_
  refine X.iload dX4_swap_28 rfl ?_
  refine X.if_ne_f (tgt := 45) dX4_swap_30 (by decide) ((by decide)) ?_
  refine X.aload_n dX4_swap_33 rfl ?_
  refine X.iload dX4_swap_34 rfl ?_
  refine X.aload_n dX4_swap_36 rfl ?_
  refine X.getR (b := 26) (kf := 9) dX4_swap_37 (hB.1 1 (by decide) (by decide)) (by decide) (by decide) rfl wf_X4_49 (hB.2.1 9 (by decide)) ?_
  refine X.cV2i (k' := kX2_write) dX4_swap_40 ((hB.2.2.1 d hd).1) ⟨by decide, rfl⟩ v_X2_write wm_X4_119 wi_X2_write ws_X2_write ⟨Nat.le_of_ble_eq_true rfl, Nat.le_of_ble_eq_true rfl⟩ n_X2_write (Nat.le_of_ble_eq_true rfl) ?_
  refine c_write hR hd (Or.inl rfl) (K := (cellKindM ν (tp ν c) (ix i))) (v := (cv ν (tp ν c) (ix i))) rfl (Nat.le_trans cellKind_le (by decide)) hC26 hw2 (fun μ1 hR hL => ?_)
  have hB := hR.2.1
  unfold writesM at hR
  rw [if_pos hw2] at hR
  obtain ⟨l1, l2, l3⟩ := hL 27 (by decide)
  have hC27 : CellR (sJ ν 48 (32 * tp ν d + ix j) (fitM (kd ν (tp ν d)) (cv ν (tp ν c) (ix i)))) φ (lvE ν B.2.2.2) (cellKindM ν (tp ν d) (ix j)) (cv ν (tp ν d) (ix j)) (mJ μ1 27 1) (mR μ1 27 2) := by rw [l2, l3]; exact hC27
  have hK27 : mI μ1 27 0 = nI (cellKindM ν (tp ν d) (ix j)) := by rw [l1]; rfl
  refine ⟨_, rfl, ?_⟩
  refine X.istore dX4_swap_43 (Nat.le_of_ble_eq_true rfl) ?_
  refine X.iload dX4_swap_45 rfl ?_
  refine X.if_eq_t (tgt := 53) dX4_swap_47 (by decide) ((by decide)) ?_
  refine X.aload_n dX4_swap_53 rfl ?_
  refine X.iload_n dX4_swap_54 rfl ?_
  refine X.aload_n dX4_swap_55 rfl ?_
  refine X.getR (b := 27) (kf := 10) dX4_swap_56 (hB.1 1 (by decide) (by decide)) (by decide) (by decide) rfl wf_X4_53 (hB.2.1 10 (by decide)) ?_
  refine X.cV2i (k' := kX2_write) dX4_swap_59 ((hB.2.2.1 c hc).1) ⟨by decide, rfl⟩ v_X2_write wm_X4_119 wi_X2_write ws_X2_write ⟨Nat.le_of_ble_eq_true rfl, Nat.le_of_ble_eq_true rfl⟩ n_X2_write (Nat.le_of_ble_eq_true rfl) ?_
  refine c_write_o hR hc (Or.inr rfl) (K := (cellKindM ν (tp ν d) (ix j))) hK27 (Nat.le_trans cellKind_le (by decide)) hw3 ?_
  refine ⟨_, rfl, ?_⟩
  refine X.istore dX4_swap_62 (Nat.le_of_ble_eq_true rfl) ?_
  refine X.iload dX4_swap_64 rfl ?_
  refine X.if_eq_f (tgt := 80) dX4_swap_66 (by decide) ((fun q => hw3 (nI_z q (by have := noWrite_le ν c i (cellKindM ν (tp ν d) (ix j)); omega)))) ?_
  refine X.aload_n dX4_swap_69 rfl ?_
  refine X.iload dX4_swap_70 rfl ?_
  refine X.aload_n dX4_swap_72 rfl ?_
  refine X.getR (b := 27) (kf := 10) dX4_swap_73 (hB.1 1 (by decide) (by decide)) (by decide) (by decide) rfl wf_X4_53 (hB.2.1 10 (by decide)) ?_
  refine X.cV2i (k' := kX2_write) dX4_swap_76 ((hB.2.2.1 d hd).1) ⟨by decide, rfl⟩ v_X2_write wm_X4_119 wi_X2_write ws_X2_write ⟨Nat.le_of_ble_eq_true rfl, Nat.le_of_ble_eq_true rfl⟩ n_X2_write (Nat.le_of_ble_eq_true rfl) ?_
  have hw4 : noWriteM (sJ ν 48 (32 * tp ν d + ix j) (fitM (kd ν (tp ν d)) (cv ν (tp ν c) (ix i)))) d j (cellKindM ν (tp ν d) (ix j)) = 0 := by
    show noWriteM ν d j (cellKindM ν (tp ν d) (ix j)) = 0
    rw [noWrite_eq hz2]
    unfold noTakeM
    rw [own_takes hRa (tp_lt hRa.wt hd h0d) hjd]
    rfl
  have e4 : writesM (sJ ν 48 (32 * tp ν d + ix j) (fitM (kd ν (tp ν d)) (cv ν (tp ν c) (ix i)))) d j (cellKindM ν (tp ν d) (ix j)) (cv ν (tp ν d) (ix j)) = ν := by
    unfold writesM
    rw [if_pos hw4]
    have e5 : fitM (kd (sJ ν 48 (32 * tp ν d + ix j) (fitM (kd ν (tp ν d)) (cv ν (tp ν c) (ix i)))) (tp (sJ ν 48 (32 * tp ν d + ix j) (fitM (kd ν (tp ν d)) (cv ν (tp ν c) (ix i)))) d)) (cv ν (tp ν d) (ix j)) = (cv ν (tp ν d) (ix j)) := by
      show fitM (kd ν (tp ν d)) (cv ν (tp ν d) (ix j)) = (cv ν (tp ν d) (ix j))
      by_cases h8 : kd ν (tp ν d) < 8
      · exact (hRa.ws _ (tp_lt hRa.wt hd h0d) _ hjd).2.2 h8
      · exact fit_id (by omega) _
    rw [e5]
    exact sJ_back ν (32 * tp ν d + ix j) _
  refine c_write hR hd (Or.inr rfl) (K := (cellKindM ν (tp ν d) (ix j))) (v := (cv ν (tp ν d) (ix j))) hK27 (Nat.le_trans cellKind_le (by decide)) hC27 hw4 (fun μ2 hR hL2 => ?_)
  rw [e4] at hR
  refine ⟨_, rfl, ?_⟩
  refine X.pop dX4_swap_79 ?_
  refine X.iload dX4_swap_80 rfl ?_
  refine X.ret dX4_swap_82 ⟨trivial, ?_⟩
  exact hq _ (hR.drop (fun t q1 q2 => Or.inr ⟨q1, q2⟩))
theorem c_swap {c d : Nat} {i j : Int32} {ρ ν μ : xM} {φ κ : Nat → Nat} {B : Nat × Nat × Nat × (Nat → Prop)} {Q : Option Value → xM → Prop} (hR : Rel ρ ν μ φ κ B) (hc : c < 16) (hd : d < 16) (hq : ∀ μ1, Rel ρ (changeM ν c i d j) μ1 φ κ B → Q (some (.int (nI (noChangeM ν c i d j)))) μ1) : Mt kX4_swap [.ref 1, .ref (28 + c), .int i, .ref (28 + d), .int j] μ Q := by
  by_cases hz : noPlaceM ν c i = 0
  · by_cases hz2 : noPlaceM ν d j = 0
    · have e1 := noWrite_eq (K := (cellKindM ν (tp ν c) (ix i))) hz2
      have e2 := noWrite_eq (K := (cellKindM ν (tp ν d) (ix j))) hz
      have en : noChangeM ν c i d j = if noWriteM ν d j (cellKindM ν (tp ν c) (ix i)) = 0 then noWriteM ν c i (cellKindM ν (tp ν d) (ix j)) else noWriteM ν d j (cellKindM ν (tp ν c) (ix i)) := by
        unfold noChangeM
        rw [if_pos hz, if_pos hz2, e1, e2]
      unfold changeM at hq
      rw [en] at hq
      by_cases hw2 : noWriteM ν d j (cellKindM ν (tp ν c) (ix i)) = 0
      · rw [if_pos hw2] at hq
        by_cases hw3 : noWriteM ν c i (cellKindM ν (tp ν d) (ix j)) = 0
        · rw [if_pos hw3, hw3] at hq
          refine c_swap_in hR hc hd hz hz2 hw2 hw3 (fun μ1 h1 => hq μ1 ?_)
          unfold writesM at h1
          rw [if_pos (show noWriteM (sJ ν 48 (32 * tp ν d + ix j) (fitM (kd ν (tp ν d)) (cv ν (tp ν c) (ix i)))) c i (cellKindM ν (tp ν d) (ix j)) = 0 from hw3)] at h1
          exact h1
        · rw [if_neg hw3] at hq
          exact c_swap_o4 hR hc hd hz hz2 hw2 hw3 hq
      · rw [if_neg hw2, if_neg hw2] at hq
        exact c_swap_o3 hR hc hd hz hz2 hw2 hq
    · unfold changeM noChangeM at hq
      rw [if_pos hz, if_neg hz2, if_neg hz2] at hq
      exact c_swap_o2 hR hc hd hz hz2 hq
  · unfold changeM noChangeM at hq
    rw [if_neg hz, if_neg hz] at hq
    exact c_swap_o1 hR hc hd hz hq
