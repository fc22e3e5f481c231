/-! the class: tags and racks (laid by wip/whole/mkpb9.py) -/
theorem lx_lN {n : Nat} (h : n < 2 ^ 31) : lx (lN n) = n := by unfold lx; rw [lN_toInt h]; rfl
theorem Rel.gm {ρ ν μ : xM} {φ κ : Nat → Nat} {B : Nat × Nat × Nat × (Nat → Prop)} (h : Rel ρ ν μ φ κ B) : mI μ 1 3 = nI (gM ν) := by rw [h.2.2.2.1.1.2.1]; exact h.wg.1
theorem tag_gM {ρ ν μ : xM} {φ κ : Nat → Nat} {B : Nat × Nat × Nat × (Nat → Prop)} (h : Rel ρ ν μ φ κ B) (s : Int32) : mI (tag1M ν s) 44 4 = nI (gM ν + 1) ∧ gM (tag1M ν s) = gM ν + 1 := by
  have e : mI (tag1M ν s) 44 4 = nI (gM ν + 1) := by
    unfold tag1M
    rw [mI_at (by decide), mI_s, h.wg.1, nI_1]
  refine ⟨e, ?_⟩
  unfold gM at e ⊢
  rw [e, nI_clamp (by have := h.wg.2; unfold gM at this; omega)]
theorem Rel.tag {ρ ν μ : xM} {φ κ : Nat → Nat} {B : Nat × Nat × Nat × (Nat → Prop)} (h : Rel ρ ν μ φ κ B) (hg : ¬ gM ν = 200) (s : Int32) : Rel ρ (tag1M ν s) (sI μ 1 3 (mI μ 1 3 + 1)) φ κ B := by
  have hw := h.wt
  have hws := h.ws
  have g200 := h.wg.2
  obtain ⟨e1, e2⟩ := tag_gM h s
  have e3 := h.gm
  obtain ⟨h1, h2, h3, h4, h5, h6, h7, h8⟩ := h
  have hi : HiEq μ (sI μ 1 3 (mI μ 1 3 + 1)) := (HiEq.rf μ).sI (by omega)
  have e49 : ∀ j, j ≠ gM ν + 1 → mI (tag1M ν s) 49 j = mI ν 49 j := fun j hj => by
    unfold tag1M
    rw [mI_k hj, mI_at (by decide)]
  have hck : ∀ t j, t < 560 → j < sz ν t → cellKindM (tag1M ν s) t j = cellKindM ν t j := by
    intro t j ht hj
    show (if kd ν t < 8 then kd ν t else if cv ν t j = 0 then 11 else if kd ν t = 10 then 10 else if mI (tag1M ν s) 49 (lx (cv ν t j)) = 0 then 8 else 9) = _
    unfold cellKindM
    by_cases h8 : kd ν t < 8
    · rw [if_pos h8, if_pos h8]
    · rw [if_neg h8, if_neg h8]
      by_cases h10 : kd ν t = 10
      · rw [if_pos h10, if_pos h10]
      · have l := (hws t ht j hj).1 (by omega) (by have := kd_le hw ht; omega)
        rw [e49 _ (by omega)]
  refine ⟨h1.sI (by omega), h2, ⟨h3.1, h3.2.1, ⟨by rw [e1, e2], by rw [e2]; omega⟩, h3.2.2.2.1, fun t ht j hj => ?_⟩, ?_, fun c hc => (h5 c hc).cg (mI_at (by omega)) rfl, ⟨fun t q => ?_, h6.2⟩, h7.hi hi rfl, h8⟩
  · have hj' : j < sz ν t := hj
    obtain ⟨a1, a2, a3⟩ := hws t ht j hj'
    refine ⟨fun k8 k10 => Nat.le_trans (a1 k8 k10) (by rw [e2]; omega), fun k9 => ?_, a3⟩
    have k9' : kd ν t = 9 := k9
    have l := a1 (by omega) (by omega)
    show cv ν t j = 0 ∨ mI (tag1M ν s) 49 (lx (cv ν t j)) ≠ 0
    rw [e49 _ (by omega)]
    exact a2 k9'
  · obtain ⟨⟨a1, a2, a3, a4, a5⟩, b, c⟩ := h4
    refine ⟨⟨a1, ?_, a3, a4, a5⟩, b, fun i hi => ?_⟩
    · rw [mI_s, e1, e3, nI_1]
    · rw [mI_at (by omega)]; exact c i hi
  · have q' : lvE ν B.2.2.2 t := q
    have ht := lvE_lt hw q'
    exact TR.nu (φ := φ) (ν := ν) ((h6.1 t q').cg (fun i _ => hi.1 _ (by have := (h6.1 t q').1.1; omega)) (by rw [hi.2]; exact Nat.le_refl _)) rfl rfl (fun j hj => ⟨hck t j ht hj, rfl, rfl⟩) rfl
theorem tag_cell {ρ ν μ : xM} {φ κ : Nat → Nat} {B : Nat × Nat × Nat × (Nat → Prop)} (h : Rel ρ ν μ φ κ B) (hg : ¬ gM ν = 200) {s : Int32} : CellR (tag1M ν s) φ B.2.2.2 (tagK s) (lN (gM ν + 1)) (lN (gM ν + 1)) none := by
  have g200 := h.wg.2
  have e := lx_lN (n := gM ν + 1) (by omega)
  refine Or.inr (Or.inl ⟨?_, rfl, rfl, by rw [e], by rw [e]; omega, by rw [e, (tag_gM h s).2]; exact Nat.le_refl _, ?_⟩)
  · unfold tagK; split
    · exact Or.inl rfl
    · exact Or.inr rfl
  · rw [e]
    have e2 : mI (tag1M ν s) 49 (gM ν + 1) = s := by unfold tag1M; rw [mI_s]
    rw [e2]
    unfold tagK
    by_cases q : s = 0
    · rw [if_pos q]; exact ⟨fun _ => q, fun _ => rfl⟩
    · rw [if_neg q]; exact ⟨fun w => absurd w (by decide), fun w => absurd w q⟩
theorem wr_44 {ν : xM} {c : Nat} {i : Int32} {K : Nat} {v : Int64} : mI (writesM ν c i K v) = mI ν := by
  unfold writesM
  split <;> rfl
set_option maxRecDepth 100000 in
set_option maxHeartbeats 4000000 in
theorem c_tag_o {c i s : Int32} {ρ ν μ : xM} {φ κ : Nat → Nat} {B : Nat × Nat × Nat × (Nat → Prop)} {Q : Option Value → xM → Prop} (hR : Rel ρ ν μ φ κ B) (hc : rng c 16 = none) (hq : ∀ μ1, Rel ρ (ν) μ1 φ κ B → Q (some (.int (-1))) μ1) : Mt kX4_tag [.ref 1, .int (c), .int (i), .int (s)] μ Q := by
  have hB := hR.2.1
  refine Mt.enter rfl (Nat.le_of_ble_eq_true rfl) ?_
  refine X.aload_n dX4_tag_0 rfl ?_
  refine X.iload_n dX4_tag_1 rfl ?_
  refine X.cV1n (k' := kX4_channelAt) dX4_tag_2 (hB.1 1 (by decide) (by decide)) ⟨by decide, rfl⟩ v_X4_channelAt wm_X4_59 wi_X4_channelAt ws_X4_channelAt ⟨Nat.le_of_ble_eq_true rfl, Nat.le_of_ble_eq_true rfl⟩ n_X4_channelAt (Nat.le_of_ble_eq_true rfl) ?_
  refine x_channelAt_o hB hc ?_
  refine ⟨rfl, ?_⟩
  refine X.astoreN dX4_tag_5 (Nat.le_of_ble_eq_true rfl) ?_
  refine X.aloadN dX4_tag_7 rfl ?_
  refine X.ifnonnull_n dX4_tag_9 ?_
  refine X.iconst (v := -1) dX4_tag_12 (by decide) ?_
  refine X.ret dX4_tag_13 ⟨trivial, ?_⟩
  exact hq _ hR
set_option maxRecDepth 100000 in
set_option maxHeartbeats 4000000 in
theorem c_tag_full {a : Nat} {i s : Int32} {ρ ν μ : xM} {φ κ : Nat → Nat} {B : Nat × Nat × Nat × (Nat → Prop)} {Q : Option Value → xM → Prop} (hR : Rel ρ ν μ φ κ B) (ha : a < 16) (hg : gM ν = 200) (hq : ∀ μ1, Rel ρ (ν) μ1 φ κ B → Q (some (.int (-2))) μ1) : Mt kX4_tag [.ref 1, .int (nI a), .int (i), .int (s)] μ Q := by
  have hB := hR.2.1
  refine Mt.enter rfl (Nat.le_of_ble_eq_true rfl) ?_
  refine X.aload_n dX4_tag_0 rfl ?_
  refine X.iload_n dX4_tag_1 rfl ?_
  refine X.cV1a (k' := kX4_channelAt) dX4_tag_2 (hB.1 1 (by decide) (by decide)) ⟨by decide, rfl⟩ v_X4_channelAt wm_X4_59 wi_X4_channelAt ws_X4_channelAt ⟨Nat.le_of_ble_eq_true rfl, Nat.le_of_ble_eq_true rfl⟩ n_X4_channelAt (Nat.le_of_ble_eq_true rfl) ?_
  refine x_channelAt hB ha ?_
  refine ⟨_, rfl, ?_⟩
  refine X.astore dX4_tag_5 (Nat.le_of_ble_eq_true rfl) ?_
  refine X.aload dX4_tag_7 rfl ?_
  refine X.ifnonnull_r (tgt := 14) dX4_tag_9 (by decide) ?_
  refine X.aload_n dX4_tag_14 rfl ?_
  refine X.getI (kf := 3) dX4_tag_15 (hB.1 1 (by decide) (by decide)) (by decide) (by decide) rfl wf_X4_25 ?_
  refine X.sipush (v := 200) dX4_tag_18 (by decide) ?_
  refine X.icmp_lt_f (tgt := 27) dX4_tag_21 (by decide) ((by rw [hR.gm, hg]; decide)) ?_
  refine X.bipush (v := -2) dX4_tag_24 (by decide) ?_
  refine X.ret dX4_tag_26 ⟨trivial, ?_⟩
  exact hq _ hR
set_option maxRecDepth 100000 in
set_option maxHeartbeats 4000000 in
theorem c_tag_in0 {a : Nat} {i s : Int32} {ρ ν μ : xM} {φ κ : Nat → Nat} {B : Nat × Nat × Nat × (Nat → Prop)} {Q : Option Value → xM → Prop} (hR : Rel ρ ν μ φ κ B) (ha : a < 16) (hg : ¬ gM ν = 200) (hs : s = 0) (hz : noWriteM ν a i (tagK s) = 0) (hq : ∀ μ1, Rel ρ (metM (writesM (tag1M ν s) a i (tagK s) (lN (gM ν + 1))) 0) μ1 φ κ B → Q (some (.int (nI (gM ν + 1)))) μ1) : Mt kX4_tag [.ref 1, .int (nI a), .int (i), .int (s)] μ Q := by
  have hB := hR.2.1
  have hK : nI (tagK s) = 8 := by rw [hs]; rfl
  refine Mt.enter rfl (Nat.le_of_ble_eq_true rfl) ?_
  refine X.aload_n dX4_tag_0 rfl ?_
  refine X.iload_n dX4_tag_1 rfl ?_
  refine X.cV1a (k' := kX4_channelAt) dX4_tag_2 (hB.1 1 (by decide) (by decide)) ⟨by decide, rfl⟩ v_X4_channelAt wm_X4_59 wi_X4_channelAt ws_X4_channelAt ⟨Nat.le_of_ble_eq_true rfl, Nat.le_of_ble_eq_true rfl⟩ n_X4_channelAt (Nat.le_of_ble_eq_true rfl) ?_
  refine x_channelAt hB ha ?_
  refine ⟨_, rfl, ?_⟩
  refine X.astore dX4_tag_5 (Nat.le_of_ble_eq_true rfl) ?_
  refine X.aload dX4_tag_7 rfl ?_
  refine X.ifnonnull_r (tgt := 14) dX4_tag_9 (by decide) ?_
  refine X.aload_n dX4_tag_14 rfl ?_
  refine X.getI (kf := 3) dX4_tag_15 (hB.1 1 (by decide) (by decide)) (by decide) (by decide) rfl wf_X4_25 ?_
  refine X.sipush (v := 200) dX4_tag_18 (by decide) ?_
  refine X.icmp_lt_t (tgt := 27) dX4_tag_21 (by decide) ((by rw [hR.gm]; exact nI_lt (b := 200) (by have := hR.wg.2; omega) (by decide))) ?_
  refine X.aload_n dX4_tag_27 rfl ?_
  refine X.dup dX4_tag_28 ?_
  refine X.getI (kf := 3) dX4_tag_29 (hB.1 1 (by decide) (by decide)) (by decide) (by decide) rfl wf_X4_25 ?_
  refine X.iconst (v := 1) dX4_tag_32 (by decide) ?_
  refine X.iadd dX4_tag_33 ?_
  refine X.putI (kf := 3) dX4_tag_34 (hB.1 1 (by decide) (by decide)) (by decide) (by decide) rfl (Or.inl rfl) ⟨rfl, rfl⟩ wf_X4_25 ?_
  refine X.aload_n dX4_tag_37 rfl ?_
  refine X.getR (b := 26) (kf := 9) dX4_tag_38 (hB.1 1 (by decide) (by decide)) (by decide) (by decide) rfl wf_X4_49 (hB.2.1 9 (by decide)) ?_
  refine X.iload_n dX4_tag_41 rfl ?_
  refine X.if_eq_t (tgt := 50) dX4_tag_42 (by decide) (hs) ?_
  refine X.bipush (v := 8) dX4_tag_50 (by decide) ?_
  refine X.aload_n dX4_tag_52 rfl ?_
  refine X.getI (kf := 3) dX4_tag_53 (hB.1 1 (by decide) (by decide)) (by decide) (by decide) rfl wf_X4_25 ?_
  refine X.i2l dX4_tag_56 ?_
  refine X.null dX4_tag_57 ?_
  refine X.cV3v (k' := kX1_become) dX4_tag_58 (hB.1 26 (by decide) (by decide)) ⟨by decide, rfl⟩ v_X1_become wm_X4_115 wi_X1_become ws_X1_become ⟨Nat.le_of_ble_eq_true rfl, Nat.le_of_ble_eq_true rfl⟩ n_X1_become (Nat.le_of_ble_eq_true rfl) ?_
  have e : mI (sI μ 1 3 (mI μ 1 3 + 1)) 1 3 = nI (gM ν + 1) := by rw [mI_s, hR.gm, nI_1]
  rw [e, nI_l (by have := hR.wg.2; omega)]
  have hR0 := hR
  have hR := hR.tag hg s
  have hB := hR.2.1
  have hC := tag_cell hR0 hg (s := s)
  rw [show (8 : Int32) = nI (tagK s) from hK.symm]
  refine x_become (r := none) (hR.hand (Or.inl rfl)) ?_
  refine ⟨rfl, ?_⟩
  have hR := hR.cell (Or.inl rfl) (nI (tagK s)) (lN (gM ν + 1)) none
  have hB := hR.2.1
  refine X.aload_n dX4_tag_61 rfl ?_
  refine X.aload dX4_tag_62 rfl ?_
  refine X.iload_n dX4_tag_64 rfl ?_
  refine X.aload_n dX4_tag_65 rfl ?_
  refine X.getR (b := 26) (kf := 9) dX4_tag_66 (hB.1 1 (by decide) (by decide)) (by decide) (by decide) rfl wf_X4_49 (hB.2.1 9 (by decide)) ?_
  refine X.cV2i (k' := kX2_write) dX4_tag_69 ((hB.2.2.1 a ha).1) ⟨by decide, rfl⟩ v_X2_write wm_X4_119 wi_X2_write ws_X2_write ⟨Nat.le_of_ble_eq_true rfl, Nat.le_of_ble_eq_true rfl⟩ n_X2_write (Nat.le_of_ble_eq_true rfl) ?_
  refine c_write hR ha (Or.inl rfl) (K := tagK s) (v := lN (gM ν + 1)) rfl (by unfold tagK; split <;> decide) hC hz (fun μ1 hR hL => ?_)
  have hB := hR.2.1
  refine ⟨_, rfl, ?_⟩
  refine X.aload_n dX4_tag_72 rfl ?_
  refine X.getI (kf := 3) dX4_tag_73 (hB.1 1 (by decide) (by decide)) (by decide) (by decide) rfl wf_X4_25 ?_
  refine X.cV2i (k' := kX4_answer) dX4_tag_76 (hB.1 1 (by decide) (by decide)) ⟨by decide, rfl⟩ v_X4_answer wm_X4_67 wi_X4_answer ws_X4_answer ⟨Nat.le_of_ble_eq_true rfl, Nat.le_of_ble_eq_true rfl⟩ n_X4_answer (Nat.le_of_ble_eq_true rfl) ?_
  have e3 : mI μ1 1 3 = nI (gM ν + 1) := by rw [hR.2.2.2.1.1.2.1, wr_44]; exact (tag_gM hR0 s).1
  rw [e3]
  refine c_answer_0 hR (fun μ1 hR => ?_)
  refine ⟨_, rfl, ?_⟩
  refine X.ret dX4_tag_79 ⟨trivial, ?_⟩
  exact hq _ hR
set_option maxRecDepth 100000 in
set_option maxHeartbeats 4000000 in
theorem c_tag_r0 {a : Nat} {i s : Int32} {ρ ν μ : xM} {φ κ : Nat → Nat} {B : Nat × Nat × Nat × (Nat → Prop)} {Q : Option Value → xM → Prop} (hR : Rel ρ ν μ φ κ B) (ha : a < 16) (hg : ¬ gM ν = 200) (hs : s = 0) (hz : ¬ noWriteM ν a i (tagK s) = 0) (hq : ∀ μ1, Rel ρ (metM (tag1M ν s) (noWriteM ν a i (tagK s))) μ1 φ κ B → Q (some (.int (rR (noWriteM ν a i (tagK s))))) μ1) : Mt kX4_tag [.ref 1, .int (nI a), .int (i), .int (s)] μ Q := by
  have hB := hR.2.1
  have hK : nI (tagK s) = 8 := by rw [hs]; rfl
  refine Mt.enter rfl (Nat.le_of_ble_eq_true rfl) ?_
  refine X.aload_n dX4_tag_0 rfl ?_
  refine X.iload_n dX4_tag_1 rfl ?_
  refine X.cV1a (k' := kX4_channelAt) dX4_tag_2 (hB.1 1 (by decide) (by decide)) ⟨by decide, rfl⟩ v_X4_channelAt wm_X4_59 wi_X4_channelAt ws_X4_channelAt ⟨Nat.le_of_ble_eq_true rfl, Nat.le_of_ble_eq_true rfl⟩ n_X4_channelAt (Nat.le_of_ble_eq_true rfl) ?_
  refine x_channelAt hB ha ?_
  refine ⟨_, rfl, ?_⟩
  refine X.astore dX4_tag_5 (Nat.le_of_ble_eq_true rfl) ?_
  refine X.aload dX4_tag_7 rfl ?_
  refine X.ifnonnull_r (tgt := 14) dX4_tag_9 (by decide) ?_
  refine X.aload_n dX4_tag_14 rfl ?_
  refine X.getI (kf := 3) dX4_tag_15 (hB.1 1 (by decide) (by decide)) (by decide) (by decide) rfl wf_X4_25 ?_
  refine X.sipush (v := 200) dX4_tag_18 (by decide) ?_
  refine X.icmp_lt_t (tgt := 27) dX4_tag_21 (by decide) ((by rw [hR.gm]; exact nI_lt (b := 200) (by have := hR.wg.2; omega) (by decide))) ?_
  refine X.aload_n dX4_tag_27 rfl ?_
  refine X.dup dX4_tag_28 ?_
  refine X.getI (kf := 3) dX4_tag_29 (hB.1 1 (by decide) (by decide)) (by decide) (by decide) rfl wf_X4_25 ?_
  refine X.iconst (v := 1) dX4_tag_32 (by decide) ?_
  refine X.iadd dX4_tag_33 ?_
  refine X.putI (kf := 3) dX4_tag_34 (hB.1 1 (by decide) (by decide)) (by decide) (by decide) rfl (Or.inl rfl) ⟨rfl, rfl⟩ wf_X4_25 ?_
  refine X.aload_n dX4_tag_37 rfl ?_
  refine X.getR (b := 26) (kf := 9) dX4_tag_38 (hB.1 1 (by decide) (by decide)) (by decide) (by decide) rfl wf_X4_49 (hB.2.1 9 (by decide)) ?_
  refine X.iload_n dX4_tag_41 rfl ?_
  refine X.if_eq_t (tgt := 50) dX4_tag_42 (by decide) (hs) ?_
  refine X.bipush (v := 8) dX4_tag_50 (by decide) ?_
  refine X.aload_n dX4_tag_52 rfl ?_
  refine X.getI (kf := 3) dX4_tag_53 (hB.1 1 (by decide) (by decide)) (by decide) (by decide) rfl wf_X4_25 ?_
  refine X.i2l dX4_tag_56 ?_
  refine X.null dX4_tag_57 ?_
  refine X.cV3v (k' := kX1_become) dX4_tag_58 (hB.1 26 (by decide) (by decide)) ⟨by decide, rfl⟩ v_X1_become wm_X4_115 wi_X1_become ws_X1_become ⟨Nat.le_of_ble_eq_true rfl, Nat.le_of_ble_eq_true rfl⟩ n_X1_become (Nat.le_of_ble_eq_true rfl) ?_
  have e : mI (sI μ 1 3 (mI μ 1 3 + 1)) 1 3 = nI (gM ν + 1) := by rw [mI_s, hR.gm, nI_1]
  rw [e, nI_l (by have := hR.wg.2; omega)]
  have hR0 := hR
  have hR := hR.tag hg s
  have hB := hR.2.1
  have hC := tag_cell hR0 hg (s := s)
  rw [show (8 : Int32) = nI (tagK s) from hK.symm]
  refine x_become (r := none) (hR.hand (Or.inl rfl)) ?_
  refine ⟨rfl, ?_⟩
  have hR := hR.cell (Or.inl rfl) (nI (tagK s)) (lN (gM ν + 1)) none
  have hB := hR.2.1
  refine X.aload_n dX4_tag_61 rfl ?_
  refine X.aload dX4_tag_62 rfl ?_
  refine X.iload_n dX4_tag_64 rfl ?_
  refine X.aload_n dX4_tag_65 rfl ?_
  refine X.getR (b := 26) (kf := 9) dX4_tag_66 (hB.1 1 (by decide) (by decide)) (by decide) (by decide) rfl wf_X4_49 (hB.2.1 9 (by decide)) ?_
  refine X.cV2i (k' := kX2_write) dX4_tag_69 ((hB.2.2.1 a ha).1) ⟨by decide, rfl⟩ v_X2_write wm_X4_119 wi_X2_write ws_X2_write ⟨Nat.le_of_ble_eq_true rfl, Nat.le_of_ble_eq_true rfl⟩ n_X2_write (Nat.le_of_ble_eq_true rfl) ?_
  refine c_write_o hR ha (Or.inl rfl) (K := tagK s) rfl (by unfold tagK; split <;> decide) hz ?_
  refine ⟨_, rfl, ?_⟩
  refine X.aload_n dX4_tag_72 rfl ?_
  refine X.getI (kf := 3) dX4_tag_73 (hB.1 1 (by decide) (by decide)) (by decide) (by decide) rfl wf_X4_25 ?_
  refine X.cV2i (k' := kX4_answer) dX4_tag_76 (hB.1 1 (by decide) (by decide)) ⟨by decide, rfl⟩ v_X4_answer wm_X4_67 wi_X4_answer ws_X4_answer ⟨Nat.le_of_ble_eq_true rfl, Nat.le_of_ble_eq_true rfl⟩ n_X4_answer (Nat.le_of_ble_eq_true rfl) ?_
  refine c_answer_r hR (r := noWriteM ν a i (tagK s)) (by have := noWrite_le ν a i (tagK s); omega) hz (fun μ1 hR => ?_)
  refine ⟨_, rfl, ?_⟩
  refine X.ret dX4_tag_79 ⟨trivial, ?_⟩
  exact hq _ hR
set_option maxRecDepth 100000 in
set_option maxHeartbeats 4000000 in
theorem c_tag_in1 {a : Nat} {i s : Int32} {ρ ν μ : xM} {φ κ : Nat → Nat} {B : Nat × Nat × Nat × (Nat → Prop)} {Q : Option Value → xM → Prop} (hR : Rel ρ ν μ φ κ B) (ha : a < 16) (hg : ¬ gM ν = 200) (hs : s = 1) (hz : noWriteM ν a i (tagK s) = 0) (hq : ∀ μ1, Rel ρ (metM (writesM (tag1M ν s) a i (tagK s) (lN (gM ν + 1))) 0) μ1 φ κ B → Q (some (.int (nI (gM ν + 1)))) μ1) : Mt kX4_tag [.ref 1, .int (nI a), .int (i), .int (s)] μ Q := by
  have hB := hR.2.1
  have hK : nI (tagK s) = 9 := by rw [hs]; rfl
  refine Mt.enter rfl (Nat.le_of_ble_eq_true rfl) ?_
  refine X.aload_n dX4_tag_0 rfl ?_
  refine X.iload_n dX4_tag_1 rfl ?_
  refine X.cV1a (k' := kX4_channelAt) dX4_tag_2 (hB.1 1 (by decide) (by decide)) ⟨by decide, rfl⟩ v_X4_channelAt wm_X4_59 wi_X4_channelAt ws_X4_channelAt ⟨Nat.le_of_ble_eq_true rfl, Nat.le_of_ble_eq_true rfl⟩ n_X4_channelAt (Nat.le_of_ble_eq_true rfl) ?_
  refine x_channelAt hB ha ?_
  refine ⟨_, rfl, ?_⟩
  refine X.astore dX4_tag_5 (Nat.le_of_ble_eq_true rfl) ?_
  refine X.aload dX4_tag_7 rfl ?_
  refine X.ifnonnull_r (tgt := 14) dX4_tag_9 (by decide) ?_
  refine X.aload_n dX4_tag_14 rfl ?_
  refine X.getI (kf := 3) dX4_tag_15 (hB.1 1 (by decide) (by decide)) (by decide) (by decide) rfl wf_X4_25 ?_
  refine X.sipush (v := 200) dX4_tag_18 (by decide) ?_
  refine X.icmp_lt_t (tgt := 27) dX4_tag_21 (by decide) ((by rw [hR.gm]; exact nI_lt (b := 200) (by have := hR.wg.2; omega) (by decide))) ?_
  refine X.aload_n dX4_tag_27 rfl ?_
  refine X.dup dX4_tag_28 ?_
  refine X.getI (kf := 3) dX4_tag_29 (hB.1 1 (by decide) (by decide)) (by decide) (by decide) rfl wf_X4_25 ?_
  refine X.iconst (v := 1) dX4_tag_32 (by decide) ?_
  refine X.iadd dX4_tag_33 ?_
  refine X.putI (kf := 3) dX4_tag_34 (hB.1 1 (by decide) (by decide)) (by decide) (by decide) rfl (Or.inl rfl) ⟨rfl, rfl⟩ wf_X4_25 ?_
  refine X.aload_n dX4_tag_37 rfl ?_
  refine X.getR (b := 26) (kf := 9) dX4_tag_38 (hB.1 1 (by decide) (by decide)) (by decide) (by decide) rfl wf_X4_49 (hB.2.1 9 (by decide)) ?_
  refine X.iload_n dX4_tag_41 rfl ?_
  refine X.if_eq_f (tgt := 50) dX4_tag_42 (by decide) ((by rw [hs]; decide)) ?_
  refine X.bipush (v := 9) dX4_tag_45 (by decide) ?_
  refine X.goto (tgt := 52) dX4_tag_47 (by decide) ?_
  refine X.aload_n dX4_tag_52 rfl ?_
  refine X.getI (kf := 3) dX4_tag_53 (hB.1 1 (by decide) (by decide)) (by decide) (by decide) rfl wf_X4_25 ?_
  refine X.i2l dX4_tag_56 ?_
  refine X.null dX4_tag_57 ?_
  refine X.cV3v (k' := kX1_become) dX4_tag_58 (hB.1 26 (by decide) (by decide)) ⟨by decide, rfl⟩ v_X1_become wm_X4_115 wi_X1_become ws_X1_become ⟨Nat.le_of_ble_eq_true rfl, Nat.le_of_ble_eq_true rfl⟩ n_X1_become (Nat.le_of_ble_eq_true rfl) ?_
  have e : mI (sI μ 1 3 (mI μ 1 3 + 1)) 1 3 = nI (gM ν + 1) := by rw [mI_s, hR.gm, nI_1]
  rw [e, nI_l (by have := hR.wg.2; omega)]
  have hR0 := hR
  have hR := hR.tag hg s
  have hB := hR.2.1
  have hC := tag_cell hR0 hg (s := s)
  rw [show (9 : Int32) = nI (tagK s) from hK.symm]
  refine x_become (r := none) (hR.hand (Or.inl rfl)) ?_
  refine ⟨rfl, ?_⟩
  have hR := hR.cell (Or.inl rfl) (nI (tagK s)) (lN (gM ν + 1)) none
  have hB := hR.2.1
  refine X.aload_n dX4_tag_61 rfl ?_
  refine X.aload dX4_tag_62 rfl ?_
  refine X.iload_n dX4_tag_64 rfl ?_
  refine X.aload_n dX4_tag_65 rfl ?_
  refine X.getR (b := 26) (kf := 9) dX4_tag_66 (hB.1 1 (by decide) (by decide)) (by decide) (by decide) rfl wf_X4_49 (hB.2.1 9 (by decide)) ?_
  refine X.cV2i (k' := kX2_write) dX4_tag_69 ((hB.2.2.1 a ha).1) ⟨by decide, rfl⟩ v_X2_write wm_X4_119 wi_X2_write ws_X2_write ⟨Nat.le_of_ble_eq_true rfl, Nat.le_of_ble_eq_true rfl⟩ n_X2_write (Nat.le_of_ble_eq_true rfl) ?_
  refine c_write hR ha (Or.inl rfl) (K := tagK s) (v := lN (gM ν + 1)) rfl (by unfold tagK; split <;> decide) hC hz (fun μ1 hR hL => ?_)
  have hB := hR.2.1
  refine ⟨_, rfl, ?_⟩
  refine X.aload_n dX4_tag_72 rfl ?_
  refine X.getI (kf := 3) dX4_tag_73 (hB.1 1 (by decide) (by decide)) (by decide) (by decide) rfl wf_X4_25 ?_
  refine X.cV2i (k' := kX4_answer) dX4_tag_76 (hB.1 1 (by decide) (by decide)) ⟨by decide, rfl⟩ v_X4_answer wm_X4_67 wi_X4_answer ws_X4_answer ⟨Nat.le_of_ble_eq_true rfl, Nat.le_of_ble_eq_true rfl⟩ n_X4_answer (Nat.le_of_ble_eq_true rfl) ?_
  have e3 : mI μ1 1 3 = nI (gM ν + 1) := by rw [hR.2.2.2.1.1.2.1, wr_44]; exact (tag_gM hR0 s).1
  rw [e3]
  refine c_answer_0 hR (fun μ1 hR => ?_)
  refine ⟨_, rfl, ?_⟩
  refine X.ret dX4_tag_79 ⟨trivial, ?_⟩
  exact hq _ hR
set_option maxRecDepth 100000 in
set_option maxHeartbeats 4000000 in
theorem c_tag_r1 {a : Nat} {i s : Int32} {ρ ν μ : xM} {φ κ : Nat → Nat} {B : Nat × Nat × Nat × (Nat → Prop)} {Q : Option Value → xM → Prop} (hR : Rel ρ ν μ φ κ B) (ha : a < 16) (hg : ¬ gM ν = 200) (hs : s = 1) (hz : ¬ noWriteM ν a i (tagK s) = 0) (hq : ∀ μ1, Rel ρ (metM (tag1M ν s) (noWriteM ν a i (tagK s))) μ1 φ κ B → Q (some (.int (rR (noWriteM ν a i (tagK s))))) μ1) : Mt kX4_tag [.ref 1, .int (nI a), .int (i), .int (s)] μ Q := by
  have hB := hR.2.1
  have hK : nI (tagK s) = 9 := by rw [hs]; rfl
  refine Mt.enter rfl (Nat.le_of_ble_eq_true rfl) ?_
  refine X.aload_n dX4_tag_0 rfl ?_
  refine X.iload_n dX4_tag_1 rfl ?_
  refine X.cV1a (k' := kX4_channelAt) dX4_tag_2 (hB.1 1 (by decide) (by decide)) ⟨by decide, rfl⟩ v_X4_channelAt wm_X4_59 wi_X4_channelAt ws_X4_channelAt ⟨Nat.le_of_ble_eq_true rfl, Nat.le_of_ble_eq_true rfl⟩ n_X4_channelAt (Nat.le_of_ble_eq_true rfl) ?_
  refine x_channelAt hB ha ?_
  refine ⟨_, rfl, ?_⟩
  refine X.astore dX4_tag_5 (Nat.le_of_ble_eq_true rfl) ?_
  refine X.aload dX4_tag_7 rfl ?_
  refine X.ifnonnull_r (tgt := 14) dX4_tag_9 (by decide) ?_
  refine X.aload_n dX4_tag_14 rfl ?_
  refine X.getI (kf := 3) dX4_tag_15 (hB.1 1 (by decide) (by decide)) (by decide) (by decide) rfl wf_X4_25 ?_
  refine X.sipush (v := 200) dX4_tag_18 (by decide) ?_
  refine X.icmp_lt_t (tgt := 27) dX4_tag_21 (by decide) ((by rw [hR.gm]; exact nI_lt (b := 200) (by have := hR.wg.2; omega) (by decide))) ?_
  refine X.aload_n dX4_tag_27 rfl ?_
  refine X.dup dX4_tag_28 ?_
  refine X.getI (kf := 3) dX4_tag_29 (hB.1 1 (by decide) (by decide)) (by decide) (by decide) rfl wf_X4_25 ?_
  refine X.iconst (v := 1) dX4_tag_32 (by decide) ?_
  refine X.iadd dX4_tag_33 ?_
  refine X.putI (kf := 3) dX4_tag_34 (hB.1 1 (by decide) (by decide)) (by decide) (by decide) rfl (Or.inl rfl) ⟨rfl, rfl⟩ wf_X4_25 ?_
  refine X.aload_n dX4_tag_37 rfl ?_
  refine X.getR (b := 26) (kf := 9) dX4_tag_38 (hB.1 1 (by decide) (by decide)) (by decide) (by decide) rfl wf_X4_49 (hB.2.1 9 (by decide)) ?_
  refine X.iload_n dX4_tag_41 rfl ?_
  refine X.if_eq_f (tgt := 50) dX4_tag_42 (by decide) ((by rw [hs]; decide)) ?_
  refine X.bipush (v := 9) dX4_tag_45 (by decide) ?_
  refine X.goto (tgt := 52) dX4_tag_47 (by decide) ?_
  refine X.aload_n dX4_tag_52 rfl ?_
  refine X.getI (kf := 3) dX4_tag_53 (hB.1 1 (by decide) (by decide)) (by decide) (by decide) rfl wf_X4_25 ?_
  refine X.i2l dX4_tag_56 ?_
  refine X.null dX4_tag_57 ?_
  refine X.cV3v (k' := kX1_become) dX4_tag_58 (hB.1 26 (by decide) (by decide)) ⟨by decide, rfl⟩ v_X1_become wm_X4_115 wi_X1_become ws_X1_become ⟨Nat.le_of_ble_eq_true rfl, Nat.le_of_ble_eq_true rfl⟩ n_X1_become (Nat.le_of_ble_eq_true rfl) ?_
  have e : mI (sI μ 1 3 (mI μ 1 3 + 1)) 1 3 = nI (gM ν + 1) := by rw [mI_s, hR.gm, nI_1]
  rw [e, nI_l (by have := hR.wg.2; omega)]
  have hR0 := hR
  have hR := hR.tag hg s
  have hB := hR.2.1
  have hC := tag_cell hR0 hg (s := s)
  rw [show (9 : Int32) = nI (tagK s) from hK.symm]
  refine x_become (r := none) (hR.hand (Or.inl rfl)) ?_
  refine ⟨rfl, ?_⟩
  have hR := hR.cell (Or.inl rfl) (nI (tagK s)) (lN (gM ν + 1)) none
  have hB := hR.2.1
  refine X.aload_n dX4_tag_61 rfl ?_
  refine X.aload dX4_tag_62 rfl ?_
  refine X.iload_n dX4_tag_64 rfl ?_
  refine X.aload_n dX4_tag_65 rfl ?_
  refine X.getR (b := 26) (kf := 9) dX4_tag_66 (hB.1 1 (by decide) (by decide)) (by decide) (by decide) rfl wf_X4_49 (hB.2.1 9 (by decide)) ?_
  refine X.cV2i (k' := kX2_write) dX4_tag_69 ((hB.2.2.1 a ha).1) ⟨by decide, rfl⟩ v_X2_write wm_X4_119 wi_X2_write ws_X2_write ⟨Nat.le_of_ble_eq_true rfl, Nat.le_of_ble_eq_true rfl⟩ n_X2_write (Nat.le_of_ble_eq_true rfl) ?_
  refine c_write_o hR ha (Or.inl rfl) (K := tagK s) rfl (by unfold tagK; split <;> decide) hz ?_
  refine ⟨_, rfl, ?_⟩
  refine X.aload_n dX4_tag_72 rfl ?_
  refine X.getI (kf := 3) dX4_tag_73 (hB.1 1 (by decide) (by decide)) (by decide) (by decide) rfl wf_X4_25 ?_
  refine X.cV2i (k' := kX4_answer) dX4_tag_76 (hB.1 1 (by decide) (by decide)) ⟨by decide, rfl⟩ v_X4_answer wm_X4_67 wi_X4_answer ws_X4_answer ⟨Nat.le_of_ble_eq_true rfl, Nat.le_of_ble_eq_true rfl⟩ n_X4_answer (Nat.le_of_ble_eq_true rfl) ?_
  refine c_answer_r hR (r := noWriteM ν a i (tagK s)) (by have := noWrite_le ν a i (tagK s); omega) hz (fun μ1 hR => ?_)
  refine ⟨_, rfl, ?_⟩
  refine X.ret dX4_tag_79 ⟨trivial, ?_⟩
  exact hq _ hR
set_option maxRecDepth 100000 in
set_option maxHeartbeats 4000000 in
theorem c_asCell_t {b : Nat} {ρ ν μ : xM} {φ κ : Nat → Nat} {B : Nat × Nat × Nat × (Nat → Prop)} {Q : Option Value → xM → Prop} (hR : Rel ρ ν μ φ κ B) (hb : b < 16) (h0 : noTapeM ν b = 0) (h4 : kd ν (tp ν b) = 4) (hq : Q none (cellP μ 26 (nI 10) ((nI (sz ν (tp ν b))).toInt64) (some (φ (tp ν b))))) : Mt kX2_asCell [.ref (28 + b), .ref 26] μ Q := by
  have hB := hR.2.1
  have hT := (hR.tr (live_c hb h0)).ts
  refine Mt.enter rfl (Nat.le_of_ble_eq_true rfl) ?_
  refine X.aload_n dX2_asCell_0 rfl ?_
  refine X.getR (b := (φ (tp ν b))) (kf := 1) dX2_asCell_1 ((hB.2.2.1 b hb).1) (by decide) (by decide) rfl wf_X2_9 (hR.chT hb h0) ?_
  refine X.ifnull_r dX2_asCell_4 ?_
  refine X.aload_n dX2_asCell_7 rfl ?_
  refine X.getR (b := (φ (tp ν b))) (kf := 1) dX2_asCell_8 ((hB.2.2.1 b hb).1) (by decide) (by decide) rfl wf_X2_9 (hR.chT hb h0) ?_
  refine X.getI (kf := 0) dX2_asCell_11 (hT.1.1) (by decide) (by decide) rfl wf_X2_36 ?_
  refine X.iconst (v := 4) dX2_asCell_14 (by decide) ?_
  refine X.icmp_ne_f (tgt := 39) dX2_asCell_15 (by decide) ((by rw [hT.2.1.1, h4]; rfl)) ?_
  refine X.aload_n dX2_asCell_18 rfl ?_
  refine X.bipush (v := 10) dX2_asCell_19 (by decide) ?_
  refine X.aload_n dX2_asCell_21 rfl ?_
  refine X.getR (b := (φ (tp ν b))) (kf := 1) dX2_asCell_22 ((hB.2.2.1 b hb).1) (by decide) (by decide) rfl wf_X2_9 (hR.chT hb h0) ?_
  refine X.getI (kf := 1) dX2_asCell_25 (hT.1.1) (by decide) (by decide) rfl wf_X2_52 ?_
  refine X.i2l dX2_asCell_28 ?_
  refine X.aload_n dX2_asCell_29 rfl ?_
  refine X.getR (b := (φ (tp ν b))) (kf := 1) dX2_asCell_30 ((hB.2.2.1 b hb).1) (by decide) (by decide) rfl wf_X2_9 (hR.chT hb h0) ?_
  refine X.cV3v (k' := kX1_become) dX2_asCell_33 (hR.hand (Or.inl rfl)) ⟨by decide, rfl⟩ v_X1_become wm_X2_55 wi_X1_become ws_X1_become ⟨Nat.le_of_ble_eq_true rfl, Nat.le_of_ble_eq_true rfl⟩ n_X1_become (Nat.le_of_ble_eq_true rfl) ?_
  rw [hT.2.1.2]
  refine x_become (r := some (φ (tp ν b))) (hR.hand (Or.inl rfl)) ?_
  refine ⟨rfl, ?_⟩
  refine X.goto (tgt := 65) dX2_asCell_36 (by decide) ?_
  refine X.retv dX2_asCell_65 ⟨trivial, ?_⟩
  exact hq
set_option maxRecDepth 100000 in
set_option maxHeartbeats 4000000 in
theorem c_asCell_k {b : Nat} {ρ ν μ : xM} {φ κ : Nat → Nat} {B : Nat × Nat × Nat × (Nat → Prop)} {Q : Option Value → xM → Prop} (hR : Rel ρ ν μ φ κ B) (hb : b < 16) (h0 : noTapeM ν b = 0) (h4 : ¬ kd ν (tp ν b) = 4) (hq : Q none (cellP μ 26 (nI 12) (0) (none))) : Mt kX2_asCell [.ref (28 + b), .ref 26] μ Q := by
  have hB := hR.2.1
  have hT := (hR.tr (live_c hb h0)).ts
  have hk := kd_le hR.wt (tp_lt hR.wt hb h0)
  have hs : ¬ sortM ν b = 0 := by
    unfold noTapeM at h0
    unfold sortM
    by_cases h1 : mI ν 50 b = -1
    · rw [if_pos h1] at h0; omega
    · rw [if_neg h1] at h0 ⊢
      by_cases h2 : mI ν 50 b = -2
      · rw [if_pos h2] at h0; omega
      · rw [if_neg h2]; decide
  refine Mt.enter rfl (Nat.le_of_ble_eq_true rfl) ?_
  refine X.aload_n dX2_asCell_0 rfl ?_
  refine X.getR (b := (φ (tp ν b))) (kf := 1) dX2_asCell_1 ((hB.2.2.1 b hb).1) (by decide) (by decide) rfl wf_X2_9 (hR.chT hb h0) ?_
  refine X.ifnull_r dX2_asCell_4 ?_
  refine X.aload_n dX2_asCell_7 rfl ?_
  refine X.getR (b := (φ (tp ν b))) (kf := 1) dX2_asCell_8 ((hB.2.2.1 b hb).1) (by decide) (by decide) rfl wf_X2_9 (hR.chT hb h0) ?_
  refine X.getI (kf := 0) dX2_asCell_11 (hT.1.1) (by decide) (by decide) rfl wf_X2_36 ?_
  refine X.iconst (v := 4) dX2_asCell_14 (by decide) ?_
  refine X.icmp_ne_t (tgt := 39) dX2_asCell_15 (by decide) ((by rw [hT.2.1.1]; exact nI_neq h4 (by omega) (by decide))) ?_
  refine X.aload_n dX2_asCell_39 rfl ?_
  refine X.cV0i (k' := kX2_has) dX2_asCell_40 ((hB.2.2.1 b hb).1) ⟨by decide, rfl⟩ v_X2_has wm_X2_61 wi_X2_has ws_X2_has ⟨Nat.le_of_ble_eq_true rfl, Nat.le_of_ble_eq_true rfl⟩ n_X2_has (Nat.le_of_ble_eq_true rfl) ?_
  refine c_has hR hb ?_
  refine ⟨_, rfl, ?_⟩
  refine X.if_ne_t (tgt := 57) dX2_asCell_43 (by decide) (hs) ?_
  refine X.aload_n dX2_asCell_57 rfl ?_
  refine X.bipush (v := 12) dX2_asCell_58 (by decide) ?_
  refine X.lconst (v := 0) dX2_asCell_60 (by decide) ?_
  refine X.null dX2_asCell_61 ?_
  refine X.cV3v (k' := kX1_become) dX2_asCell_62 (hR.hand (Or.inl rfl)) ⟨by decide, rfl⟩ v_X1_become wm_X2_55 wi_X1_become ws_X1_become ⟨Nat.le_of_ble_eq_true rfl, Nat.le_of_ble_eq_true rfl⟩ n_X1_become (Nat.le_of_ble_eq_true rfl) ?_
  refine x_become (r := none) (hR.hand (Or.inl rfl)) ?_
  refine ⟨rfl, ?_⟩
  refine X.retv dX2_asCell_65 ⟨trivial, ?_⟩
  exact hq
set_option maxRecDepth 100000 in
set_option maxHeartbeats 4000000 in
theorem c_asCell_n {b : Nat} {ρ ν μ : xM} {φ κ : Nat → Nat} {B : Nat × Nat × Nat × (Nat → Prop)} {Q : Option Value → xM → Prop} (hR : Rel ρ ν μ φ κ B) (hb : b < 16) (h1 : mI ν 50 b = -1) (hq : Q none (cellP μ 26 (nI 11) (0) (none))) : Mt kX2_asCell [.ref (28 + b), .ref 26] μ Q := by
  have hB := hR.2.1
  have h0 : ¬ noTapeM ν b = 0 := by unfold noTapeM; rw [if_pos h1]; decide
  refine Mt.enter rfl (Nat.le_of_ble_eq_true rfl) ?_
  refine X.aload_n dX2_asCell_0 rfl ?_
  refine X.getN (kf := 1) dX2_asCell_1 ((hB.2.2.1 b hb).1) (by decide) (by decide) rfl wf_X2_9 (hR.chN hb h0) ?_
  refine X.ifnull_n (tgt := 39) dX2_asCell_4 (by decide) ?_
  refine X.aload_n dX2_asCell_39 rfl ?_
  refine X.cV0i (k' := kX2_has) dX2_asCell_40 ((hB.2.2.1 b hb).1) ⟨by decide, rfl⟩ v_X2_has wm_X2_61 wi_X2_has ws_X2_has ⟨Nat.le_of_ble_eq_true rfl, Nat.le_of_ble_eq_true rfl⟩ n_X2_has (Nat.le_of_ble_eq_true rfl) ?_
  refine c_has hR hb ?_
  refine ⟨_, rfl, ?_⟩
  refine X.if_ne_f (tgt := 57) dX2_asCell_43 (by decide) ((by unfold sortM; rw [if_pos h1])) ?_
  refine X.aload_n dX2_asCell_46 rfl ?_
  refine X.bipush (v := 11) dX2_asCell_47 (by decide) ?_
  refine X.lconst (v := 0) dX2_asCell_49 (by decide) ?_
  refine X.null dX2_asCell_50 ?_
  refine X.cV3v (k' := kX1_become) dX2_asCell_51 (hR.hand (Or.inl rfl)) ⟨by decide, rfl⟩ v_X1_become wm_X2_55 wi_X1_become ws_X1_become ⟨Nat.le_of_ble_eq_true rfl, Nat.le_of_ble_eq_true rfl⟩ n_X1_become (Nat.le_of_ble_eq_true rfl) ?_
  refine x_become (r := none) (hR.hand (Or.inl rfl)) ?_
  refine ⟨rfl, ?_⟩
  refine X.goto (tgt := 65) dX2_asCell_54 (by decide) ?_
  refine X.retv dX2_asCell_65 ⟨trivial, ?_⟩
  exact hq
set_option maxRecDepth 100000 in
set_option maxHeartbeats 4000000 in
theorem c_asCell_p {b : Nat} {ρ ν μ : xM} {φ κ : Nat → Nat} {B : Nat × Nat × Nat × (Nat → Prop)} {Q : Option Value → xM → Prop} (hR : Rel ρ ν μ φ κ B) (hb : b < 16) (h1 : mI ν 50 b = -2) (hq : Q none (cellP μ 26 (nI 12) (0) (none))) : Mt kX2_asCell [.ref (28 + b), .ref 26] μ Q := by
  have hB := hR.2.1
  have h0 : ¬ noTapeM ν b = 0 := by unfold noTapeM; rw [h1]; decide
  refine Mt.enter rfl (Nat.le_of_ble_eq_true rfl) ?_
  refine X.aload_n dX2_asCell_0 rfl ?_
  refine X.getN (kf := 1) dX2_asCell_1 ((hB.2.2.1 b hb).1) (by decide) (by decide) rfl wf_X2_9 (hR.chN hb h0) ?_
  refine X.ifnull_n (tgt := 39) dX2_asCell_4 (by decide) ?_
  refine X.aload_n dX2_asCell_39 rfl ?_
  refine X.cV0i (k' := kX2_has) dX2_asCell_40 ((hB.2.2.1 b hb).1) ⟨by decide, rfl⟩ v_X2_has wm_X2_61 wi_X2_has ws_X2_has ⟨Nat.le_of_ble_eq_true rfl, Nat.le_of_ble_eq_true rfl⟩ n_X2_has (Nat.le_of_ble_eq_true rfl) ?_
  refine c_has hR hb ?_
  refine ⟨_, rfl, ?_⟩
  refine X.if_ne_t (tgt := 57) dX2_asCell_43 (by decide) ((by unfold sortM; rw [h1]; decide)) ?_
  refine X.aload_n dX2_asCell_57 rfl ?_
  refine X.bipush (v := 12) dX2_asCell_58 (by decide) ?_
  refine X.lconst (v := 0) dX2_asCell_60 (by decide) ?_
  refine X.null dX2_asCell_61 ?_
  refine X.cV3v (k' := kX1_become) dX2_asCell_62 (hR.hand (Or.inl rfl)) ⟨by decide, rfl⟩ v_X1_become wm_X2_55 wi_X1_become ws_X1_become ⟨Nat.le_of_ble_eq_true rfl, Nat.le_of_ble_eq_true rfl⟩ n_X1_become (Nat.le_of_ble_eq_true rfl) ?_
  refine x_become (r := none) (hR.hand (Or.inl rfl)) ?_
  refine ⟨rfl, ?_⟩
  refine X.retv dX2_asCell_65 ⟨trivial, ?_⟩
  exact hq
theorem c_asCell {b : Nat} {ρ ν μ : xM} {φ κ : Nat → Nat} {B : Nat × Nat × Nat × (Nat → Prop)} {Q : Option Value → xM → Prop} (hR : Rel ρ ν μ φ κ B) (hb : b < 16) (hq : ∀ num r, CellR ν φ B.2.2.2 (rackK ν b) (rackV ν b) num r → Q none (cellP μ 26 (nI (rackK ν b)) num r)) : Mt kX2_asCell [.ref (28 + b), .ref 26] μ Q := by
  by_cases h1 : mI ν 50 b = -1
  · have eK : rackK ν b = 11 := by unfold rackK; rw [if_pos h1]
    have eV : rackV ν b = 0 := by unfold rackV; rw [eK, if_neg (by decide)]
    rw [eK, eV] at hq
    exact c_asCell_n hR hb h1 (hq _ _ (Or.inr (Or.inr (Or.inr ⟨Or.inl rfl, rfl, rfl, rfl⟩))))
  · by_cases h2 : mI ν 50 b = -2
    · have eK : rackK ν b = 12 := by unfold rackK; rw [if_neg h1, if_pos h2]
      have eV : rackV ν b = 0 := by unfold rackV; rw [eK, if_neg (by decide)]
      rw [eK, eV] at hq
      exact c_asCell_p hR hb h2 (hq _ _ (Or.inr (Or.inr (Or.inr ⟨Or.inr rfl, rfl, rfl, rfl⟩))))
    · have h0 := noTape_of h1 h2
      by_cases h4 : kd ν (tp ν b) = 4
      · have eK : rackK ν b = 10 := by unfold rackK; rw [if_neg h1, if_neg h2, if_pos h4]
        have lt := tp_lt hR.wt hb h0
        have eV : rackV ν b = lN (tp ν b + 1) := by
          unfold rackV
          rw [eK, if_pos rfl, (hR.wt.1 b hb h0).2, nI_l (by omega), lN_1]
        have ex := lx_lN (n := tp ν b + 1) (by omega)
        rw [eK, eV] at hq
        refine c_asCell_t hR hb h0 h4 (hq _ _ (Or.inr (Or.inr (Or.inl ⟨rfl, by rw [ex], by rw [ex]; omega, by rw [ex]; omega, ?_, ?_, ?_, ?_⟩))))
        · rw [ex, Nat.add_sub_cancel, ← (hR.wt.2.1 _ lt).2.1]
        · rw [ex, Nat.add_sub_cancel]
        · rw [ex, Nat.add_sub_cancel]; exact Or.inl (live_c hb h0)
        · rw [ex, Nat.add_sub_cancel]; exact h4
      · have eK : rackK ν b = 12 := by unfold rackK; rw [if_neg h1, if_neg h2, if_neg h4]
        have eV : rackV ν b = 0 := by unfold rackV; rw [eK, if_neg (by decide)]
        rw [eK, eV] at hq
        exact c_asCell_k hR hb h0 h4 (hq _ _ (Or.inr (Or.inr (Or.inr ⟨Or.inr rfl, rfl, rfl, rfl⟩))))
set_option maxRecDepth 100000 in
set_option maxHeartbeats 4000000 in
theorem c_rack_i {a b : Nat} {i : Int32} {ρ ν μ : xM} {φ κ : Nat → Nat} {B : Nat × Nat × Nat × (Nat → Prop)} {Q : Option Value → xM → Prop} (hR : Rel ρ ν μ φ κ B) (ha : a < 16) (hb : b < 16) (hz : noWriteM ν a i (rackK ν b) = 0) (hq : ∀ μ1, Rel ρ (metM (writesM ν a i (rackK ν b) (rackV ν b)) 0) μ1 φ κ B → Q (some (.int (1))) μ1) : Mt kX4_rack [.ref 1, .int (nI a), .int (i), .int (nI b)] μ Q := by
  have hB := hR.2.1
  refine Mt.enter rfl (Nat.le_of_ble_eq_true rfl) ?_
  refine X.aload_n dX4_rack_0 rfl ?_
  refine X.iload_n dX4_rack_1 rfl ?_
  refine X.cV1a (k' := kX4_channelAt) dX4_rack_2 (hB.1 1 (by decide) (by decide)) ⟨by decide, rfl⟩ v_X4_channelAt wm_X4_59 wi_X4_channelAt ws_X4_channelAt ⟨Nat.le_of_ble_eq_true rfl, Nat.le_of_ble_eq_true rfl⟩ n_X4_channelAt (Nat.le_of_ble_eq_true rfl) ?_
  refine x_channelAt hB ha ?_
  refine ⟨_, rfl, ?_⟩
  refine X.astore dX4_rack_5 (Nat.le_of_ble_eq_true rfl) ?_
  refine X.aload_n dX4_rack_7 rfl ?_
  refine X.iload_n dX4_rack_8 rfl ?_
  refine X.cV1a (k' := kX4_channelAt) dX4_rack_9 (hB.1 1 (by decide) (by decide)) ⟨by decide, rfl⟩ v_X4_channelAt wm_X4_59 wi_X4_channelAt ws_X4_channelAt ⟨Nat.le_of_ble_eq_true rfl, Nat.le_of_ble_eq_true rfl⟩ n_X4_channelAt (Nat.le_of_ble_eq_true rfl) ?_
  refine x_channelAt hB hb ?_
  refine ⟨_, rfl, ?_⟩
  refine X.astore dX4_rack_12 (Nat.le_of_ble_eq_true rfl) ?_
  refine X.aload dX4_rack_14 rfl ?_
  refine X.ifnull_r dX4_rack_16 ?_
  refine X.aload dX4_rack_19 rfl ?_
  refine X.ifnonnull_r (tgt := 26) dX4_rack_21 (by decide) ?_
  refine X.aload dX4_rack_26 rfl ?_
  refine X.aload_n dX4_rack_28 rfl ?_
  refine X.getR (b := 26) (kf := 9) dX4_rack_29 (hB.1 1 (by decide) (by decide)) (by decide) (by decide) rfl wf_X4_49 (hB.2.1 9 (by decide)) ?_
  refine X.cV1v (k' := kX2_asCell) dX4_rack_32 ((hB.2.2.1 b hb).1) ⟨by decide, rfl⟩ v_X2_asCell wm_X4_140 wi_X2_asCell ws_X2_asCell ⟨Nat.le_of_ble_eq_true rfl, Nat.le_of_ble_eq_true rfl⟩ n_X2_asCell (Nat.le_of_ble_eq_true rfl) ?_
  refine c_asCell hR hb (fun num r hC => ?_)
  refine ⟨rfl, ?_⟩
  have hR := hR.cell (Or.inl rfl) (nI (rackK ν b)) num r
  have hB := hR.2.1
  refine X.aload_n dX4_rack_35 rfl ?_
  refine X.aload dX4_rack_36 rfl ?_
  refine X.iload_n dX4_rack_38 rfl ?_
  refine X.aload_n dX4_rack_39 rfl ?_
  refine X.getR (b := 26) (kf := 9) dX4_rack_40 (hB.1 1 (by decide) (by decide)) (by decide) (by decide) rfl wf_X4_49 (hB.2.1 9 (by decide)) ?_
  refine X.cV2i (k' := kX2_write) dX4_rack_43 ((hB.2.2.1 a ha).1) ⟨by decide, rfl⟩ v_X2_write wm_X4_119 wi_X2_write ws_X2_write ⟨Nat.le_of_ble_eq_true rfl, Nat.le_of_ble_eq_true rfl⟩ n_X2_write (Nat.le_of_ble_eq_true rfl) ?_
  refine c_write hR ha (Or.inl rfl) (K := rackK ν b) (v := rackV ν b) rfl (rackK_le ν b) hC hz (fun μ1 hR hL => ?_)
  have hB := hR.2.1
  refine ⟨_, rfl, ?_⟩
  refine X.iconst (v := 1) dX4_rack_46 (by decide) ?_
  refine X.cV2i (k' := kX4_answer) dX4_rack_47 (hB.1 1 (by decide) (by decide)) ⟨by decide, rfl⟩ v_X4_answer wm_X4_67 wi_X4_answer ws_X4_answer ⟨Nat.le_of_ble_eq_true rfl, Nat.le_of_ble_eq_true rfl⟩ n_X4_answer (Nat.le_of_ble_eq_true rfl) ?_
  refine c_answer_0 hR (fun μ1 hR => ?_)
  refine ⟨_, rfl, ?_⟩
  refine X.ret dX4_rack_50 ⟨trivial, ?_⟩
  exact hq _ hR
set_option maxRecDepth 100000 in
set_option maxHeartbeats 4000000 in
theorem c_rack_r {a b : Nat} {i : Int32} {ρ ν μ : xM} {φ κ : Nat → Nat} {B : Nat × Nat × Nat × (Nat → Prop)} {Q : Option Value → xM → Prop} (hR : Rel ρ ν μ φ κ B) (ha : a < 16) (hb : b < 16) (hz : ¬ noWriteM ν a i (rackK ν b) = 0) (hq : ∀ μ1, Rel ρ (metM ν (noWriteM ν a i (rackK ν b))) μ1 φ κ B → Q (some (.int (rR (noWriteM ν a i (rackK ν b))))) μ1) : Mt kX4_rack [.ref 1, .int (nI a), .int (i), .int (nI b)] μ Q := by
  have hB := hR.2.1
  refine Mt.enter rfl (Nat.le_of_ble_eq_true rfl) ?_
  refine X.aload_n dX4_rack_0 rfl ?_
  refine X.iload_n dX4_rack_1 rfl ?_
  refine X.cV1a (k' := kX4_channelAt) dX4_rack_2 (hB.1 1 (by decide) (by decide)) ⟨by decide, rfl⟩ v_X4_channelAt wm_X4_59 wi_X4_channelAt ws_X4_channelAt ⟨Nat.le_of_ble_eq_true rfl, Nat.le_of_ble_eq_true rfl⟩ n_X4_channelAt (Nat.le_of_ble_eq_true rfl) ?_
  refine x_channelAt hB ha ?_
  refine ⟨_, rfl, ?_⟩
  refine X.astore dX4_rack_5 (Nat.le_of_ble_eq_true rfl) ?_
  refine X.aload_n dX4_rack_7 rfl ?_
  refine X.iload_n dX4_rack_8 rfl ?_
  refine X.cV1a (k' := kX4_channelAt) dX4_rack_9 (hB.1 1 (by decide) (by decide)) ⟨by decide, rfl⟩ v_X4_channelAt wm_X4_59 wi_X4_channelAt ws_X4_channelAt ⟨Nat.le_of_ble_eq_true rfl, Nat.le_of_ble_eq_true rfl⟩ n_X4_channelAt (Nat.le_of_ble_eq_true rfl) ?_
  refine x_channelAt hB hb ?_
  refine ⟨_, rfl, ?_⟩
  refine X.astore dX4_rack_12 (Nat.le_of_ble_eq_true rfl) ?_
  refine X.aload dX4_rack_14 rfl ?_
  refine X.ifnull_r dX4_rack_16 ?_
  refine X.aload dX4_rack_19 rfl ?_
  refine X.ifnonnull_r (tgt := 26) dX4_rack_21 (by decide) ?_
  refine X.aload dX4_rack_26 rfl ?_
  refine X.aload_n dX4_rack_28 rfl ?_
  refine X.getR (b := 26) (kf := 9) dX4_rack_29 (hB.1 1 (by decide) (by decide)) (by decide) (by decide) rfl wf_X4_49 (hB.2.1 9 (by decide)) ?_
  refine X.cV1v (k' := kX2_asCell) dX4_rack_32 ((hB.2.2.1 b hb).1) ⟨by decide, rfl⟩ v_X2_asCell wm_X4_140 wi_X2_asCell ws_X2_asCell ⟨Nat.le_of_ble_eq_true rfl, Nat.le_of_ble_eq_true rfl⟩ n_X2_asCell (Nat.le_of_ble_eq_true rfl) ?_
  refine c_asCell hR hb (fun num r hC => ?_)
  refine ⟨rfl, ?_⟩
  have hR := hR.cell (Or.inl rfl) (nI (rackK ν b)) num r
  have hB := hR.2.1
  refine X.aload_n dX4_rack_35 rfl ?_
  refine X.aload dX4_rack_36 rfl ?_
  refine X.iload_n dX4_rack_38 rfl ?_
  refine X.aload_n dX4_rack_39 rfl ?_
  refine X.getR (b := 26) (kf := 9) dX4_rack_40 (hB.1 1 (by decide) (by decide)) (by decide) (by decide) rfl wf_X4_49 (hB.2.1 9 (by decide)) ?_
  refine X.cV2i (k' := kX2_write) dX4_rack_43 ((hB.2.2.1 a ha).1) ⟨by decide, rfl⟩ v_X2_write wm_X4_119 wi_X2_write ws_X2_write ⟨Nat.le_of_ble_eq_true rfl, Nat.le_of_ble_eq_true rfl⟩ n_X2_write (Nat.le_of_ble_eq_true rfl) ?_
  refine c_write_o hR ha (Or.inl rfl) (K := rackK ν b) rfl (rackK_le ν b) hz ?_
  refine ⟨_, rfl, ?_⟩
  refine X.iconst (v := 1) dX4_rack_46 (by decide) ?_
  refine X.cV2i (k' := kX4_answer) dX4_rack_47 (hB.1 1 (by decide) (by decide)) ⟨by decide, rfl⟩ v_X4_answer wm_X4_67 wi_X4_answer ws_X4_answer ⟨Nat.le_of_ble_eq_true rfl, Nat.le_of_ble_eq_true rfl⟩ n_X4_answer (Nat.le_of_ble_eq_true rfl) ?_
  refine c_answer_r hR (r := noWriteM ν a i (rackK ν b)) (by have := noWrite_le ν a i (rackK ν b); omega) hz (fun μ1 hR => ?_)
  refine ⟨_, rfl, ?_⟩
  refine X.ret dX4_rack_50 ⟨trivial, ?_⟩
  exact hq _ hR
set_option maxRecDepth 100000 in
set_option maxHeartbeats 4000000 in
theorem c_unrack_r1 {a b : Nat} {i : Int32} {ρ ν μ : xM} {φ κ : Nat → Nat} {B : Nat × Nat × Nat × (Nat → Prop)} {Q : Option Value → xM → Prop} (hR : Rel ρ ν μ φ κ B) (ha : a < 16) (hb : b < 16) (hz : ¬ noPlaceM ν a i = 0) (hq : ∀ μ1, Rel ρ (metM ν (noPlaceM ν a i)) μ1 φ κ B → Q (some (.int (rR (noPlaceM ν a i)))) μ1) : Mt kX4_unrack [.ref 1, .int (nI a), .int (i), .int (nI b)] μ Q := by
  have hB := hR.2.1
  refine Mt.enter rfl (Nat.le_of_ble_eq_true rfl) ?_
  refine X.aload_n dX4_unrack_0 rfl ?_
  refine X.iload_n dX4_unrack_1 rfl ?_
  refine X.cV1a (k' := kX4_channelAt) dX4_unrack_2 (hB.1 1 (by decide) (by decide)) ⟨by decide, rfl⟩ v_X4_channelAt wm_X4_59 wi_X4_channelAt ws_X4_channelAt ⟨Nat.le_of_ble_eq_true rfl, Nat.le_of_ble_eq_true rfl⟩ n_X4_channelAt (Nat.le_of_ble_eq_true rfl) ?_
  refine x_channelAt hB ha ?_
  refine ⟨_, rfl, ?_⟩
  refine X.astore dX4_unrack_5 (Nat.le_of_ble_eq_true rfl) ?_
  refine X.aload_n dX4_unrack_7 rfl ?_
  refine X.iload_n dX4_unrack_8 rfl ?_
  refine X.cV1a (k' := kX4_channelAt) dX4_unrack_9 (hB.1 1 (by decide) (by decide)) ⟨by decide, rfl⟩ v_X4_channelAt wm_X4_59 wi_X4_channelAt ws_X4_channelAt ⟨Nat.le_of_ble_eq_true rfl, Nat.le_of_ble_eq_true rfl⟩ n_X4_channelAt (Nat.le_of_ble_eq_true rfl) ?_
  refine x_channelAt hB hb ?_
  refine ⟨_, rfl, ?_⟩
  refine X.astore dX4_unrack_12 (Nat.le_of_ble_eq_true rfl) ?_
  refine X.aload dX4_unrack_14 rfl ?_
  refine X.ifnull_r dX4_unrack_16 ?_
  refine X.aload dX4_unrack_19 rfl ?_
  refine X.ifnonnull_r (tgt := 26) dX4_unrack_21 (by decide) ?_
  refine X.aload dX4_unrack_26 rfl ?_
  refine X.iload_n dX4_unrack_28 rfl ?_
  refine X.aload_n dX4_unrack_29 rfl ?_
  refine X.getR (b := 26) (kf := 9) dX4_unrack_30 (hB.1 1 (by decide) (by decide)) (by decide) (by decide) rfl wf_X4_49 (hB.2.1 9 (by decide)) ?_
  refine X.cV2i (k' := kX2_read) dX4_unrack_33 ((hB.2.2.1 a ha).1) ⟨by decide, rfl⟩ v_X2_read wm_X4_123 wi_X2_read ws_X2_read ⟨Nat.le_of_ble_eq_true rfl, Nat.le_of_ble_eq_true rfl⟩ n_X2_read (Nat.le_of_ble_eq_true rfl) ?_
  refine c_read_o hR ha hz ?_
  refine ⟨_, rfl, ?_⟩
  refine X.istore dX4_unrack_36 (Nat.le_of_ble_eq_true rfl) ?_
  refine X.iload dX4_unrack_38 rfl ?_
  refine X.if_ne_t (tgt := 70) dX4_unrack_40 (by decide) ((fun q => hz (nI_z q (by have := noPlace_le ν a i; omega)))) ?_
  refine X.iload dX4_unrack_70 rfl ?_
  refine X.if_eq_f (tgt := 83) dX4_unrack_72 (by decide) ((fun q => hz (nI_z q (by have := noPlace_le ν a i; omega)))) ?_
  refine X.aload_n dX4_unrack_75 rfl ?_
  refine X.iload dX4_unrack_76 rfl ?_
  refine X.iconst (v := 0) dX4_unrack_78 (by decide) ?_
  refine X.cV2i (k' := kX4_answer) dX4_unrack_79 (hB.1 1 (by decide) (by decide)) ⟨by decide, rfl⟩ v_X4_answer wm_X4_67 wi_X4_answer ws_X4_answer ⟨Nat.le_of_ble_eq_true rfl, Nat.le_of_ble_eq_true rfl⟩ n_X4_answer (Nat.le_of_ble_eq_true rfl) ?_
  refine c_answer_r hR (r := noPlaceM ν a i) (by have := noPlace_le ν a i; omega) hz (fun μ1 hR => ?_)
  refine ⟨_, rfl, ?_⟩
  refine X.ret dX4_unrack_82 ⟨trivial, ?_⟩
  exact hq _ hR
set_option maxRecDepth 100000 in
set_option maxHeartbeats 4000000 in
theorem c_unrack_r2 {a b : Nat} {i : Int32} {ρ ν μ : xM} {φ κ : Nat → Nat} {B : Nat × Nat × Nat × (Nat → Prop)} {Q : Option Value → xM → Prop} (hR : Rel ρ ν μ φ κ B) (ha : a < 16) (hb : b < 16) (hz : noPlaceM ν a i = 0) (hk : (cellKindM ν (tp ν a) (ix i)) < 10) (hq : ∀ μ1, Rel ρ (metM ν 2) μ1 φ κ B → Q (some (.int (rR 2))) μ1) : Mt kX4_unrack [.ref 1, .int (nI a), .int (i), .int (nI b)] μ Q := by
  have hB := hR.2.1
  obtain ⟨h0, -, -, hj⟩ := noPlace_0 hz
  refine Mt.enter rfl (Nat.le_of_ble_eq_true rfl) ?_
  refine X.aload_n dX4_unrack_0 rfl ?_
  refine X.iload_n dX4_unrack_1 rfl ?_
  refine X.cV1a (k' := kX4_channelAt) dX4_unrack_2 (hB.1 1 (by decide) (by decide)) ⟨by decide, rfl⟩ v_X4_channelAt wm_X4_59 wi_X4_channelAt ws_X4_channelAt ⟨Nat.le_of_ble_eq_true rfl, Nat.le_of_ble_eq_true rfl⟩ n_X4_channelAt (Nat.le_of_ble_eq_true rfl) ?_
  refine x_channelAt hB ha ?_
  refine ⟨_, rfl, ?_⟩
  refine X.astore dX4_unrack_5 (Nat.le_of_ble_eq_true rfl) ?_
  refine X.aload_n dX4_unrack_7 rfl ?_
  refine X.iload_n dX4_unrack_8 rfl ?_
  refine X.cV1a (k' := kX4_channelAt) dX4_unrack_9 (hB.1 1 (by decide) (by decide)) ⟨by decide, rfl⟩ v_X4_channelAt wm_X4_59 wi_X4_channelAt ws_X4_channelAt ⟨Nat.le_of_ble_eq_true rfl, Nat.le_of_ble_eq_true rfl⟩ n_X4_channelAt (Nat.le_of_ble_eq_true rfl) ?_
  refine x_channelAt hB hb ?_
  refine ⟨_, rfl, ?_⟩
  refine X.astore dX4_unrack_12 (Nat.le_of_ble_eq_true rfl) ?_
  refine X.aload dX4_unrack_14 rfl ?_
  refine X.ifnull_r dX4_unrack_16 ?_
  refine X.aload dX4_unrack_19 rfl ?_
  refine X.ifnonnull_r (tgt := 26) dX4_unrack_21 (by decide) ?_
  refine X.aload dX4_unrack_26 rfl ?_
  refine X.iload_n dX4_unrack_28 rfl ?_
  refine X.aload_n dX4_unrack_29 rfl ?_
  refine X.getR (b := 26) (kf := 9) dX4_unrack_30 (hB.1 1 (by decide) (by decide)) (by decide) (by decide) rfl wf_X4_49 (hB.2.1 9 (by decide)) ?_
  refine X.cV2i (k' := kX2_read) dX4_unrack_33 ((hB.2.2.1 a ha).1) ⟨by decide, rfl⟩ v_X2_read wm_X4_123 wi_X2_read ws_X2_read ⟨Nat.le_of_ble_eq_true rfl, Nat.le_of_ble_eq_true rfl⟩ n_X2_read (Nat.le_of_ble_eq_true rfl) ?_
  refine c_read hR ha (Or.inl rfl) hz ?_
  refine ⟨_, rfl, ?_⟩
  have hC := hR.cellR ha h0 hj
  have hR := hR.cell (Or.inl rfl) (nI (cellKindM ν (tp ν a) (ix i))) (numM ν (tp ν a) (ix i)) (tref ν φ (tp ν a) (ix i))
  have hB := hR.2.1
  refine X.istore dX4_unrack_36 (Nat.le_of_ble_eq_true rfl) ?_
  refine X.iload dX4_unrack_38 rfl ?_
  refine X.if_ne_f (tgt := 70) dX4_unrack_40 (by decide) ((by decide)) ?_
  refine X.aload_n dX4_unrack_43 rfl ?_
  refine X.getR (b := 26) (kf := 9) dX4_unrack_44 (hB.1 1 (by decide) (by decide)) (by decide) (by decide) rfl wf_X4_49 (hB.2.1 9 (by decide)) ?_
  refine X.getI (kf := 0) dX4_unrack_47 (hB.1 26 (by decide) (by decide)) (by decide) (by decide) rfl wf_X4_126 ?_
  refine X.bipush (v := 10) dX4_unrack_50 (by decide) ?_
  refine X.icmp_eq_f (tgt := 70) dX4_unrack_52 (by decide) (nI_neq (a := (cellKindM ν (tp ν a) (ix i))) (b := 10) (by omega) (by omega) (by decide)) ?_
  refine X.aload_n dX4_unrack_55 rfl ?_
  refine X.getR (b := 26) (kf := 9) dX4_unrack_56 (hB.1 1 (by decide) (by decide)) (by decide) (by decide) rfl wf_X4_49 (hB.2.1 9 (by decide)) ?_
  refine X.getI (kf := 0) dX4_unrack_59 (hB.1 26 (by decide) (by decide)) (by decide) (by decide) rfl wf_X4_126 ?_
  refine X.bipush (v := 11) dX4_unrack_62 (by decide) ?_
  refine X.icmp_eq_f (tgt := 70) dX4_unrack_64 (by decide) (nI_neq (a := (cellKindM ν (tp ν a) (ix i))) (b := 11) (by omega) (by omega) (by decide)) ?_
  refine X.iconst (v := 2) dX4_unrack_67 (by decide) ?_
  refine X.istore dX4_unrack_68 (Nat.le_of_ble_eq_true rfl) ?_
  refine X.iload dX4_unrack_70 rfl ?_
  refine X.if_eq_f (tgt := 83) dX4_unrack_72 (by decide) ((by decide)) ?_
  refine X.aload_n dX4_unrack_75 rfl ?_
  refine X.iload dX4_unrack_76 rfl ?_
  refine X.iconst (v := 0) dX4_unrack_78 (by decide) ?_
  refine X.cV2i (k' := kX4_answer) dX4_unrack_79 (hB.1 1 (by decide) (by decide)) ⟨by decide, rfl⟩ v_X4_answer wm_X4_67 wi_X4_answer ws_X4_answer ⟨Nat.le_of_ble_eq_true rfl, Nat.le_of_ble_eq_true rfl⟩ n_X4_answer (Nat.le_of_ble_eq_true rfl) ?_
  refine c_answer_r hR (r := 2) (by decide) (by decide) (fun μ1 hR => ?_)
  refine ⟨_, rfl, ?_⟩
  refine X.ret dX4_unrack_82 ⟨trivial, ?_⟩
  exact hq _ hR
theorem met_50 (ν : xM) (b : Nat) (x : Int32) : metM (sI ν 50 b x) 0 = sI (metM ν 0) 50 b x := by
  have e : ∀ (f : Nat → Nat → Int32) (y z : Int32), up2 (up2 (up2 f 50 b x) 44 25 y) 65 0 z = up2 (up2 (up2 f 44 25 y) 65 0 z) 50 b x := by
    intro f y z
    funext p j
    unfold up2
    by_cases h1 : p = 65 ∧ j = 0
    · rw [if_pos h1, if_neg (by omega), if_pos h1]
    · rw [if_neg h1]
      by_cases h2 : p = 44 ∧ j = 25
      · rw [if_pos h2, if_neg (by omega), if_neg h1, if_pos h2]
      · rw [if_neg h2]
        by_cases h3 : p = 50 ∧ j = b
        · rw [if_pos h3, if_pos h3]
        · rw [if_neg h3, if_neg h3, if_neg h1, if_neg h2]
  show (mT ν, up2 (up2 (up2 (mI ν) 50 b x) 44 25 (nI 0)) 65 0 (mI ν 65 0), mJ ν, mR ν, mN ν, mS ν) = (mT ν, up2 (up2 (up2 (mI ν) 44 25 (nI 0)) 65 0 (mI ν 65 0)) 50 b x, mJ ν, mR ν, mN ν, mS ν)
  rw [e]
set_option maxRecDepth 100000 in
set_option maxHeartbeats 4000000 in
theorem c_unrack_e {a b : Nat} {i : Int32} {ρ ν μ : xM} {φ κ : Nat → Nat} {B : Nat × Nat × Nat × (Nat → Prop)} {Q : Option Value → xM → Prop} (hR : Rel ρ ν μ φ κ B) (ha : a < 16) (hb : b < 16) (hz : noPlaceM ν a i = 0) (hk : (cellKindM ν (tp ν a) (ix i)) = 11) (hq : ∀ μ1, Rel ρ (sI (metM ν 0) 50 b (-1)) μ1 φ κ B → Q (some (.int (0))) μ1) : Mt kX4_unrack [.ref 1, .int (nI a), .int (i), .int (nI b)] μ Q := by
  have hB := hR.2.1
  obtain ⟨h0, -, -, hj⟩ := noPlace_0 hz
  have hn0 : tref ν φ (tp ν a) (ix i) = none := by
    rcases hR.cellR ha h0 hj with ⟨-, -, q⟩ | ⟨-, -, q, -⟩ | ⟨q, -⟩ | ⟨-, -, -, q⟩
    · exact q
    · exact q
    · omega
    · exact q
  have hn : ∀ {x : Int32} {y : Int64} {μ : xM}, mR (cellP μ 26 x y (tref ν φ (tp ν a) (ix i))) 26 2 = none := by
    intro x y μ
    unfold cellP
    rw [mR_s]
    exact hn0
  refine Mt.enter rfl (Nat.le_of_ble_eq_true rfl) ?_
  refine X.aload_n dX4_unrack_0 rfl ?_
  refine X.iload_n dX4_unrack_1 rfl ?_
  refine X.cV1a (k' := kX4_channelAt) dX4_unrack_2 (hB.1 1 (by decide) (by decide)) ⟨by decide, rfl⟩ v_X4_channelAt wm_X4_59 wi_X4_channelAt ws_X4_channelAt ⟨Nat.le_of_ble_eq_true rfl, Nat.le_of_ble_eq_true rfl⟩ n_X4_channelAt (Nat.le_of_ble_eq_true rfl) ?_
  refine x_channelAt hB ha ?_
  refine ⟨_, rfl, ?_⟩
  refine X.astore dX4_unrack_5 (Nat.le_of_ble_eq_true rfl) ?_
  refine X.aload_n dX4_unrack_7 rfl ?_
  refine X.iload_n dX4_unrack_8 rfl ?_
  refine X.cV1a (k' := kX4_channelAt) dX4_unrack_9 (hB.1 1 (by decide) (by decide)) ⟨by decide, rfl⟩ v_X4_channelAt wm_X4_59 wi_X4_channelAt ws_X4_channelAt ⟨Nat.le_of_ble_eq_true rfl, Nat.le_of_ble_eq_true rfl⟩ n_X4_channelAt (Nat.le_of_ble_eq_true rfl) ?_
  refine x_channelAt hB hb ?_
  refine ⟨_, rfl, ?_⟩
  refine X.astore dX4_unrack_12 (Nat.le_of_ble_eq_true rfl) ?_
  refine X.aload dX4_unrack_14 rfl ?_
  refine X.ifnull_r dX4_unrack_16 ?_
  refine X.aload dX4_unrack_19 rfl ?_
  refine X.ifnonnull_r (tgt := 26) dX4_unrack_21 (by decide) ?_
  refine X.aload dX4_unrack_26 rfl ?_
  refine X.iload_n dX4_unrack_28 rfl ?_
  refine X.aload_n dX4_unrack_29 rfl ?_
  refine X.getR (b := 26) (kf := 9) dX4_unrack_30 (hB.1 1 (by decide) (by decide)) (by decide) (by decide) rfl wf_X4_49 (hB.2.1 9 (by decide)) ?_
  refine X.cV2i (k' := kX2_read) dX4_unrack_33 ((hB.2.2.1 a ha).1) ⟨by decide, rfl⟩ v_X2_read wm_X4_123 wi_X2_read ws_X2_read ⟨Nat.le_of_ble_eq_true rfl, Nat.le_of_ble_eq_true rfl⟩ n_X2_read (Nat.le_of_ble_eq_true rfl) ?_
  refine c_read hR ha (Or.inl rfl) hz ?_
  refine ⟨_, rfl, ?_⟩
  have hC := hR.cellR ha h0 hj
  have hR := hR.cell (Or.inl rfl) (nI (cellKindM ν (tp ν a) (ix i))) (numM ν (tp ν a) (ix i)) (tref ν φ (tp ν a) (ix i))
  have hB := hR.2.1
  refine X.istore dX4_unrack_36 (Nat.le_of_ble_eq_true rfl) ?_
  refine X.iload dX4_unrack_38 rfl ?_
  refine X.if_ne_f (tgt := 70) dX4_unrack_40 (by decide) ((by decide)) ?_
  refine X.aload_n dX4_unrack_43 rfl ?_
  refine X.getR (b := 26) (kf := 9) dX4_unrack_44 (hB.1 1 (by decide) (by decide)) (by decide) (by decide) rfl wf_X4_49 (hB.2.1 9 (by decide)) ?_
  refine X.getI (kf := 0) dX4_unrack_47 (hB.1 26 (by decide) (by decide)) (by decide) (by decide) rfl wf_X4_126 ?_
  refine X.bipush (v := 10) dX4_unrack_50 (by decide) ?_
  refine X.icmp_eq_f (tgt := 70) dX4_unrack_52 (by decide) ((by show ¬ nI (cellKindM ν (tp ν a) (ix i)) = 10; rw [hk]; decide)) ?_
  refine X.aload_n dX4_unrack_55 rfl ?_
  refine X.getR (b := 26) (kf := 9) dX4_unrack_56 (hB.1 1 (by decide) (by decide)) (by decide) (by decide) rfl wf_X4_49 (hB.2.1 9 (by decide)) ?_
  refine X.getI (kf := 0) dX4_unrack_59 (hB.1 26 (by decide) (by decide)) (by decide) (by decide) rfl wf_X4_126 ?_
  refine X.bipush (v := 11) dX4_unrack_62 (by decide) ?_
  refine X.icmp_eq_t (tgt := 70) dX4_unrack_64 (by decide) ((by show nI (cellKindM ν (tp ν a) (ix i)) = 11; rw [hk]; rfl)) ?_
  refine X.iload dX4_unrack_70 rfl ?_
  refine X.if_eq_t (tgt := 83) dX4_unrack_72 (by decide) ((by decide)) ?_
  refine X.aload dX4_unrack_83 rfl ?_
  refine X.aload_n dX4_unrack_85 rfl ?_
  refine X.getR (b := 26) (kf := 9) dX4_unrack_86 (hB.1 1 (by decide) (by decide)) (by decide) (by decide) rfl wf_X4_49 (hB.2.1 9 (by decide)) ?_
  refine X.getN (kf := 2) dX4_unrack_89 (hB.1 26 (by decide) (by decide)) (by decide) (by decide) rfl wf_X4_144 (hn) ?_
  refine X.iconst (v := 0) dX4_unrack_92 (by decide) ?_
  refine X.cV2v (k' := kX2_hold) dX4_unrack_93 ((hB.2.2.1 b hb).1) ⟨by decide, rfl⟩ v_X2_hold wm_X4_76 wi_X2_hold ws_X2_hold ⟨Nat.le_of_ble_eq_true rfl, Nat.le_of_ble_eq_true rfl⟩ n_X2_hold (Nat.le_of_ble_eq_true rfl) ?_
  refine x_hold (r := none) hB hb (Or.inl rfl) ?_
  refine ⟨rfl, ?_⟩
  have hR := hR.hold hb (Or.inl ⟨rfl, rfl, rfl⟩)
  have hB := hR.2.1
  refine X.aload_n dX4_unrack_96 rfl ?_
  refine X.iconst (v := 0) dX4_unrack_97 (by decide) ?_
  refine X.aload_n dX4_unrack_98 rfl ?_
  refine X.getR (b := 26) (kf := 9) dX4_unrack_99 (hB.1 1 (by decide) (by decide)) (by decide) (by decide) rfl wf_X4_49 (hB.2.1 9 (by decide)) ?_
  refine X.getN (kf := 2) dX4_unrack_102 (hB.1 26 (by decide) (by decide)) (by decide) (by decide) rfl wf_X4_144 ((by show mR (sR _ (28 + b) 1 none) 26 2 = none; rw [mR_at (by omega)]; exact hn)) ?_
  refine X.ifnonnull_n dX4_unrack_105 ?_
  refine X.iconst (v := 0) dX4_unrack_108 (by decide) ?_
  refine X.goto (tgt := 122) dX4_unrack_109 (by decide) ?_
  refine X.cV2i (k' := kX4_answer) dX4_unrack_122 (hB.1 1 (by decide) (by decide)) ⟨by decide, rfl⟩ v_X4_answer wm_X4_67 wi_X4_answer ws_X4_answer ⟨Nat.le_of_ble_eq_true rfl, Nat.le_of_ble_eq_true rfl⟩ n_X4_answer (Nat.le_of_ble_eq_true rfl) ?_
  refine c_answer_0 hR (fun μ1 hR => ?_)
  refine ⟨_, rfl, ?_⟩
  refine X.ret dX4_unrack_125 ⟨trivial, ?_⟩
  rw [met_50] at hR
  exact hq _ hR
set_option maxRecDepth 100000 in
set_option maxHeartbeats 4000000 in
theorem c_unrack_t {a b : Nat} {i : Int32} {ρ ν μ : xM} {φ κ : Nat → Nat} {B : Nat × Nat × Nat × (Nat → Prop)} {Q : Option Value → xM → Prop} (hR : Rel ρ ν μ φ κ B) (ha : a < 16) (hb : b < 16) (hz : noPlaceM ν a i = 0) (hk : (cellKindM ν (tp ν a) (ix i)) = 10) (hq : ∀ μ1, Rel ρ (sI (metM ν 0) 50 b (nI (lx (cv ν (tp ν a) (ix i)) - 1))) μ1 φ κ B → Q (some (.int (mI ν 46 (lx (cv ν (tp ν a) (ix i)) - 1)))) μ1) : Mt kX4_unrack [.ref 1, .int (nI a), .int (i), .int (nI b)] μ Q := by
  have hB := hR.2.1
  obtain ⟨h0, -, -, hj⟩ := noPlace_0 hz
  have hR0 := hR
  obtain ⟨hn0, hl, h4⟩ : tref ν φ (tp ν a) (ix i) = some (φ (lx (cv ν (tp ν a) (ix i)) - 1)) ∧ lvE ν B.2.2.2 (lx (cv ν (tp ν a) (ix i)) - 1) ∧ kd ν (lx (cv ν (tp ν a) (ix i)) - 1) = 4 := by
    rcases hR.cellR ha h0 hj with ⟨q, -⟩ | ⟨q, -⟩ | ⟨-, -, -, -, -, q1, q2, q3⟩ | ⟨q, -⟩
    · omega
    · omega
    · exact ⟨q1, q2, q3⟩
    · omega
  have hO := hold_4 (hR.cell (Or.inl rfl) (nI (cellKindM ν (tp ν a) (ix i))) (numM ν (tp ν a) (ix i)) (tref ν φ (tp ν a) (ix i))) hl h4
  have hT := hR.2.2.2.2.2.1.1 _ hl
  have hn : ∀ {x : Int32} {y : Int64} {μ : xM}, mR (cellP μ 26 x y (tref ν φ (tp ν a) (ix i))) 26 2 = some (φ (lx (cv ν (tp ν a) (ix i)) - 1)) := by
    intro x y μ
    unfold cellP
    rw [mR_s]
    exact hn0
  refine Mt.enter rfl (Nat.le_of_ble_eq_true rfl) ?_
  refine X.aload_n dX4_unrack_0 rfl ?_
  refine X.iload_n dX4_unrack_1 rfl ?_
  refine X.cV1a (k' := kX4_channelAt) dX4_unrack_2 (hB.1 1 (by decide) (by decide)) ⟨by decide, rfl⟩ v_X4_channelAt wm_X4_59 wi_X4_channelAt ws_X4_channelAt ⟨Nat.le_of_ble_eq_true rfl, Nat.le_of_ble_eq_true rfl⟩ n_X4_channelAt (Nat.le_of_ble_eq_true rfl) ?_
  refine x_channelAt hB ha ?_
  refine ⟨_, rfl, ?_⟩
  refine X.astore dX4_unrack_5 (Nat.le_of_ble_eq_true rfl) ?_
  refine X.aload_n dX4_unrack_7 rfl ?_
  refine X.iload_n dX4_unrack_8 rfl ?_
  refine X.cV1a (k' := kX4_channelAt) dX4_unrack_9 (hB.1 1 (by decide) (by decide)) ⟨by decide, rfl⟩ v_X4_channelAt wm_X4_59 wi_X4_channelAt ws_X4_channelAt ⟨Nat.le_of_ble_eq_true rfl, Nat.le_of_ble_eq_true rfl⟩ n_X4_channelAt (Nat.le_of_ble_eq_true rfl) ?_
  refine x_channelAt hB hb ?_
  refine ⟨_, rfl, ?_⟩
  refine X.astore dX4_unrack_12 (Nat.le_of_ble_eq_true rfl) ?_
  refine X.aload dX4_unrack_14 rfl ?_
  refine X.ifnull_r dX4_unrack_16 ?_
  refine X.aload dX4_unrack_19 rfl ?_
  refine X.ifnonnull_r (tgt := 26) dX4_unrack_21 (by decide) ?_
  refine X.aload dX4_unrack_26 rfl ?_
  refine X.iload_n dX4_unrack_28 rfl ?_
  refine X.aload_n dX4_unrack_29 rfl ?_
  refine X.getR (b := 26) (kf := 9) dX4_unrack_30 (hB.1 1 (by decide) (by decide)) (by decide) (by decide) rfl wf_X4_49 (hB.2.1 9 (by decide)) ?_
  refine X.cV2i (k' := kX2_read) dX4_unrack_33 ((hB.2.2.1 a ha).1) ⟨by decide, rfl⟩ v_X2_read wm_X4_123 wi_X2_read ws_X2_read ⟨Nat.le_of_ble_eq_true rfl, Nat.le_of_ble_eq_true rfl⟩ n_X2_read (Nat.le_of_ble_eq_true rfl) ?_
  refine c_read hR ha (Or.inl rfl) hz ?_
  refine ⟨_, rfl, ?_⟩
  have hC := hR.cellR ha h0 hj
  have hR := hR.cell (Or.inl rfl) (nI (cellKindM ν (tp ν a) (ix i))) (numM ν (tp ν a) (ix i)) (tref ν φ (tp ν a) (ix i))
  have hB := hR.2.1
  refine X.istore dX4_unrack_36 (Nat.le_of_ble_eq_true rfl) ?_
  refine X.iload dX4_unrack_38 rfl ?_
  refine X.if_ne_f (tgt := 70) dX4_unrack_40 (by decide) ((by decide)) ?_
  refine X.aload_n dX4_unrack_43 rfl ?_
  refine X.getR (b := 26) (kf := 9) dX4_unrack_44 (hB.1 1 (by decide) (by decide)) (by decide) (by decide) rfl wf_X4_49 (hB.2.1 9 (by decide)) ?_
  refine X.getI (kf := 0) dX4_unrack_47 (hB.1 26 (by decide) (by decide)) (by decide) (by decide) rfl wf_X4_126 ?_
  refine X.bipush (v := 10) dX4_unrack_50 (by decide) ?_
  refine X.icmp_eq_t (tgt := 70) dX4_unrack_52 (by decide) ((by show nI (cellKindM ν (tp ν a) (ix i)) = 10; rw [hk]; rfl)) ?_
  refine X.iload dX4_unrack_70 rfl ?_
  refine X.if_eq_t (tgt := 83) dX4_unrack_72 (by decide) ((by decide)) ?_
  refine X.aload dX4_unrack_83 rfl ?_
  refine X.aload_n dX4_unrack_85 rfl ?_
  refine X.getR (b := 26) (kf := 9) dX4_unrack_86 (hB.1 1 (by decide) (by decide)) (by decide) (by decide) rfl wf_X4_49 (hB.2.1 9 (by decide)) ?_
  refine X.getR (b := (φ (lx (cv ν (tp ν a) (ix i)) - 1))) (kf := 2) dX4_unrack_89 (hB.1 26 (by decide) (by decide)) (by decide) (by decide) rfl wf_X4_144 (hn) ?_
  refine X.iconst (v := 0) dX4_unrack_92 (by decide) ?_
  refine X.cV2v (k' := kX2_hold) dX4_unrack_93 ((hB.2.2.1 b hb).1) ⟨by decide, rfl⟩ v_X2_hold wm_X4_76 wi_X2_hold ws_X2_hold ⟨Nat.le_of_ble_eq_true rfl, Nat.le_of_ble_eq_true rfl⟩ n_X2_hold (Nat.le_of_ble_eq_true rfl) ?_
  refine x_hold (r := some (φ (lx (cv ν (tp ν a) (ix i)) - 1))) hB hb (Or.inl rfl) ?_
  refine ⟨rfl, ?_⟩
  have hR := hR.hold hb (Or.inr (Or.inr ⟨(lx (cv ν (tp ν a) (ix i)) - 1), rfl, rfl, rfl, hO⟩))
  have hB := hR.2.1
  refine X.aload_n dX4_unrack_96 rfl ?_
  refine X.iconst (v := 0) dX4_unrack_97 (by decide) ?_
  refine X.aload_n dX4_unrack_98 rfl ?_
  refine X.getR (b := 26) (kf := 9) dX4_unrack_99 (hB.1 1 (by decide) (by decide)) (by decide) (by decide) rfl wf_X4_49 (hB.2.1 9 (by decide)) ?_
  refine X.getR (b := (φ (lx (cv ν (tp ν a) (ix i)) - 1))) (kf := 2) dX4_unrack_102 (hB.1 26 (by decide) (by decide)) (by decide) (by decide) rfl wf_X4_144 ((by show mR (sR _ (28 + b) 1 _) 26 2 = _; rw [mR_at (by omega)]; exact hn)) ?_
  refine X.ifnonnull_r (tgt := 112) dX4_unrack_105 (by decide) ?_
  refine X.aload_n dX4_unrack_112 rfl ?_
  refine X.getR (b := 26) (kf := 9) dX4_unrack_113 (hB.1 1 (by decide) (by decide)) (by decide) (by decide) rfl wf_X4_49 (hB.2.1 9 (by decide)) ?_
  refine X.getR (b := (φ (lx (cv ν (tp ν a) (ix i)) - 1))) (kf := 2) dX4_unrack_116 (hB.1 26 (by decide) (by decide)) (by decide) (by decide) rfl wf_X4_144 ((by show mR (sR _ (28 + b) 1 _) 26 2 = _; rw [mR_at (by omega)]; exact hn)) ?_
  refine X.getI (kf := 1) dX4_unrack_119 (hT.2.1.1) (by decide) (by decide) rfl wf_X4_145 ?_
  refine X.cV2i (k' := kX4_answer) dX4_unrack_122 (hB.1 1 (by decide) (by decide)) ⟨by decide, rfl⟩ v_X4_answer wm_X4_67 wi_X4_answer ws_X4_answer ⟨Nat.le_of_ble_eq_true rfl, Nat.le_of_ble_eq_true rfl⟩ n_X4_answer (Nat.le_of_ble_eq_true rfl) ?_
  rw [show mI (sI (sR (cellP μ 26 (nI (cellKindM ν (tp ν a) (ix i))) (numM ν (tp ν a) (ix i)) (tref ν φ (tp ν a) (ix i))) (28 + b) 1 (some (φ (lx (cv ν (tp ν a) (ix i)) - 1)))) (28 + b) 2 0) (φ (lx (cv ν (tp ν a) (ix i)) - 1)) 1 = mI ν 46 (lx (cv ν (tp ν a) (ix i)) - 1) by
      rw [mI_at (by have := hT.1.1; omega)]
      show mI (sI μ 26 0 _) (φ (lx (cv ν (tp ν a) (ix i)) - 1)) 1 = _
      rw [mI_at (by have := hT.1.1; omega), hT.2.2.1.2, ← (hR0.wt.2.1 _ hO.1).2.1]]
  refine c_answer_0 hR (fun μ1 hR => ?_)
  refine ⟨_, rfl, ?_⟩
  refine X.ret dX4_unrack_125 ⟨trivial, ?_⟩
  rw [met_50] at hR
  exact hq _ hR
