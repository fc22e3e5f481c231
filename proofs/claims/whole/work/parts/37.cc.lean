/-! the class: its calls, third part (laid by wip/whole/mkpb8.py) -/
set_option maxRecDepth 100000 in
set_option maxHeartbeats 4000000 in
theorem c_match_r1a {a b : Nat} {ρ ν μ : xM} {φ κ : Nat → Nat} {B : Nat × Nat × Nat × (Nat → Prop)} {Q : Option Value → xM → Prop} (hR : Rel ρ ν μ φ κ B) (ha : a < 16) (hb : b < 16) (h0 : ¬ noTapeM ν a = 0) (h1 : noTapeM ν b = 0) (hq : ∀ μ1, Rel ρ (metM ν (noTapeM ν a)) μ1 φ κ B → Q (some (.int (-110 - nI (noTapeM ν a)))) μ1) : Mt kX4_match [.ref 1, .int (nI a), .int (nI b)] μ Q := by
  have hB := hR.2.1
  refine Mt.enter rfl (Nat.le_of_ble_eq_true rfl) ?_
  refine X.aload_n dX4_match_0 rfl ?_
  refine X.iload_n dX4_match_1 rfl ?_
  refine X.cV1a (k' := kX4_channelAt) dX4_match_2 (hB.1 1 (by decide) (by decide)) ⟨by decide, rfl⟩ v_X4_channelAt wm_X4_59 wi_X4_channelAt ws_X4_channelAt ⟨Nat.le_of_ble_eq_true rfl, Nat.le_of_ble_eq_true rfl⟩ n_X4_channelAt (Nat.le_of_ble_eq_true rfl) ?_
  refine x_channelAt hB ha ?_
  refine ⟨_, rfl, ?_⟩
  refine X.astore_n dX4_match_5 (Nat.le_of_ble_eq_true rfl) ?_
  refine X.aload_n dX4_match_6 rfl ?_
  refine X.iload_n dX4_match_7 rfl ?_
  refine X.cV1a (k' := kX4_channelAt) dX4_match_8 (hB.1 1 (by decide) (by decide)) ⟨by decide, rfl⟩ v_X4_channelAt wm_X4_59 wi_X4_channelAt ws_X4_channelAt ⟨Nat.le_of_ble_eq_true rfl, Nat.le_of_ble_eq_true rfl⟩ n_X4_channelAt (Nat.le_of_ble_eq_true rfl) ?_
  refine x_channelAt hB hb ?_
  refine ⟨_, rfl, ?_⟩
  refine X.astore dX4_match_11 (Nat.le_of_ble_eq_true rfl) ?_
  refine X.aload_n dX4_match_13 rfl ?_
  refine X.ifnull_r dX4_match_14 ?_
  refine X.aload dX4_match_17 rfl ?_
  refine X.ifnonnull_r (tgt := 25) dX4_match_19 (by decide) ?_
  refine X.aload_n dX4_match_25 rfl ?_
  refine X.getN (kf := 1) dX4_match_26 ((hB.2.2.1 a ha).1) (by decide) (by decide) rfl wf_X4_84 (hR.chN ha h0) ?_
  refine X.astoreN dX4_match_29 (Nat.le_of_ble_eq_true rfl) ?_
  refine X.aload dX4_match_31 rfl ?_
  refine X.getR (b := (φ (tp ν b))) (kf := 1) dX4_match_33 ((hB.2.2.1 b hb).1) (by decide) (by decide) rfl wf_X4_84 (hR.chT hb h1) ?_
  refine X.astore dX4_match_36 (Nat.le_of_ble_eq_true rfl) ?_
  refine X.aloadN dX4_match_38 rfl ?_
  refine X.ifnull_n (tgt := 48) dX4_match_40 (by decide) ?_
  refine X.aloadN dX4_match_48 rfl ?_
  refine X.ifnonnull_n dX4_match_50 ?_
  refine X.aload_n dX4_match_53 rfl ?_
  refine X.cV0i (k' := kX2_refusalWithoutTape) dX4_match_54 ((hB.2.2.1 a ha).1) ⟨by decide, rfl⟩ v_X2_refusalWithoutTape wm_X4_180 wi_X2_refusalWithoutTape ws_X2_refusalWithoutTape ⟨Nat.le_of_ble_eq_true rfl, Nat.le_of_ble_eq_true rfl⟩ n_X2_refusalWithoutTape (Nat.le_of_ble_eq_true rfl) ?_
  refine c_refusal hR ha h0 ?_
  refine ⟨_, rfl, ?_⟩
  refine X.goto (tgt := 65) dX4_match_57 (by decide) ?_
  refine X.istore dX4_match_65 (Nat.le_of_ble_eq_true rfl) ?_
  refine X.aload_n dX4_match_67 rfl ?_
  refine X.iload dX4_match_68 rfl ?_
  refine X.cV1v (k' := kX4_note) dX4_match_70 (hB.1 1 (by decide) (by decide)) ⟨by decide, rfl⟩ v_X4_note wm_X4_133 wi_X4_note ws_X4_note ⟨Nat.le_of_ble_eq_true rfl, Nat.le_of_ble_eq_true rfl⟩ n_X4_note (Nat.le_of_ble_eq_true rfl) ?_
  refine c_note hR (by have := noTapeM_le ν a; omega) (fun μ1 hR => ?_)
  refine ⟨rfl, ?_⟩
  refine X.bipush (v := -110) dX4_match_73 (by decide) ?_
  refine X.iload dX4_match_75 rfl ?_
  refine X.isub dX4_match_77 ?_
  refine X.ret dX4_match_78 ⟨trivial, ?_⟩
  exact hq _ hR
set_option maxRecDepth 100000 in
set_option maxHeartbeats 4000000 in
theorem c_match_r1b {a b : Nat} {ρ ν μ : xM} {φ κ : Nat → Nat} {B : Nat × Nat × Nat × (Nat → Prop)} {Q : Option Value → xM → Prop} (hR : Rel ρ ν μ φ κ B) (ha : a < 16) (hb : b < 16) (h0 : ¬ noTapeM ν a = 0) (h1 : ¬ noTapeM ν b = 0) (hq : ∀ μ1, Rel ρ (metM ν (noTapeM ν a)) μ1 φ κ B → Q (some (.int (-110 - nI (noTapeM ν a)))) μ1) : Mt kX4_match [.ref 1, .int (nI a), .int (nI b)] μ Q := by
  have hB := hR.2.1
  refine Mt.enter rfl (Nat.le_of_ble_eq_true rfl) ?_
  refine X.aload_n dX4_match_0 rfl ?_
  refine X.iload_n dX4_match_1 rfl ?_
  refine X.cV1a (k' := kX4_channelAt) dX4_match_2 (hB.1 1 (by decide) (by decide)) ⟨by decide, rfl⟩ v_X4_channelAt wm_X4_59 wi_X4_channelAt ws_X4_channelAt ⟨Nat.le_of_ble_eq_true rfl, Nat.le_of_ble_eq_true rfl⟩ n_X4_channelAt (Nat.le_of_ble_eq_true rfl) ?_
  refine x_channelAt hB ha ?_
  refine ⟨_, rfl, ?_⟩
  refine X.astore_n dX4_match_5 (Nat.le_of_ble_eq_true rfl) ?_
  refine X.aload_n dX4_match_6 rfl ?_
  refine X.iload_n dX4_match_7 rfl ?_
  refine X.cV1a (k' := kX4_channelAt) dX4_match_8 (hB.1 1 (by decide) (by decide)) ⟨by decide, rfl⟩ v_X4_channelAt wm_X4_59 wi_X4_channelAt ws_X4_channelAt ⟨Nat.le_of_ble_eq_true rfl, Nat.le_of_ble_eq_true rfl⟩ n_X4_channelAt (Nat.le_of_ble_eq_true rfl) ?_
  refine x_channelAt hB hb ?_
  refine ⟨_, rfl, ?_⟩
  refine X.astore dX4_match_11 (Nat.le_of_ble_eq_true rfl) ?_
  refine X.aload_n dX4_match_13 rfl ?_
  refine X.ifnull_r dX4_match_14 ?_
  refine X.aload dX4_match_17 rfl ?_
  refine X.ifnonnull_r (tgt := 25) dX4_match_19 (by decide) ?_
  refine X.aload_n dX4_match_25 rfl ?_
  refine X.getN (kf := 1) dX4_match_26 ((hB.2.2.1 a ha).1) (by decide) (by decide) rfl wf_X4_84 (hR.chN ha h0) ?_
  refine X.astoreN dX4_match_29 (Nat.le_of_ble_eq_true rfl) ?_
  refine X.aload dX4_match_31 rfl ?_
  refine X.getN (kf := 1) dX4_match_33 ((hB.2.2.1 b hb).1) (by decide) (by decide) rfl wf_X4_84 (hR.chN hb h1) ?_
  refine X.astoreN dX4_match_36 (Nat.le_of_ble_eq_true rfl) ?_
  refine X.aloadN dX4_match_38 rfl ?_
  refine X.ifnull_n (tgt := 48) dX4_match_40 (by decide) ?_
  refine X.aloadN dX4_match_48 rfl ?_
  refine X.ifnonnull_n dX4_match_50 ?_
  refine X.aload_n dX4_match_53 rfl ?_
  refine X.cV0i (k' := kX2_refusalWithoutTape) dX4_match_54 ((hB.2.2.1 a ha).1) ⟨by decide, rfl⟩ v_X2_refusalWithoutTape wm_X4_180 wi_X2_refusalWithoutTape ws_X2_refusalWithoutTape ⟨Nat.le_of_ble_eq_true rfl, Nat.le_of_ble_eq_true rfl⟩ n_X2_refusalWithoutTape (Nat.le_of_ble_eq_true rfl) ?_
  refine c_refusal hR ha h0 ?_
  refine ⟨_, rfl, ?_⟩
  refine X.goto (tgt := 65) dX4_match_57 (by decide) ?_
  refine X.istore dX4_match_65 (Nat.le_of_ble_eq_true rfl) ?_
  refine X.aload_n dX4_match_67 rfl ?_
  refine X.iload dX4_match_68 rfl ?_
  refine X.cV1v (k' := kX4_note) dX4_match_70 (hB.1 1 (by decide) (by decide)) ⟨by decide, rfl⟩ v_X4_note wm_X4_133 wi_X4_note ws_X4_note ⟨Nat.le_of_ble_eq_true rfl, Nat.le_of_ble_eq_true rfl⟩ n_X4_note (Nat.le_of_ble_eq_true rfl) ?_
  refine c_note hR (by have := noTapeM_le ν a; omega) (fun μ1 hR => ?_)
  refine ⟨rfl, ?_⟩
  refine X.bipush (v := -110) dX4_match_73 (by decide) ?_
  refine X.iload dX4_match_75 rfl ?_
  refine X.isub dX4_match_77 ?_
  refine X.ret dX4_match_78 ⟨trivial, ?_⟩
  exact hq _ hR
set_option maxRecDepth 100000 in
set_option maxHeartbeats 4000000 in
theorem c_match_r2 {a b : Nat} {ρ ν μ : xM} {φ κ : Nat → Nat} {B : Nat × Nat × Nat × (Nat → Prop)} {Q : Option Value → xM → Prop} (hR : Rel ρ ν μ φ κ B) (ha : a < 16) (hb : b < 16) (h0 : noTapeM ν a = 0) (h1 : ¬ noTapeM ν b = 0) (hq : ∀ μ1, Rel ρ (metM ν (noTapeM ν b)) μ1 φ κ B → Q (some (.int (-110 - nI (noTapeM ν b)))) μ1) : Mt kX4_match [.ref 1, .int (nI a), .int (nI b)] μ Q := by
  have hB := hR.2.1
  refine Mt.enter rfl (Nat.le_of_ble_eq_true rfl) ?_
  refine X.aload_n dX4_match_0 rfl ?_
  refine X.iload_n dX4_match_1 rfl ?_
  refine X.cV1a (k' := kX4_channelAt) dX4_match_2 (hB.1 1 (by decide) (by decide)) ⟨by decide, rfl⟩ v_X4_channelAt wm_X4_59 wi_X4_channelAt ws_X4_channelAt ⟨Nat.le_of_ble_eq_true rfl, Nat.le_of_ble_eq_true rfl⟩ n_X4_channelAt (Nat.le_of_ble_eq_true rfl) ?_
  refine x_channelAt hB ha ?_
  refine ⟨_, rfl, ?_⟩
  refine X.astore_n dX4_match_5 (Nat.le_of_ble_eq_true rfl) ?_
  refine X.aload_n dX4_match_6 rfl ?_
  refine X.iload_n dX4_match_7 rfl ?_
  refine X.cV1a (k' := kX4_channelAt) dX4_match_8 (hB.1 1 (by decide) (by decide)) ⟨by decide, rfl⟩ v_X4_channelAt wm_X4_59 wi_X4_channelAt ws_X4_channelAt ⟨Nat.le_of_ble_eq_true rfl, Nat.le_of_ble_eq_true rfl⟩ n_X4_channelAt (Nat.le_of_ble_eq_true rfl) ?_
  refine x_channelAt hB hb ?_
  refine ⟨_, rfl, ?_⟩
  refine X.astore dX4_match_11 (Nat.le_of_ble_eq_true rfl) ?_
  refine X.aload_n dX4_match_13 rfl ?_
  refine X.ifnull_r dX4_match_14 ?_
  refine X.aload dX4_match_17 rfl ?_
  refine X.ifnonnull_r (tgt := 25) dX4_match_19 (by decide) ?_
  refine X.aload_n dX4_match_25 rfl ?_
  refine X.getR (b := (φ (tp ν a))) (kf := 1) dX4_match_26 ((hB.2.2.1 a ha).1) (by decide) (by decide) rfl wf_X4_84 (hR.chT ha h0) ?_
  refine X.astore dX4_match_29 (Nat.le_of_ble_eq_true rfl) ?_
  refine X.aload dX4_match_31 rfl ?_
  refine X.getN (kf := 1) dX4_match_33 ((hB.2.2.1 b hb).1) (by decide) (by decide) rfl wf_X4_84 (hR.chN hb h1) ?_
  refine X.astoreN dX4_match_36 (Nat.le_of_ble_eq_true rfl) ?_
  refine X.aload dX4_match_38 rfl ?_
  refine X.ifnull_r dX4_match_40 ?_
  refine X.aloadN dX4_match_43 rfl ?_
  refine X.ifnonnull_n dX4_match_45 ?_
  refine X.aload dX4_match_48 rfl ?_
  refine X.ifnonnull_r (tgt := 60) dX4_match_50 (by decide) ?_
  refine X.aload dX4_match_60 rfl ?_
  refine X.cV0i (k' := kX2_refusalWithoutTape) dX4_match_62 ((hB.2.2.1 b hb).1) ⟨by decide, rfl⟩ v_X2_refusalWithoutTape wm_X4_180 wi_X2_refusalWithoutTape ws_X2_refusalWithoutTape ⟨Nat.le_of_ble_eq_true rfl, Nat.le_of_ble_eq_true rfl⟩ n_X2_refusalWithoutTape (Nat.le_of_ble_eq_true rfl) ?_
  refine c_refusal hR hb h1 ?_
  refine ⟨_, rfl, ?_⟩
  refine X.istore dX4_match_65 (Nat.le_of_ble_eq_true rfl) ?_
  refine X.aload_n dX4_match_67 rfl ?_
  refine X.iload dX4_match_68 rfl ?_
  refine X.cV1v (k' := kX4_note) dX4_match_70 (hB.1 1 (by decide) (by decide)) ⟨by decide, rfl⟩ v_X4_note wm_X4_133 wi_X4_note ws_X4_note ⟨Nat.le_of_ble_eq_true rfl, Nat.le_of_ble_eq_true rfl⟩ n_X4_note (Nat.le_of_ble_eq_true rfl) ?_
  refine c_note hR (by have := noTapeM_le ν b; omega) (fun μ1 hR => ?_)
  refine ⟨rfl, ?_⟩
  refine X.bipush (v := -110) dX4_match_73 (by decide) ?_
  refine X.iload dX4_match_75 rfl ?_
  refine X.isub dX4_match_77 ?_
  refine X.ret dX4_match_78 ⟨trivial, ?_⟩
  exact hq _ hR
set_option maxRecDepth 100000 in
set_option maxHeartbeats 4000000 in
theorem cma {a b : Nat} {ρ ν μ : xM} {φ κ : Nat → Nat} {B : Nat × Nat × Nat × (Nat → Prop)} {Q : Option Value → xM → Prop} (hR : Rel ρ ν μ φ κ B) (ha : a < 16) (hb : b < 16) (h0 : noTapeM ν a = 0) (h1 : noTapeM ν b = 0) : ∀ (m k : Nat), k + m = 33 → k ≤ sz ν (tp ν a) → k ≤ sz ν (tp ν b) → Q (some (.int (mtR ν (tp ν a) (tp ν b) (mtc ν (tp ν a) (tp ν b) m k)))) μ → X kX4_match none 102 (xl [(0, .ref 1), (5, .ref (φ (tp ν a))), (6, .ref (φ (tp ν b))), (7, .int (nI (min (sz ν (tp ν a)) (sz ν (tp ν b))))), (8, .int (nI k))]) [] μ (fun r μ' => xrok kX4_match.2.2.2.1 r ∧ Q r μ') := by
  have hB := hR.2.1
  have hT5a := hR.tr (live_c ha h0)
  have hT5b := hR.tr (live_c hb h1)
  have hTa := (hR.tr (live_c ha h0)).ts
  have hTb := (hR.tr (live_c hb h1)).ts
  have la := sz_le hR.wt (tp_lt hR.wt ha h0)
  have lb := sz_le hR.wt (tp_lt hR.wt hb h1)
  intro m
  induction m with
  | zero => intro k hk k1 k2; omega
  | succ m ih =>
    intro k hk k1 k2 hq
    unfold mtc at hq
    by_cases hl : k < sz ν (tp ν a) ∧ k < sz ν (tp ν b)
    · have e1 := (hT5a.2.2.2.2 k hl.1).2.1
      have e2 := (hT5b.2.2.2.2 k hl.2).2.1
      by_cases e : numM ν (tp ν a) k = numM ν (tp ν b) k
      · rw [if_pos ⟨hl.1, hl.2, e⟩] at hq
        refine X.iload dX4_match_102 rfl ?_
        refine X.iload dX4_match_104 rfl ?_
        refine X.icmp_ge_f (tgt := 138) dX4_match_106 (by decide) (nI_ge (by omega) (by omega)) ?_
        refine X.aload dX4_match_109 rfl ?_
        refine X.getR (b := (φ (tp ν a) + 2)) (kf := 3) dX4_match_111 (hTa.1.1) (by decide) (by decide) rfl wf_X4_189 (hTa.2.2.2.1) ?_
        refine X.iload dX4_match_114 rfl ?_
        refine X.lald dX4_match_116 (hTa.1.2.2.1) (rfl) (hl.1) (by omega) ?_
        refine X.aload dX4_match_117 rfl ?_
        refine X.getR (b := (φ (tp ν b) + 2)) (kf := 3) dX4_match_119 (hTb.1.1) (by decide) (by decide) rfl wf_X4_189 (hTb.2.2.2.1) ?_
        refine X.iload dX4_match_122 rfl ?_
        refine X.lald dX4_match_124 (hTb.1.2.2.1) (rfl) (hl.2) (by omega) ?_
        refine X.lcmp dX4_match_125 ?_
        refine X.if_eq_t (tgt := 132) dX4_match_126 (by decide) (lgc_eq (by rw [e1, e2]; exact e)) ?_
        refine X.iinc1 dX4_match_132 rfl (Nat.le_of_ble_eq_true rfl) ?_
        refine X.goto (tgt := 102) dX4_match_135 (by decide) ?_
        exact X.at [(0, .ref 1), (5, .ref (φ (tp ν a))), (6, .ref (φ (tp ν b))), (7, .int (nI (min (sz ν (tp ν a)) (sz ν (tp ν b))))), (8, .int (nI (k + 1)))] ⟨rfl, rfl, rfl, rfl, iN k, trivial⟩ (ih (k + 1) (by omega) (by omega) (by omega) hq)
      · rw [if_neg (fun q => e q.2.2)] at hq
        unfold mtR at hq
        rw [if_neg (by omega)] at hq
        refine X.iload dX4_match_102 rfl ?_
        refine X.iload dX4_match_104 rfl ?_
        refine X.icmp_ge_f (tgt := 138) dX4_match_106 (by decide) (nI_ge (by omega) (by omega)) ?_
        refine X.aload dX4_match_109 rfl ?_
        refine X.getR (b := (φ (tp ν a) + 2)) (kf := 3) dX4_match_111 (hTa.1.1) (by decide) (by decide) rfl wf_X4_189 (hTa.2.2.2.1) ?_
        refine X.iload dX4_match_114 rfl ?_
        refine X.lald dX4_match_116 (hTa.1.2.2.1) (rfl) (hl.1) (by omega) ?_
        refine X.aload dX4_match_117 rfl ?_
        refine X.getR (b := (φ (tp ν b) + 2)) (kf := 3) dX4_match_119 (hTb.1.1) (by decide) (by decide) rfl wf_X4_189 (hTb.2.2.2.1) ?_
        refine X.iload dX4_match_122 rfl ?_
        refine X.lald dX4_match_124 (hTb.1.2.2.1) (rfl) (hl.2) (by omega) ?_
        refine X.lcmp dX4_match_125 ?_
        refine X.if_eq_f (tgt := 132) dX4_match_126 (by decide) (lgc_ne (by rw [e1, e2]; exact e)) ?_
        refine X.iload dX4_match_129 rfl ?_
        refine X.ret dX4_match_131 ⟨trivial, ?_⟩
        exact hq
    · rw [if_neg (fun q => hl ⟨q.1, q.2.1⟩)] at hq
      have em : min (sz ν (tp ν a)) (sz ν (tp ν b)) = k := by omega
      unfold mtR at hq
      by_cases es : k = sz ν (tp ν a) ∧ k = sz ν (tp ν b)
      · rw [if_pos es] at hq
        refine X.iload dX4_match_102 rfl ?_
        refine X.iload dX4_match_104 rfl ?_
        refine X.icmp_ge_t (tgt := 138) dX4_match_106 (by decide) (nI_le (by omega) (by omega)) ?_
        refine X.aload dX4_match_138 rfl ?_
        refine X.getI (kf := 1) dX4_match_140 (hTa.1.1) (by decide) (by decide) rfl wf_X4_145 ?_
        refine X.aload dX4_match_143 rfl ?_
        refine X.getI (kf := 1) dX4_match_145 (hTb.1.1) (by decide) (by decide) rfl wf_X4_145 ?_
        refine X.icmp_ne_f (tgt := 158) dX4_match_148 (by decide) ((by rw [hTa.2.1.2, hTb.2.1.2, ← es.1, ← es.2])) ?_
        refine X.iconst (v := -1) dX4_match_151 (by decide) ?_
        refine X.iload dX4_match_152 rfl ?_
        refine X.isub dX4_match_154 ?_
        refine X.goto (tgt := 160) dX4_match_155 (by decide) ?_
        refine X.ret dX4_match_160 ⟨trivial, ?_⟩
        rw [em, es.1]
        exact hq
      · rw [if_neg es] at hq
        refine X.iload dX4_match_102 rfl ?_
        refine X.iload dX4_match_104 rfl ?_
        refine X.icmp_ge_t (tgt := 138) dX4_match_106 (by decide) (nI_le (by omega) (by omega)) ?_
        refine X.aload dX4_match_138 rfl ?_
        refine X.getI (kf := 1) dX4_match_140 (hTa.1.1) (by decide) (by decide) rfl wf_X4_145 ?_
        refine X.aload dX4_match_143 rfl ?_
        refine X.getI (kf := 1) dX4_match_145 (hTb.1.1) (by decide) (by decide) rfl wf_X4_145 ?_
        refine X.icmp_ne_t (tgt := 158) dX4_match_148 (by decide) ((by rw [hTa.2.1.2, hTb.2.1.2]; exact nI_neq (by omega) (by omega) (by omega))) ?_
        refine X.iload dX4_match_158 rfl ?_
        refine X.ret dX4_match_160 ⟨trivial, ?_⟩
        rw [em]
        exact hq
set_option maxRecDepth 100000 in
set_option maxHeartbeats 4000000 in
theorem c_match_in {a b : Nat} {ρ ν μ : xM} {φ κ : Nat → Nat} {B : Nat × Nat × Nat × (Nat → Prop)} {Q : Option Value → xM → Prop} (hR : Rel ρ ν μ φ κ B) (ha : a < 16) (hb : b < 16) (h0 : noTapeM ν a = 0) (h1 : noTapeM ν b = 0) (hq : ∀ μ1, Rel ρ (metM ν 0) μ1 φ κ B → Q (some (.int (mtR ν (tp ν a) (tp ν b) (mtc ν (tp ν a) (tp ν b) 33 0)))) μ1) : Mt kX4_match [.ref 1, .int (nI a), .int (nI b)] μ Q := by
  have hB := hR.2.1
  have hTa := (hR.tr (live_c ha h0)).ts
  have hTb := (hR.tr (live_c hb h1)).ts
  have la := sz_le hR.wt (tp_lt hR.wt ha h0)
  have lb := sz_le hR.wt (tp_lt hR.wt hb h1)
  refine Mt.enter rfl (Nat.le_of_ble_eq_true rfl) ?_
  refine X.aload_n dX4_match_0 rfl ?_
  refine X.iload_n dX4_match_1 rfl ?_
  refine X.cV1a (k' := kX4_channelAt) dX4_match_2 (hB.1 1 (by decide) (by decide)) ⟨by decide, rfl⟩ v_X4_channelAt wm_X4_59 wi_X4_channelAt ws_X4_channelAt ⟨Nat.le_of_ble_eq_true rfl, Nat.le_of_ble_eq_true rfl⟩ n_X4_channelAt (Nat.le_of_ble_eq_true rfl) ?_
  refine x_channelAt hB ha ?_
  refine ⟨_, rfl, ?_⟩
  refine X.astore_n dX4_match_5 (Nat.le_of_ble_eq_true rfl) ?_
  refine X.aload_n dX4_match_6 rfl ?_
  refine X.iload_n dX4_match_7 rfl ?_
  refine X.cV1a (k' := kX4_channelAt) dX4_match_8 (hB.1 1 (by decide) (by decide)) ⟨by decide, rfl⟩ v_X4_channelAt wm_X4_59 wi_X4_channelAt ws_X4_channelAt ⟨Nat.le_of_ble_eq_true rfl, Nat.le_of_ble_eq_true rfl⟩ n_X4_channelAt (Nat.le_of_ble_eq_true rfl) ?_
  refine x_channelAt hB hb ?_
  refine ⟨_, rfl, ?_⟩
  refine X.astore dX4_match_11 (Nat.le_of_ble_eq_true rfl) ?_
  refine X.aload_n dX4_match_13 rfl ?_
  refine X.ifnull_r dX4_match_14 ?_
  refine X.aload dX4_match_17 rfl ?_
  refine X.ifnonnull_r (tgt := 25) dX4_match_19 (by decide) ?_
  refine X.aload_n dX4_match_25 rfl ?_
  refine X.getR (b := (φ (tp ν a))) (kf := 1) dX4_match_26 ((hB.2.2.1 a ha).1) (by decide) (by decide) rfl wf_X4_84 (hR.chT ha h0) ?_
  refine X.astore dX4_match_29 (Nat.le_of_ble_eq_true rfl) ?_
  refine X.aload dX4_match_31 rfl ?_
  refine X.getR (b := (φ (tp ν b))) (kf := 1) dX4_match_33 ((hB.2.2.1 b hb).1) (by decide) (by decide) rfl wf_X4_84 (hR.chT hb h1) ?_
  refine X.astore dX4_match_36 (Nat.le_of_ble_eq_true rfl) ?_
  refine X.aload dX4_match_38 rfl ?_
  refine X.ifnull_r dX4_match_40 ?_
  refine X.aload dX4_match_43 rfl ?_
  refine X.ifnonnull_r (tgt := 79) dX4_match_45 (by decide) ?_
  refine X.aload_n dX4_match_79 rfl ?_
  refine X.iconst (v := 0) dX4_match_80 (by decide) ?_
  refine X.cV1v (k' := kX4_note) dX4_match_81 (hB.1 1 (by decide) (by decide)) ⟨by decide, rfl⟩ v_X4_note wm_X4_133 wi_X4_note ws_X4_note ⟨Nat.le_of_ble_eq_true rfl, Nat.le_of_ble_eq_true rfl⟩ n_X4_note (Nat.le_of_ble_eq_true rfl) ?_
  refine c_note (r := 0) hR (by decide) (fun μ1 hR => ?_)
  refine ⟨rfl, ?_⟩
  have hB := hR.2.1
  have hTa : TS μ1 (φ (tp ν a)) (kd ν (tp ν a)) (sz ν (tp ν a)) := (hR.tr (live_c (ν := metM ν 0) ha h0)).ts
  have hTb : TS μ1 (φ (tp ν b)) (kd ν (tp ν b)) (sz ν (tp ν b)) := (hR.tr (live_c (ν := metM ν 0) hb h1)).ts
  refine X.aload dX4_match_84 rfl ?_
  refine X.getI (kf := 1) dX4_match_86 (hTa.1.1) (by decide) (by decide) rfl wf_X4_145 ?_
  refine X.aload dX4_match_89 rfl ?_
  refine X.getI (kf := 1) dX4_match_91 (hTb.1.1) (by decide) (by decide) rfl wf_X4_145 ?_
  refine X.cS2i (k' := kJ9_min_7cf53) dX4_match_94 v_J9_min_7cf53 wm_X4_193 wt_J9_min_7cf53 ⟨Nat.le_of_ble_eq_true rfl, Nat.le_of_ble_eq_true rfl⟩ n_J9_min_7cf53 (Nat.le_of_ble_eq_true rfl) ?_
  rw [hTa.2.1.2, hTb.2.1.2]
  refine x_min (by omega) (by omega) ?_
  refine ⟨_, rfl, ?_⟩
  refine X.istore dX4_match_97 (Nat.le_of_ble_eq_true rfl) ?_
  refine X.iconst (v := 0) dX4_match_99 (by decide) ?_
  refine X.istore dX4_match_100 (Nat.le_of_ble_eq_true rfl) ?_
  have hq2 := hq _ hR
  rw [show mtR ν (tp ν a) (tp ν b) (mtc ν (tp ν a) (tp ν b) 33 0) = mtR (metM ν 0) (tp (metM ν 0) a) (tp (metM ν 0) b) (mtc (metM ν 0) (tp (metM ν 0) a) (tp (metM ν 0) b) 33 0) by
    show _ = mtR (metM ν 0) (tp ν a) (tp ν b) (mtc (metM ν 0) (tp ν a) (tp ν b) 33 0)
    rw [mtc_met]
    rfl] at hq2
  exact X.at [(0, .ref 1), (5, .ref (φ (tp ν a))), (6, .ref (φ (tp ν b))), (7, .int (nI (min (sz ν (tp ν a)) (sz ν (tp ν b))))), (8, .int (nI 0))] ⟨rfl, rfl, rfl, rfl, rfl, trivial⟩ (cma hR ha hb h0 h1 33 0 (by omega) (Nat.zero_le _) (Nat.zero_le _) hq2)
set_option maxRecDepth 100000 in
set_option maxHeartbeats 4000000 in
theorem csp {a b n : Nat} {i j : Int32} {ρ : xM} {φ κ : Nat → Nat} {B : Nat × Nat × Nat × (Nat → Prop)} {Q : Option Value → xM → Prop} (ha : a < 16) (hb : b < 16) (hn : n ≤ 32) : ∀ (m d : Nat) (ν μ : xM), Rel ρ ν μ φ κ B → d + m = n → (∀ μ1, Rel ρ (metM (spl a b i j m d ν).2.2 (spl a b i j m d ν).2.1) μ1 φ κ B → Q (some (.int (nI (spl a b i j m d ν).1))) μ1) → X kX4_splice none 41 (xl [(0, .ref 1), (2, .int i), (4, .int j), (5, .int (nI n)), (6, .ref (28 + a)), (7, .ref (28 + b)), (8, .int (nI d))]) [] μ (fun r μ' => xrok kX4_splice.2.2.2.1 r ∧ Q r μ') := by
  intro m
  induction m with
  | zero =>
    intro d ν μ hR hd hq
    have hB := hR.2.1
    obtain rfl : d = n := by omega
    refine X.iload dX4_splice_41 rfl ?_
    refine X.iload dX4_splice_43 rfl ?_
    refine X.icmp_ge_t (tgt := 87) dX4_splice_45 (by decide) (nI_le (Nat.le_refl _) (by omega)) ?_
    refine X.aload_n dX4_splice_87 rfl ?_
    refine X.iconst (v := 0) dX4_splice_88 (by decide) ?_
    refine X.cV1v (k' := kX4_note) dX4_splice_89 (hB.1 1 (by decide) (by decide)) ⟨by decide, rfl⟩ v_X4_note wm_X4_133 wi_X4_note ws_X4_note ⟨Nat.le_of_ble_eq_true rfl, Nat.le_of_ble_eq_true rfl⟩ n_X4_note (Nat.le_of_ble_eq_true rfl) ?_
    refine c_note (r := 0) hR (by decide) (fun μ1 hR => ?_)
    refine ⟨rfl, ?_⟩
    refine X.iload dX4_splice_92 rfl ?_
    refine X.ret dX4_splice_94 ⟨trivial, ?_⟩
    exact hq _ hR
  | succ m ih =>
    intro d ν μ hR hd hq
    have hB := hR.2.1
    unfold spl at hq
    by_cases hz : noPassM ν a (i + nI d) b (j + nI d) = 0
    · rw [if_pos hz] at hq
      refine X.iload dX4_splice_41 rfl ?_
      refine X.iload dX4_splice_43 rfl ?_
      refine X.icmp_ge_f (tgt := 87) dX4_splice_45 (by decide) (nI_ge (by omega) (by omega)) ?_
      refine X.aload_n dX4_splice_48 rfl ?_
      refine X.aload dX4_splice_49 rfl ?_
      refine X.iload_n dX4_splice_51 rfl ?_
      refine X.iload dX4_splice_52 rfl ?_
      refine X.iadd dX4_splice_54 ?_
      refine X.aload dX4_splice_55 rfl ?_
      refine X.iload dX4_splice_57 rfl ?_
      refine X.iload dX4_splice_59 rfl ?_
      refine X.iadd dX4_splice_61 ?_
      refine X.cV4i (k' := kX4_wire) dX4_splice_62 (hB.1 1 (by decide) (by decide)) ⟨by decide, rfl⟩ v_X4_wire wm_X4_176 wi_X4_wire ws_X4_wire ⟨Nat.le_of_ble_eq_true rfl, Nat.le_of_ble_eq_true rfl⟩ n_X4_wire (Nat.le_of_ble_eq_true rfl) ?_
      refine c_wire hR ha hb (fun μ1 hR => ?_)
      refine ⟨_, rfl, ?_⟩
      refine X.istore dX4_splice_65 (Nat.le_of_ble_eq_true rfl) ?_
      refine X.iload dX4_splice_67 rfl ?_
      refine X.if_eq_t (tgt := 81) dX4_splice_69 (by decide) ((by rw [hz]; rfl)) ?_
      refine X.iinc1 dX4_splice_81 rfl (Nat.le_of_ble_eq_true rfl) ?_
      refine X.goto (tgt := 41) dX4_splice_84 (by decide) ?_
      exact X.at [(0, .ref 1), (2, .int i), (4, .int j), (5, .int (nI n)), (6, .ref (28 + a)), (7, .ref (28 + b)), (8, .int (nI (d + 1)))] ⟨rfl, rfl, rfl, rfl, rfl, rfl, iN d, trivial⟩ (ih (d + 1) _ μ1 hR (by omega) hq)
    · rw [if_neg hz] at hq
      refine X.iload dX4_splice_41 rfl ?_
      refine X.iload dX4_splice_43 rfl ?_
      refine X.icmp_ge_f (tgt := 87) dX4_splice_45 (by decide) (nI_ge (by omega) (by omega)) ?_
      refine X.aload_n dX4_splice_48 rfl ?_
      refine X.aload dX4_splice_49 rfl ?_
      refine X.iload_n dX4_splice_51 rfl ?_
      refine X.iload dX4_splice_52 rfl ?_
      refine X.iadd dX4_splice_54 ?_
      refine X.aload dX4_splice_55 rfl ?_
      refine X.iload dX4_splice_57 rfl ?_
      refine X.iload dX4_splice_59 rfl ?_
      refine X.iadd dX4_splice_61 ?_
      refine X.cV4i (k' := kX4_wire) dX4_splice_62 (hB.1 1 (by decide) (by decide)) ⟨by decide, rfl⟩ v_X4_wire wm_X4_176 wi_X4_wire ws_X4_wire ⟨Nat.le_of_ble_eq_true rfl, Nat.le_of_ble_eq_true rfl⟩ n_X4_wire (Nat.le_of_ble_eq_true rfl) ?_
      refine c_wire hR ha hb (fun μ1 hR => ?_)
      have hB := hR.2.1
      refine ⟨_, rfl, ?_⟩
      refine X.istore dX4_splice_65 (Nat.le_of_ble_eq_true rfl) ?_
      refine X.iload dX4_splice_67 rfl ?_
      refine X.if_eq_f (tgt := 81) dX4_splice_69 (by decide) ((fun q => hz (nI_z q (by have := noPass_le ν a (i + nI d) b (j + nI d); omega)))) ?_
      refine X.aload_n dX4_splice_72 rfl ?_
      refine X.iload dX4_splice_73 rfl ?_
      refine X.cV1v (k' := kX4_note) dX4_splice_75 (hB.1 1 (by decide) (by decide)) ⟨by decide, rfl⟩ v_X4_note wm_X4_133 wi_X4_note ws_X4_note ⟨Nat.le_of_ble_eq_true rfl, Nat.le_of_ble_eq_true rfl⟩ n_X4_note (Nat.le_of_ble_eq_true rfl) ?_
      refine c_note hR (by have := noPass_le ν a (i + nI d) b (j + nI d); omega) (fun μ2 hR => ?_)
      refine ⟨rfl, ?_⟩
      refine X.iload dX4_splice_78 rfl ?_
      refine X.ret dX4_splice_80 ⟨trivial, ?_⟩
      exact hq _ hR
set_option maxRecDepth 100000 in
set_option maxHeartbeats 4000000 in
theorem c_splice_o3 {a b : Nat} {i j n : Int32} {ρ ν μ : xM} {φ κ : Nat → Nat} {B : Nat × Nat × Nat × (Nat → Prop)} {Q : Option Value → xM → Prop} (hR : Rel ρ ν μ φ κ B) (ha : a < 16) (hb : b < 16) (hn : rng n 33 = none) (hq : ∀ μ1, Rel ρ (ν) μ1 φ κ B → Q (some (.int (-1))) μ1) : Mt kX4_splice [.ref 1, .int (nI a), .int (i), .int (nI b), .int (j), .int (n)] μ Q := by
  have hB := hR.2.1
  refine Mt.enter rfl (Nat.le_of_ble_eq_true rfl) ?_
  refine X.aload_n dX4_splice_0 rfl ?_
  refine X.iload_n dX4_splice_1 rfl ?_
  refine X.cV1a (k' := kX4_channelAt) dX4_splice_2 (hB.1 1 (by decide) (by decide)) ⟨by decide, rfl⟩ v_X4_channelAt wm_X4_59 wi_X4_channelAt ws_X4_channelAt ⟨Nat.le_of_ble_eq_true rfl, Nat.le_of_ble_eq_true rfl⟩ n_X4_channelAt (Nat.le_of_ble_eq_true rfl) ?_
  refine x_channelAt hB ha ?_
  refine ⟨_, rfl, ?_⟩
  refine X.astore dX4_splice_5 (Nat.le_of_ble_eq_true rfl) ?_
  refine X.aload_n dX4_splice_7 rfl ?_
  refine X.iload_n dX4_splice_8 rfl ?_
  refine X.cV1a (k' := kX4_channelAt) dX4_splice_9 (hB.1 1 (by decide) (by decide)) ⟨by decide, rfl⟩ v_X4_channelAt wm_X4_59 wi_X4_channelAt ws_X4_channelAt ⟨Nat.le_of_ble_eq_true rfl, Nat.le_of_ble_eq_true rfl⟩ n_X4_channelAt (Nat.le_of_ble_eq_true rfl) ?_
  refine x_channelAt hB hb ?_
  refine ⟨_, rfl, ?_⟩
  refine X.astore dX4_splice_12 (Nat.le_of_ble_eq_true rfl) ?_
  refine X.aload dX4_splice_14 rfl ?_
  refine X.ifnull_r dX4_splice_16 ?_
  refine X.aload dX4_splice_19 rfl ?_
  refine X.ifnull_r dX4_splice_21 ?_
  refine X.iload dX4_splice_24 rfl ?_
  refine X.if_lt (tgt := 36) dX4_splice_26 (by decide) (fun c26 => ?_) (fun c26 => ?_)
  · refine X.iconst (v := -1) dX4_splice_36 (by decide) ?_
    refine X.ret dX4_splice_37 ⟨trivial, ?_⟩
    exact hq _ hR
  · refine X.iload dX4_splice_29 rfl ?_
    refine X.bipush (v := 32) dX4_splice_31 (by decide) ?_
    refine X.icmp_le (tgt := 38) dX4_splice_33 (by decide) (fun c33 => ?_) (fun c33 => ?_)
    · exact absurd ⟨Int32.not_lt.mp c26, c33⟩ (rng_no (hi := 32) hn (by decide) rfl)
    · refine X.iconst (v := -1) dX4_splice_36 (by decide) ?_
      refine X.ret dX4_splice_37 ⟨trivial, ?_⟩
      exact hq _ hR
set_option maxRecDepth 100000 in
set_option maxHeartbeats 4000000 in
theorem c_splice_in {a b n : Nat} {i j : Int32} {ρ ν μ : xM} {φ κ : Nat → Nat} {B : Nat × Nat × Nat × (Nat → Prop)} {Q : Option Value → xM → Prop} (hR : Rel ρ ν μ φ κ B) (ha : a < 16) (hb : b < 16) (hn : n ≤ 32) (hq : ∀ μ1, Rel ρ (metM (spl a b i j n 0 ν).2.2 (spl a b i j n 0 ν).2.1) μ1 φ κ B → Q (some (.int (nI (spl a b i j n 0 ν).1))) μ1) : Mt kX4_splice [.ref 1, .int (nI a), .int (i), .int (nI b), .int (j), .int (nI n)] μ Q := by
  have hB := hR.2.1
  refine Mt.enter rfl (Nat.le_of_ble_eq_true rfl) ?_
  refine X.aload_n dX4_splice_0 rfl ?_
  refine X.iload_n dX4_splice_1 rfl ?_
  refine X.cV1a (k' := kX4_channelAt) dX4_splice_2 (hB.1 1 (by decide) (by decide)) ⟨by decide, rfl⟩ v_X4_channelAt wm_X4_59 wi_X4_channelAt ws_X4_channelAt ⟨Nat.le_of_ble_eq_true rfl, Nat.le_of_ble_eq_true rfl⟩ n_X4_channelAt (Nat.le_of_ble_eq_true rfl) ?_
  refine x_channelAt hB ha ?_
  refine ⟨_, rfl, ?_⟩
  refine X.astore dX4_splice_5 (Nat.le_of_ble_eq_true rfl) ?_
  refine X.aload_n dX4_splice_7 rfl ?_
  refine X.iload_n dX4_splice_8 rfl ?_
  refine X.cV1a (k' := kX4_channelAt) dX4_splice_9 (hB.1 1 (by decide) (by decide)) ⟨by decide, rfl⟩ v_X4_channelAt wm_X4_59 wi_X4_channelAt ws_X4_channelAt ⟨Nat.le_of_ble_eq_true rfl, Nat.le_of_ble_eq_true rfl⟩ n_X4_channelAt (Nat.le_of_ble_eq_true rfl) ?_
  refine x_channelAt hB hb ?_
  refine ⟨_, rfl, ?_⟩
  refine X.astore dX4_splice_12 (Nat.le_of_ble_eq_true rfl) ?_
  refine X.aload dX4_splice_14 rfl ?_
  refine X.ifnull_r dX4_splice_16 ?_
  refine X.aload dX4_splice_19 rfl ?_
  refine X.ifnull_r dX4_splice_21 ?_
  refine X.iload dX4_splice_24 rfl ?_
  refine X.if_lt_f (tgt := 36) dX4_splice_26 (by decide) (nI_pos (by omega)) ?_
  refine X.iload dX4_splice_29 rfl ?_
  refine X.bipush (v := 32) dX4_splice_31 (by decide) ?_
  refine X.icmp_le_t (tgt := 38) dX4_splice_33 (by decide) (nI_le (b := 32) hn (by decide)) ?_
  refine X.iconst (v := 0) dX4_splice_38 (by decide) ?_
  refine X.istore dX4_splice_39 (Nat.le_of_ble_eq_true rfl) ?_
  exact X.at [(0, .ref 1), (2, .int i), (4, .int j), (5, .int (nI n)), (6, .ref (28 + a)), (7, .ref (28 + b)), (8, .int (nI 0))] ⟨rfl, rfl, rfl, rfl, rfl, rfl, rfl, trivial⟩ (csp ha hb hn n 0 ν μ hR (by omega) hq)
set_option maxRecDepth 100000 in
set_option maxHeartbeats 4000000 in
theorem c_stamp_o1 {c i k : Int32} {v : Int64} {ρ ν μ : xM} {φ κ : Nat → Nat} {B : Nat × Nat × Nat × (Nat → Prop)} {Q : Option Value → xM → Prop} (hR : Rel ρ ν μ φ κ B) (hc : rng c 16 = none) (hq : ∀ μ1, Rel ρ (ν) μ1 φ κ B → Q (some (.int (-1))) μ1) : Mt kX4_stamp [.ref 1, .int (c), .int (i), .int (k), .long v] μ Q := by
  have hB := hR.2.1
  refine Mt.enter rfl (Nat.le_of_ble_eq_true rfl) ?_
  refine X.aload_n dX4_stamp_0 rfl ?_
  refine X.iload_n dX4_stamp_1 rfl ?_
  refine X.cV1n (k' := kX4_channelAt) dX4_stamp_2 (hB.1 1 (by decide) (by decide)) ⟨by decide, rfl⟩ v_X4_channelAt wm_X4_59 wi_X4_channelAt ws_X4_channelAt ⟨Nat.le_of_ble_eq_true rfl, Nat.le_of_ble_eq_true rfl⟩ n_X4_channelAt (Nat.le_of_ble_eq_true rfl) ?_
  refine x_channelAt_o hB hc ?_
  refine ⟨rfl, ?_⟩
  refine X.astoreN dX4_stamp_5 (Nat.le_of_ble_eq_true rfl) ?_
  refine X.aloadN dX4_stamp_7 rfl ?_
  refine X.ifnull_n (tgt := 19) dX4_stamp_9 (by decide) ?_
  refine X.iconst (v := -1) dX4_stamp_19 (by decide) ?_
  refine X.ret dX4_stamp_20 ⟨trivial, ?_⟩
  exact hq _ hR
set_option maxRecDepth 100000 in
set_option maxHeartbeats 4000000 in
theorem c_stamp_o2 {a : Nat} {i k : Int32} {v : Int64} {ρ ν μ : xM} {φ κ : Nat → Nat} {B : Nat × Nat × Nat × (Nat → Prop)} {Q : Option Value → xM → Prop} (hR : Rel ρ ν μ φ κ B) (ha : a < 16) (hk : rng k 8 = none) (hq : ∀ μ1, Rel ρ (ν) μ1 φ κ B → Q (some (.int (-1))) μ1) : Mt kX4_stamp [.ref 1, .int (nI a), .int (i), .int (k), .long v] μ Q := by
  have hB := hR.2.1
  refine Mt.enter rfl (Nat.le_of_ble_eq_true rfl) ?_
  refine X.aload_n dX4_stamp_0 rfl ?_
  refine X.iload_n dX4_stamp_1 rfl ?_
  refine X.cV1a (k' := kX4_channelAt) dX4_stamp_2 (hB.1 1 (by decide) (by decide)) ⟨by decide, rfl⟩ v_X4_channelAt wm_X4_59 wi_X4_channelAt ws_X4_channelAt ⟨Nat.le_of_ble_eq_true rfl, Nat.le_of_ble_eq_true rfl⟩ n_X4_channelAt (Nat.le_of_ble_eq_true rfl) ?_
  refine x_channelAt hB ha ?_
  refine ⟨_, rfl, ?_⟩
  refine X.astore dX4_stamp_5 (Nat.le_of_ble_eq_true rfl) ?_
  refine X.aload dX4_stamp_7 rfl ?_
  refine X.ifnull_r dX4_stamp_9 ?_
  refine X.iload_n dX4_stamp_12 rfl ?_
  refine X.cS1i (k' := kX4_isPlain) dX4_stamp_13 v_X4_isPlain wm_X4_105 wt_X4_isPlain ⟨Nat.le_of_ble_eq_true rfl, Nat.le_of_ble_eq_true rfl⟩ n_X4_isPlain (Nat.le_of_ble_eq_true rfl) ?_
  refine x_isPlain_f hk ?_
  refine ⟨_, rfl, ?_⟩
  refine X.if_ne_f (tgt := 21) dX4_stamp_16 (by decide) ((by decide)) ?_
  refine X.iconst (v := -1) dX4_stamp_19 (by decide) ?_
  refine X.ret dX4_stamp_20 ⟨trivial, ?_⟩
  exact hq _ hR
set_option maxRecDepth 100000 in
set_option maxHeartbeats 4000000 in
theorem c_stamp_n1 {a k : Nat} {i : Int32} {v : Int64} {ρ ν μ : xM} {φ κ : Nat → Nat} {B : Nat × Nat × Nat × (Nat → Prop)} {Q : Option Value → xM → Prop} (hR : Rel ρ ν μ φ κ B) (ha : a < 16) (hk : k < 8) (h0 : ¬ noTapeM ν a = 0) (hq : ∀ μ1, Rel ρ (metM ν (noTapeM ν a)) μ1 φ κ B → Q (some (.int (rR (noTapeM ν a)))) μ1) : Mt kX4_stamp [.ref 1, .int (nI a), .int (i), .int (nI k), .long v] μ Q := by
  have hB := hR.2.1
  refine Mt.enter rfl (Nat.le_of_ble_eq_true rfl) ?_
  refine X.aload_n dX4_stamp_0 rfl ?_
  refine X.iload_n dX4_stamp_1 rfl ?_
  refine X.cV1a (k' := kX4_channelAt) dX4_stamp_2 (hB.1 1 (by decide) (by decide)) ⟨by decide, rfl⟩ v_X4_channelAt wm_X4_59 wi_X4_channelAt ws_X4_channelAt ⟨Nat.le_of_ble_eq_true rfl, Nat.le_of_ble_eq_true rfl⟩ n_X4_channelAt (Nat.le_of_ble_eq_true rfl) ?_
  refine x_channelAt hB ha ?_
  refine ⟨_, rfl, ?_⟩
  refine X.astore dX4_stamp_5 (Nat.le_of_ble_eq_true rfl) ?_
  refine X.aload dX4_stamp_7 rfl ?_
  refine X.ifnull_r dX4_stamp_9 ?_
  refine X.iload_n dX4_stamp_12 rfl ?_
  refine X.cS1i (k' := kX4_isPlain) dX4_stamp_13 v_X4_isPlain wm_X4_105 wt_X4_isPlain ⟨Nat.le_of_ble_eq_true rfl, Nat.le_of_ble_eq_true rfl⟩ n_X4_isPlain (Nat.le_of_ble_eq_true rfl) ?_
  refine x_isPlain_t (rng_nI hk (by decide)) ?_
  refine ⟨_, rfl, ?_⟩
  refine X.if_ne_t (tgt := 21) dX4_stamp_16 (by decide) ((by decide)) ?_
  refine X.aload dX4_stamp_21 rfl ?_
  refine X.cV0i (k' := kX2_refusalOfPlain) dX4_stamp_23 ((hB.2.2.1 a ha).1) ⟨by decide, rfl⟩ v_X2_refusalOfPlain wm_X4_108 wi_X2_refusalOfPlain ws_X2_refusalOfPlain ⟨Nat.le_of_ble_eq_true rfl, Nat.le_of_ble_eq_true rfl⟩ n_X2_refusalOfPlain (Nat.le_of_ble_eq_true rfl) ?_
  refine c_refPlain1 hR ha h0 ?_
  refine ⟨_, rfl, ?_⟩
  refine X.istore dX4_stamp_26 (Nat.le_of_ble_eq_true rfl) ?_
  refine X.iload dX4_stamp_28 rfl ?_
  refine X.if_ne_t (tgt := 60) dX4_stamp_30 (by decide) ((fun q => h0 (nI_z q (by have := noTapeM_le ν a; omega)))) ?_
  refine X.aload_n dX4_stamp_60 rfl ?_
  refine X.iload dX4_stamp_61 rfl ?_
  refine X.iconst (v := 1) dX4_stamp_63 (by decide) ?_
  refine X.cV2i (k' := kX4_answer) dX4_stamp_64 (hB.1 1 (by decide) (by decide)) ⟨by decide, rfl⟩ v_X4_answer wm_X4_67 wi_X4_answer ws_X4_answer ⟨Nat.le_of_ble_eq_true rfl, Nat.le_of_ble_eq_true rfl⟩ n_X4_answer (Nat.le_of_ble_eq_true rfl) ?_
  refine c_answer_r hR (r := noTapeM ν a) (by have := noTapeM_le ν a; omega) h0 (fun μ1 hR => ?_)
  refine ⟨_, rfl, ?_⟩
  refine X.ret dX4_stamp_67 ⟨trivial, ?_⟩
  exact hq _ hR
set_option maxRecDepth 100000 in
set_option maxHeartbeats 4000000 in
theorem c_stamp_n2 {a k : Nat} {i : Int32} {v : Int64} {ρ ν μ : xM} {φ κ : Nat → Nat} {B : Nat × Nat × Nat × (Nat → Prop)} {Q : Option Value → xM → Prop} (hR : Rel ρ ν μ φ κ B) (ha : a < 16) (hk : k < 8) (h0 : noTapeM ν a = 0) (h8 : ¬ kd ν (tp ν a) < 8) (hq : ∀ μ1, Rel ρ (metM ν 2) μ1 φ κ B → Q (some (.int (rR 2))) μ1) : Mt kX4_stamp [.ref 1, .int (nI a), .int (i), .int (nI k), .long v] μ Q := by
  have hB := hR.2.1
  refine Mt.enter rfl (Nat.le_of_ble_eq_true rfl) ?_
  refine X.aload_n dX4_stamp_0 rfl ?_
  refine X.iload_n dX4_stamp_1 rfl ?_
  refine X.cV1a (k' := kX4_channelAt) dX4_stamp_2 (hB.1 1 (by decide) (by decide)) ⟨by decide, rfl⟩ v_X4_channelAt wm_X4_59 wi_X4_channelAt ws_X4_channelAt ⟨Nat.le_of_ble_eq_true rfl, Nat.le_of_ble_eq_true rfl⟩ n_X4_channelAt (Nat.le_of_ble_eq_true rfl) ?_
  refine x_channelAt hB ha ?_
  refine ⟨_, rfl, ?_⟩
  refine X.astore dX4_stamp_5 (Nat.le_of_ble_eq_true rfl) ?_
  refine X.aload dX4_stamp_7 rfl ?_
  refine X.ifnull_r dX4_stamp_9 ?_
  refine X.iload_n dX4_stamp_12 rfl ?_
  refine X.cS1i (k' := kX4_isPlain) dX4_stamp_13 v_X4_isPlain wm_X4_105 wt_X4_isPlain ⟨Nat.le_of_ble_eq_true rfl, Nat.le_of_ble_eq_true rfl⟩ n_X4_isPlain (Nat.le_of_ble_eq_true rfl) ?_
  refine x_isPlain_t (rng_nI hk (by decide)) ?_
  refine ⟨_, rfl, ?_⟩
  refine X.if_ne_t (tgt := 21) dX4_stamp_16 (by decide) ((by decide)) ?_
  refine X.aload dX4_stamp_21 rfl ?_
  refine X.cV0i (k' := kX2_refusalOfPlain) dX4_stamp_23 ((hB.2.2.1 a ha).1) ⟨by decide, rfl⟩ v_X2_refusalOfPlain wm_X4_108 wi_X2_refusalOfPlain ws_X2_refusalOfPlain ⟨Nat.le_of_ble_eq_true rfl, Nat.le_of_ble_eq_true rfl⟩ n_X2_refusalOfPlain (Nat.le_of_ble_eq_true rfl) ?_
  refine c_refPlain3 hR ha h0 h8 ?_
  refine ⟨_, rfl, ?_⟩
  refine X.istore dX4_stamp_26 (Nat.le_of_ble_eq_true rfl) ?_
  refine X.iload dX4_stamp_28 rfl ?_
  refine X.if_ne_t (tgt := 60) dX4_stamp_30 (by decide) ((by decide)) ?_
  refine X.aload_n dX4_stamp_60 rfl ?_
  refine X.iload dX4_stamp_61 rfl ?_
  refine X.iconst (v := 1) dX4_stamp_63 (by decide) ?_
  refine X.cV2i (k' := kX4_answer) dX4_stamp_64 (hB.1 1 (by decide) (by decide)) ⟨by decide, rfl⟩ v_X4_answer wm_X4_67 wi_X4_answer ws_X4_answer ⟨Nat.le_of_ble_eq_true rfl, Nat.le_of_ble_eq_true rfl⟩ n_X4_answer (Nat.le_of_ble_eq_true rfl) ?_
  refine c_answer_r hR (r := 2) (by decide) (by decide) (fun μ1 hR => ?_)
  refine ⟨_, rfl, ?_⟩
  refine X.ret dX4_stamp_67 ⟨trivial, ?_⟩
  exact hq _ hR
set_option maxRecDepth 100000 in
set_option maxHeartbeats 4000000 in
theorem c_stamp_n3 {a k : Nat} {i : Int32} {v : Int64} {ρ ν μ : xM} {φ κ : Nat → Nat} {B : Nat × Nat × Nat × (Nat → Prop)} {Q : Option Value → xM → Prop} (hR : Rel ρ ν μ φ κ B) (ha : a < 16) (hk : k < 8) (h0 : noTapeM ν a = 0) (h8 : kd ν (tp ν a) < 8) (hz : ¬ noWriteM ν a i k = 0) (hq : ∀ μ1, Rel ρ (metM ν (noWriteM ν a i k)) μ1 φ κ B → Q (some (.int (rR (noWriteM ν a i k)))) μ1) : Mt kX4_stamp [.ref 1, .int (nI a), .int (i), .int (nI k), .long v] μ Q := by
  have hB := hR.2.1
  refine Mt.enter rfl (Nat.le_of_ble_eq_true rfl) ?_
  refine X.aload_n dX4_stamp_0 rfl ?_
  refine X.iload_n dX4_stamp_1 rfl ?_
  refine X.cV1a (k' := kX4_channelAt) dX4_stamp_2 (hB.1 1 (by decide) (by decide)) ⟨by decide, rfl⟩ v_X4_channelAt wm_X4_59 wi_X4_channelAt ws_X4_channelAt ⟨Nat.le_of_ble_eq_true rfl, Nat.le_of_ble_eq_true rfl⟩ n_X4_channelAt (Nat.le_of_ble_eq_true rfl) ?_
  refine x_channelAt hB ha ?_
  refine ⟨_, rfl, ?_⟩
  refine X.astore dX4_stamp_5 (Nat.le_of_ble_eq_true rfl) ?_
  refine X.aload dX4_stamp_7 rfl ?_
  refine X.ifnull_r dX4_stamp_9 ?_
  refine X.iload_n dX4_stamp_12 rfl ?_
  refine X.cS1i (k' := kX4_isPlain) dX4_stamp_13 v_X4_isPlain wm_X4_105 wt_X4_isPlain ⟨Nat.le_of_ble_eq_true rfl, Nat.le_of_ble_eq_true rfl⟩ n_X4_isPlain (Nat.le_of_ble_eq_true rfl) ?_
  refine x_isPlain_t (rng_nI hk (by decide)) ?_
  refine ⟨_, rfl, ?_⟩
  refine X.if_ne_t (tgt := 21) dX4_stamp_16 (by decide) ((by decide)) ?_
  refine X.aload dX4_stamp_21 rfl ?_
  refine X.cV0i (k' := kX2_refusalOfPlain) dX4_stamp_23 ((hB.2.2.1 a ha).1) ⟨by decide, rfl⟩ v_X2_refusalOfPlain wm_X4_108 wi_X2_refusalOfPlain ws_X2_refusalOfPlain ⟨Nat.le_of_ble_eq_true rfl, Nat.le_of_ble_eq_true rfl⟩ n_X2_refusalOfPlain (Nat.le_of_ble_eq_true rfl) ?_
  refine c_refPlain2 hR ha h0 h8 ?_
  refine ⟨_, rfl, ?_⟩
  refine X.istore dX4_stamp_26 (Nat.le_of_ble_eq_true rfl) ?_
  refine X.iload dX4_stamp_28 rfl ?_
  refine X.if_ne_f (tgt := 60) dX4_stamp_30 (by decide) ((by decide)) ?_
  refine X.aload_n dX4_stamp_33 rfl ?_
  refine X.getR (b := 26) (kf := 9) dX4_stamp_34 (hB.1 1 (by decide) (by decide)) (by decide) (by decide) rfl wf_X4_49 (hB.2.1 9 (by decide)) ?_
  refine X.iload_n dX4_stamp_37 rfl ?_
  refine X.iload_n dX4_stamp_38 rfl ?_
  refine X.lload dX4_stamp_39 rfl ?_
  refine X.cS2l (k' := kX4_fitted) dX4_stamp_41 v_X4_fitted wm_X4_111 wt_X4_fitted ⟨Nat.le_of_ble_eq_true rfl, Nat.le_of_ble_eq_true rfl⟩ n_X4_fitted (Nat.le_of_ble_eq_true rfl) ?_
  refine x_fitted (by omega) ?_
  refine ⟨_, rfl, ?_⟩
  refine X.null dX4_stamp_44 ?_
  refine X.cV3v (k' := kX1_become) dX4_stamp_45 (hB.1 26 (by decide) (by decide)) ⟨by decide, rfl⟩ v_X1_become wm_X4_115 wi_X1_become ws_X1_become ⟨Nat.le_of_ble_eq_true rfl, Nat.le_of_ble_eq_true rfl⟩ n_X1_become (Nat.le_of_ble_eq_true rfl) ?_
  refine x_become (r := none) (hR.hand (Or.inl rfl)) ?_
  refine ⟨rfl, ?_⟩
  have hR := hR.cell (Or.inl rfl) (nI k) (fitM k v) none
  have hB := hR.2.1
  refine X.aload dX4_stamp_48 rfl ?_
  refine X.iload_n dX4_stamp_50 rfl ?_
  refine X.aload_n dX4_stamp_51 rfl ?_
  refine X.getR (b := 26) (kf := 9) dX4_stamp_52 (hB.1 1 (by decide) (by decide)) (by decide) (by decide) rfl wf_X4_49 (hB.2.1 9 (by decide)) ?_
  refine X.cV2i (k' := kX2_write) dX4_stamp_55 ((hB.2.2.1 a ha).1) ⟨by decide, rfl⟩ v_X2_write wm_X4_119 wi_X2_write ws_X2_write ⟨Nat.le_of_ble_eq_true rfl, Nat.le_of_ble_eq_true rfl⟩ n_X2_write (Nat.le_of_ble_eq_true rfl) ?_
  refine c_write_o hR ha (Or.inl rfl) (K := k) rfl (by omega) hz ?_
  refine ⟨_, rfl, ?_⟩
  refine X.istore dX4_stamp_58 (Nat.le_of_ble_eq_true rfl) ?_
  refine X.aload_n dX4_stamp_60 rfl ?_
  refine X.iload dX4_stamp_61 rfl ?_
  refine X.iconst (v := 1) dX4_stamp_63 (by decide) ?_
  refine X.cV2i (k' := kX4_answer) dX4_stamp_64 (hB.1 1 (by decide) (by decide)) ⟨by decide, rfl⟩ v_X4_answer wm_X4_67 wi_X4_answer ws_X4_answer ⟨Nat.le_of_ble_eq_true rfl, Nat.le_of_ble_eq_true rfl⟩ n_X4_answer (Nat.le_of_ble_eq_true rfl) ?_
  refine c_answer_r hR (r := noWriteM ν a i k) (by have := noWrite_le ν a i k; omega) hz (fun μ1 hR => ?_)
  refine ⟨_, rfl, ?_⟩
  refine X.ret dX4_stamp_67 ⟨trivial, ?_⟩
  exact hq _ hR
set_option maxRecDepth 100000 in
set_option maxHeartbeats 4000000 in
theorem c_stamp_in {a k : Nat} {i : Int32} {v : Int64} {ρ ν μ : xM} {φ κ : Nat → Nat} {B : Nat × Nat × Nat × (Nat → Prop)} {Q : Option Value → xM → Prop} (hR : Rel ρ ν μ φ κ B) (ha : a < 16) (hk : k < 8) (h0 : noTapeM ν a = 0) (h8 : kd ν (tp ν a) < 8) (hz : noWriteM ν a i k = 0) (hq : ∀ μ1, Rel ρ (metM (writesM ν a i k (fitM k v)) 0) μ1 φ κ B → Q (some (.int (1))) μ1) : Mt kX4_stamp [.ref 1, .int (nI a), .int (i), .int (nI k), .long v] μ Q := by
  have hB := hR.2.1
  refine Mt.enter rfl (Nat.le_of_ble_eq_true rfl) ?_
  refine X.aload_n dX4_stamp_0 rfl ?_
  refine X.iload_n dX4_stamp_1 rfl ?_
  refine X.cV1a (k' := kX4_channelAt) dX4_stamp_2 (hB.1 1 (by decide) (by decide)) ⟨by decide, rfl⟩ v_X4_channelAt wm_X4_59 wi_X4_channelAt ws_X4_channelAt ⟨Nat.le_of_ble_eq_true rfl, Nat.le_of_ble_eq_true rfl⟩ n_X4_channelAt (Nat.le_of_ble_eq_true rfl) ?_
  refine x_channelAt hB ha ?_
  refine ⟨_, rfl, ?_⟩
  refine X.astore dX4_stamp_5 (Nat.le_of_ble_eq_true rfl) ?_
  refine X.aload dX4_stamp_7 rfl ?_
  refine X.ifnull_r dX4_stamp_9 ?_
  refine X.iload_n dX4_stamp_12 rfl ?_
  refine X.cS1i (k' := kX4_isPlain) dX4_stamp_13 v_X4_isPlain wm_X4_105 wt_X4_isPlain ⟨Nat.le_of_ble_eq_true rfl, Nat.le_of_ble_eq_true rfl⟩ n_X4_isPlain (Nat.le_of_ble_eq_true rfl) ?_
  refine x_isPlain_t (rng_nI hk (by decide)) ?_
  refine ⟨_, rfl, ?_⟩
  refine X.if_ne_t (tgt := 21) dX4_stamp_16 (by decide) ((by decide)) ?_
  refine X.aload dX4_stamp_21 rfl ?_
  refine X.cV0i (k' := kX2_refusalOfPlain) dX4_stamp_23 ((hB.2.2.1 a ha).1) ⟨by decide, rfl⟩ v_X2_refusalOfPlain wm_X4_108 wi_X2_refusalOfPlain ws_X2_refusalOfPlain ⟨Nat.le_of_ble_eq_true rfl, Nat.le_of_ble_eq_true rfl⟩ n_X2_refusalOfPlain (Nat.le_of_ble_eq_true rfl) ?_
  refine c_refPlain2 hR ha h0 h8 ?_
  refine ⟨_, rfl, ?_⟩
  refine X.istore dX4_stamp_26 (Nat.le_of_ble_eq_true rfl) ?_
  refine X.iload dX4_stamp_28 rfl ?_
  refine X.if_ne_f (tgt := 60) dX4_stamp_30 (by decide) ((by decide)) ?_
  refine X.aload_n dX4_stamp_33 rfl ?_
  refine X.getR (b := 26) (kf := 9) dX4_stamp_34 (hB.1 1 (by decide) (by decide)) (by decide) (by decide) rfl wf_X4_49 (hB.2.1 9 (by decide)) ?_
  refine X.iload_n dX4_stamp_37 rfl ?_
  refine X.iload_n dX4_stamp_38 rfl ?_
  refine X.lload dX4_stamp_39 rfl ?_
  refine X.cS2l (k' := kX4_fitted) dX4_stamp_41 v_X4_fitted wm_X4_111 wt_X4_fitted ⟨Nat.le_of_ble_eq_true rfl, Nat.le_of_ble_eq_true rfl⟩ n_X4_fitted (Nat.le_of_ble_eq_true rfl) ?_
  refine x_fitted (by omega) ?_
  refine ⟨_, rfl, ?_⟩
  refine X.null dX4_stamp_44 ?_
  refine X.cV3v (k' := kX1_become) dX4_stamp_45 (hB.1 26 (by decide) (by decide)) ⟨by decide, rfl⟩ v_X1_become wm_X4_115 wi_X1_become ws_X1_become ⟨Nat.le_of_ble_eq_true rfl, Nat.le_of_ble_eq_true rfl⟩ n_X1_become (Nat.le_of_ble_eq_true rfl) ?_
  refine x_become (r := none) (hR.hand (Or.inl rfl)) ?_
  refine ⟨rfl, ?_⟩
  have hR := hR.cell (Or.inl rfl) (nI k) (fitM k v) none
  have hB := hR.2.1
  refine X.aload dX4_stamp_48 rfl ?_
  refine X.iload_n dX4_stamp_50 rfl ?_
  refine X.aload_n dX4_stamp_51 rfl ?_
  refine X.getR (b := 26) (kf := 9) dX4_stamp_52 (hB.1 1 (by decide) (by decide)) (by decide) (by decide) rfl wf_X4_49 (hB.2.1 9 (by decide)) ?_
  refine X.cV2i (k' := kX2_write) dX4_stamp_55 ((hB.2.2.1 a ha).1) ⟨by decide, rfl⟩ v_X2_write wm_X4_119 wi_X2_write ws_X2_write ⟨Nat.le_of_ble_eq_true rfl, Nat.le_of_ble_eq_true rfl⟩ n_X2_write (Nat.le_of_ble_eq_true rfl) ?_
  refine c_write hR ha (Or.inl rfl) (K := k) (v := fitM k v) rfl (by omega) (Or.inl ⟨hk, rfl, rfl⟩) hz (fun μ1 hR hL => ?_)
  have hB := hR.2.1
  refine ⟨_, rfl, ?_⟩
  refine X.istore dX4_stamp_58 (Nat.le_of_ble_eq_true rfl) ?_
  refine X.aload_n dX4_stamp_60 rfl ?_
  refine X.iload dX4_stamp_61 rfl ?_
  refine X.iconst (v := 1) dX4_stamp_63 (by decide) ?_
  refine X.cV2i (k' := kX4_answer) dX4_stamp_64 (hB.1 1 (by decide) (by decide)) ⟨by decide, rfl⟩ v_X4_answer wm_X4_67 wi_X4_answer ws_X4_answer ⟨Nat.le_of_ble_eq_true rfl, Nat.le_of_ble_eq_true rfl⟩ n_X4_answer (Nat.le_of_ble_eq_true rfl) ?_
  refine c_answer_0 hR (fun μ1 hR => ?_)
  refine ⟨_, rfl, ?_⟩
  refine X.ret dX4_stamp_67 ⟨trivial, ?_⟩
  exact hq _ hR
set_option maxRecDepth 100000 in
set_option maxHeartbeats 4000000 in
theorem c_probe_o1 {c i k : Int32} {ρ ν μ : xM} {φ κ : Nat → Nat} {B : Nat × Nat × Nat × (Nat → Prop)} {Q : Option Value → xM → Prop} (hR : Rel ρ ν μ φ κ B) (hc : rng c 16 = none) (hq : ∀ μ1, Rel ρ (ν) μ1 φ κ B → Q (some (.long (0))) μ1) : Mt kX4_probe [.ref 1, .int (c), .int (i), .int (k)] μ Q := by
  have hB := hR.2.1
  refine Mt.enter rfl (Nat.le_of_ble_eq_true rfl) ?_
  refine X.aload_n dX4_probe_0 rfl ?_
  refine X.iload_n dX4_probe_1 rfl ?_
  refine X.cV1n (k' := kX4_channelAt) dX4_probe_2 (hB.1 1 (by decide) (by decide)) ⟨by decide, rfl⟩ v_X4_channelAt wm_X4_59 wi_X4_channelAt ws_X4_channelAt ⟨Nat.le_of_ble_eq_true rfl, Nat.le_of_ble_eq_true rfl⟩ n_X4_channelAt (Nat.le_of_ble_eq_true rfl) ?_
  refine x_channelAt_o hB hc ?_
  refine ⟨rfl, ?_⟩
  refine X.astoreN dX4_probe_5 (Nat.le_of_ble_eq_true rfl) ?_
  refine X.aloadN dX4_probe_7 rfl ?_
  refine X.ifnull_n (tgt := 19) dX4_probe_9 (by decide) ?_
  refine X.lconst (v := 0) dX4_probe_19 (by decide) ?_
  refine X.ret dX4_probe_20 ⟨trivial, ?_⟩
  exact hq _ hR
set_option maxRecDepth 100000 in
set_option maxHeartbeats 4000000 in
theorem c_probe_o2 {a : Nat} {i k : Int32} {ρ ν μ : xM} {φ κ : Nat → Nat} {B : Nat × Nat × Nat × (Nat → Prop)} {Q : Option Value → xM → Prop} (hR : Rel ρ ν μ φ κ B) (ha : a < 16) (hk : rng k 8 = none) (hq : ∀ μ1, Rel ρ (ν) μ1 φ κ B → Q (some (.long (0))) μ1) : Mt kX4_probe [.ref 1, .int (nI a), .int (i), .int (k)] μ Q := by
  have hB := hR.2.1
  refine Mt.enter rfl (Nat.le_of_ble_eq_true rfl) ?_
  refine X.aload_n dX4_probe_0 rfl ?_
  refine X.iload_n dX4_probe_1 rfl ?_
  refine X.cV1a (k' := kX4_channelAt) dX4_probe_2 (hB.1 1 (by decide) (by decide)) ⟨by decide, rfl⟩ v_X4_channelAt wm_X4_59 wi_X4_channelAt ws_X4_channelAt ⟨Nat.le_of_ble_eq_true rfl, Nat.le_of_ble_eq_true rfl⟩ n_X4_channelAt (Nat.le_of_ble_eq_true rfl) ?_
  refine x_channelAt hB ha ?_
  refine ⟨_, rfl, ?_⟩
  refine X.astore dX4_probe_5 (Nat.le_of_ble_eq_true rfl) ?_
  refine X.aload dX4_probe_7 rfl ?_
  refine X.ifnull_r dX4_probe_9 ?_
  refine X.iload_n dX4_probe_12 rfl ?_
  refine X.cS1i (k' := kX4_isPlain) dX4_probe_13 v_X4_isPlain wm_X4_105 wt_X4_isPlain ⟨Nat.le_of_ble_eq_true rfl, Nat.le_of_ble_eq_true rfl⟩ n_X4_isPlain (Nat.le_of_ble_eq_true rfl) ?_
  refine x_isPlain_f hk ?_
  refine ⟨_, rfl, ?_⟩
  refine X.if_ne_f (tgt := 21) dX4_probe_16 (by decide) ((by decide)) ?_
  refine X.lconst (v := 0) dX4_probe_19 (by decide) ?_
  refine X.ret dX4_probe_20 ⟨trivial, ?_⟩
  exact hq _ hR
set_option maxRecDepth 100000 in
set_option maxHeartbeats 4000000 in
theorem c_probe_n1 {a k : Nat} {i : Int32} {ρ ν μ : xM} {φ κ : Nat → Nat} {B : Nat × Nat × Nat × (Nat → Prop)} {Q : Option Value → xM → Prop} (hR : Rel ρ ν μ φ κ B) (ha : a < 16) (hk : k < 8) (h0 : ¬ noTapeM ν a = 0) (hq : ∀ μ1, Rel ρ (metM ν (noTapeM ν a)) μ1 φ κ B → Q (some (.long (0))) μ1) : Mt kX4_probe [.ref 1, .int (nI a), .int (i), .int (nI k)] μ Q := by
  have hB := hR.2.1
  refine Mt.enter rfl (Nat.le_of_ble_eq_true rfl) ?_
  refine X.aload_n dX4_probe_0 rfl ?_
  refine X.iload_n dX4_probe_1 rfl ?_
  refine X.cV1a (k' := kX4_channelAt) dX4_probe_2 (hB.1 1 (by decide) (by decide)) ⟨by decide, rfl⟩ v_X4_channelAt wm_X4_59 wi_X4_channelAt ws_X4_channelAt ⟨Nat.le_of_ble_eq_true rfl, Nat.le_of_ble_eq_true rfl⟩ n_X4_channelAt (Nat.le_of_ble_eq_true rfl) ?_
  refine x_channelAt hB ha ?_
  refine ⟨_, rfl, ?_⟩
  refine X.astore dX4_probe_5 (Nat.le_of_ble_eq_true rfl) ?_
  refine X.aload dX4_probe_7 rfl ?_
  refine X.ifnull_r dX4_probe_9 ?_
  refine X.iload_n dX4_probe_12 rfl ?_
  refine X.cS1i (k' := kX4_isPlain) dX4_probe_13 v_X4_isPlain wm_X4_105 wt_X4_isPlain ⟨Nat.le_of_ble_eq_true rfl, Nat.le_of_ble_eq_true rfl⟩ n_X4_isPlain (Nat.le_of_ble_eq_true rfl) ?_
  refine x_isPlain_t (rng_nI hk (by decide)) ?_
  refine ⟨_, rfl, ?_⟩
  refine X.if_ne_t (tgt := 21) dX4_probe_16 (by decide) ((by decide)) ?_
  refine X.aload dX4_probe_21 rfl ?_
  refine X.cV0i (k' := kX2_refusalOfPlain) dX4_probe_23 ((hB.2.2.1 a ha).1) ⟨by decide, rfl⟩ v_X2_refusalOfPlain wm_X4_108 wi_X2_refusalOfPlain ws_X2_refusalOfPlain ⟨Nat.le_of_ble_eq_true rfl, Nat.le_of_ble_eq_true rfl⟩ n_X2_refusalOfPlain (Nat.le_of_ble_eq_true rfl) ?_
  refine c_refPlain1 hR ha h0 ?_
  refine ⟨_, rfl, ?_⟩
  refine X.istore dX4_probe_26 (Nat.le_of_ble_eq_true rfl) ?_
  refine X.iload dX4_probe_28 rfl ?_
  refine X.if_ne_t (tgt := 45) dX4_probe_30 (by decide) ((fun q => h0 (nI_z q (by have := noTapeM_le ν a; omega)))) ?_
  refine X.iload dX4_probe_45 rfl ?_
  refine X.if_ne_t (tgt := 67) dX4_probe_47 (by decide) ((fun q => h0 (nI_z q (by have := noTapeM_le ν a; omega)))) ?_
  refine X.aload_n dX4_probe_67 rfl ?_
  refine X.iload dX4_probe_68 rfl ?_
  refine X.cV1v (k' := kX4_note) dX4_probe_70 (hB.1 1 (by decide) (by decide)) ⟨by decide, rfl⟩ v_X4_note wm_X4_133 wi_X4_note ws_X4_note ⟨Nat.le_of_ble_eq_true rfl, Nat.le_of_ble_eq_true rfl⟩ n_X4_note (Nat.le_of_ble_eq_true rfl) ?_
  refine c_note (r := noTapeM ν a) hR (by have := noTapeM_le ν a; omega) (fun μ1 hR => ?_)
  refine ⟨rfl, ?_⟩
  refine X.iload dX4_probe_73 rfl ?_
  refine X.if_ne_t (tgt := 92) dX4_probe_75 (by decide) ((fun q => h0 (nI_z q (by have := noTapeM_le ν a; omega)))) ?_
  refine X.lconst (v := 0) dX4_probe_92 (by decide) ?_
  refine X.ret dX4_probe_93 ⟨trivial, ?_⟩
  exact hq _ hR
set_option maxRecDepth 100000 in
set_option maxHeartbeats 4000000 in
theorem c_probe_n2 {a k : Nat} {i : Int32} {ρ ν μ : xM} {φ κ : Nat → Nat} {B : Nat × Nat × Nat × (Nat → Prop)} {Q : Option Value → xM → Prop} (hR : Rel ρ ν μ φ κ B) (ha : a < 16) (hk : k < 8) (h0 : noTapeM ν a = 0) (h8 : ¬ kd ν (tp ν a) < 8) (hq : ∀ μ1, Rel ρ (metM ν 2) μ1 φ κ B → Q (some (.long (0))) μ1) : Mt kX4_probe [.ref 1, .int (nI a), .int (i), .int (nI k)] μ Q := by
  have hB := hR.2.1
  refine Mt.enter rfl (Nat.le_of_ble_eq_true rfl) ?_
  refine X.aload_n dX4_probe_0 rfl ?_
  refine X.iload_n dX4_probe_1 rfl ?_
  refine X.cV1a (k' := kX4_channelAt) dX4_probe_2 (hB.1 1 (by decide) (by decide)) ⟨by decide, rfl⟩ v_X4_channelAt wm_X4_59 wi_X4_channelAt ws_X4_channelAt ⟨Nat.le_of_ble_eq_true rfl, Nat.le_of_ble_eq_true rfl⟩ n_X4_channelAt (Nat.le_of_ble_eq_true rfl) ?_
  refine x_channelAt hB ha ?_
  refine ⟨_, rfl, ?_⟩
  refine X.astore dX4_probe_5 (Nat.le_of_ble_eq_true rfl) ?_
  refine X.aload dX4_probe_7 rfl ?_
  refine X.ifnull_r dX4_probe_9 ?_
  refine X.iload_n dX4_probe_12 rfl ?_
  refine X.cS1i (k' := kX4_isPlain) dX4_probe_13 v_X4_isPlain wm_X4_105 wt_X4_isPlain ⟨Nat.le_of_ble_eq_true rfl, Nat.le_of_ble_eq_true rfl⟩ n_X4_isPlain (Nat.le_of_ble_eq_true rfl) ?_
  refine x_isPlain_t (rng_nI hk (by decide)) ?_
  refine ⟨_, rfl, ?_⟩
  refine X.if_ne_t (tgt := 21) dX4_probe_16 (by decide) ((by decide)) ?_
  refine X.aload dX4_probe_21 rfl ?_
  refine X.cV0i (k' := kX2_refusalOfPlain) dX4_probe_23 ((hB.2.2.1 a ha).1) ⟨by decide, rfl⟩ v_X2_refusalOfPlain wm_X4_108 wi_X2_refusalOfPlain ws_X2_refusalOfPlain ⟨Nat.le_of_ble_eq_true rfl, Nat.le_of_ble_eq_true rfl⟩ n_X2_refusalOfPlain (Nat.le_of_ble_eq_true rfl) ?_
  refine c_refPlain3 hR ha h0 h8 ?_
  refine ⟨_, rfl, ?_⟩
  refine X.istore dX4_probe_26 (Nat.le_of_ble_eq_true rfl) ?_
  refine X.iload dX4_probe_28 rfl ?_
  refine X.if_ne_t (tgt := 45) dX4_probe_30 (by decide) ((by decide)) ?_
  refine X.iload dX4_probe_45 rfl ?_
  refine X.if_ne_t (tgt := 67) dX4_probe_47 (by decide) ((by decide)) ?_
  refine X.aload_n dX4_probe_67 rfl ?_
  refine X.iload dX4_probe_68 rfl ?_
  refine X.cV1v (k' := kX4_note) dX4_probe_70 (hB.1 1 (by decide) (by decide)) ⟨by decide, rfl⟩ v_X4_note wm_X4_133 wi_X4_note ws_X4_note ⟨Nat.le_of_ble_eq_true rfl, Nat.le_of_ble_eq_true rfl⟩ n_X4_note (Nat.le_of_ble_eq_true rfl) ?_
  refine c_note (r := 2) hR (by decide) (fun μ1 hR => ?_)
  refine ⟨rfl, ?_⟩
  refine X.iload dX4_probe_73 rfl ?_
  refine X.if_ne_t (tgt := 92) dX4_probe_75 (by decide) ((by decide)) ?_
  refine X.lconst (v := 0) dX4_probe_92 (by decide) ?_
  refine X.ret dX4_probe_93 ⟨trivial, ?_⟩
  exact hq _ hR
set_option maxRecDepth 100000 in
set_option maxHeartbeats 4000000 in
theorem c_probe_n3 {a k : Nat} {i : Int32} {ρ ν μ : xM} {φ κ : Nat → Nat} {B : Nat × Nat × Nat × (Nat → Prop)} {Q : Option Value → xM → Prop} (hR : Rel ρ ν μ φ κ B) (ha : a < 16) (hk : k < 8) (h0 : noTapeM ν a = 0) (h8 : kd ν (tp ν a) < 8) (hz : ¬ noPlaceM ν a i = 0) (hq : ∀ μ1, Rel ρ (metM ν (noPlaceM ν a i)) μ1 φ κ B → Q (some (.long (0))) μ1) : Mt kX4_probe [.ref 1, .int (nI a), .int (i), .int (nI k)] μ Q := by
  have hB := hR.2.1
  refine Mt.enter rfl (Nat.le_of_ble_eq_true rfl) ?_
  refine X.aload_n dX4_probe_0 rfl ?_
  refine X.iload_n dX4_probe_1 rfl ?_
  refine X.cV1a (k' := kX4_channelAt) dX4_probe_2 (hB.1 1 (by decide) (by decide)) ⟨by decide, rfl⟩ v_X4_channelAt wm_X4_59 wi_X4_channelAt ws_X4_channelAt ⟨Nat.le_of_ble_eq_true rfl, Nat.le_of_ble_eq_true rfl⟩ n_X4_channelAt (Nat.le_of_ble_eq_true rfl) ?_
  refine x_channelAt hB ha ?_
  refine ⟨_, rfl, ?_⟩
  refine X.astore dX4_probe_5 (Nat.le_of_ble_eq_true rfl) ?_
  refine X.aload dX4_probe_7 rfl ?_
  refine X.ifnull_r dX4_probe_9 ?_
  refine X.iload_n dX4_probe_12 rfl ?_
  refine X.cS1i (k' := kX4_isPlain) dX4_probe_13 v_X4_isPlain wm_X4_105 wt_X4_isPlain ⟨Nat.le_of_ble_eq_true rfl, Nat.le_of_ble_eq_true rfl⟩ n_X4_isPlain (Nat.le_of_ble_eq_true rfl) ?_
  refine x_isPlain_t (rng_nI hk (by decide)) ?_
  refine ⟨_, rfl, ?_⟩
  refine X.if_ne_t (tgt := 21) dX4_probe_16 (by decide) ((by decide)) ?_
  refine X.aload dX4_probe_21 rfl ?_
  refine X.cV0i (k' := kX2_refusalOfPlain) dX4_probe_23 ((hB.2.2.1 a ha).1) ⟨by decide, rfl⟩ v_X2_refusalOfPlain wm_X4_108 wi_X2_refusalOfPlain ws_X2_refusalOfPlain ⟨Nat.le_of_ble_eq_true rfl, Nat.le_of_ble_eq_true rfl⟩ n_X2_refusalOfPlain (Nat.le_of_ble_eq_true rfl) ?_
  refine c_refPlain2 hR ha h0 h8 ?_
  refine ⟨_, rfl, ?_⟩
  refine X.istore dX4_probe_26 (Nat.le_of_ble_eq_true rfl) ?_
  refine X.iload dX4_probe_28 rfl ?_
  refine X.if_ne_f (tgt := 45) dX4_probe_30 (by decide) ((by decide)) ?_
  refine X.aload dX4_probe_33 rfl ?_
  refine X.iload_n dX4_probe_35 rfl ?_
  refine X.aload_n dX4_probe_36 rfl ?_
  refine X.getR (b := 26) (kf := 9) dX4_probe_37 (hB.1 1 (by decide) (by decide)) (by decide) (by decide) rfl wf_X4_49 (hB.2.1 9 (by decide)) ?_
  refine X.cV2i (k' := kX2_read) dX4_probe_40 ((hB.2.2.1 a ha).1) ⟨by decide, rfl⟩ v_X2_read wm_X4_123 wi_X2_read ws_X2_read ⟨Nat.le_of_ble_eq_true rfl, Nat.le_of_ble_eq_true rfl⟩ n_X2_read (Nat.le_of_ble_eq_true rfl) ?_
  refine c_read_o hR ha hz ?_
  refine ⟨_, rfl, ?_⟩
  refine X.istore dX4_probe_43 (Nat.le_of_ble_eq_true rfl) ?_
  refine X.iload dX4_probe_45 rfl ?_
  refine X.if_ne_t (tgt := 67) dX4_probe_47 (by decide) ((fun q => hz (nI_z q (by have := noPlace_le ν a i; omega)))) ?_
  refine X.aload_n dX4_probe_67 rfl ?_
  refine X.iload dX4_probe_68 rfl ?_
  refine X.cV1v (k' := kX4_note) dX4_probe_70 (hB.1 1 (by decide) (by decide)) ⟨by decide, rfl⟩ v_X4_note wm_X4_133 wi_X4_note ws_X4_note ⟨Nat.le_of_ble_eq_true rfl, Nat.le_of_ble_eq_true rfl⟩ n_X4_note (Nat.le_of_ble_eq_true rfl) ?_
  refine c_note (r := noPlaceM ν a i) hR (by have := noPlace_le ν a i; omega) (fun μ1 hR => ?_)
  refine ⟨rfl, ?_⟩
  refine X.iload dX4_probe_73 rfl ?_
  refine X.if_ne_t (tgt := 92) dX4_probe_75 (by decide) ((fun q => hz (nI_z q (by have := noPlace_le ν a i; omega)))) ?_
  refine X.lconst (v := 0) dX4_probe_92 (by decide) ?_
  refine X.ret dX4_probe_93 ⟨trivial, ?_⟩
  exact hq _ hR
set_option maxRecDepth 100000 in
set_option maxHeartbeats 4000000 in
theorem c_probe_n4 {a k : Nat} {i : Int32} {ρ ν μ : xM} {φ κ : Nat → Nat} {B : Nat × Nat × Nat × (Nat → Prop)} {Q : Option Value → xM → Prop} (hR : Rel ρ ν μ φ κ B) (ha : a < 16) (hk : k < 8) (h0 : noTapeM ν a = 0) (h8 : kd ν (tp ν a) < 8) (hz : noPlaceM ν a i = 0) (ht : takesM k (cellKindM ν (tp ν a) (ix i)) = false) (hq : ∀ μ1, Rel ρ (metM ν 2) μ1 φ κ B → Q (some (.long (0))) μ1) : Mt kX4_probe [.ref 1, .int (nI a), .int (i), .int (nI k)] μ Q := by
  have hB := hR.2.1
  refine Mt.enter rfl (Nat.le_of_ble_eq_true rfl) ?_
  refine X.aload_n dX4_probe_0 rfl ?_
  refine X.iload_n dX4_probe_1 rfl ?_
  refine X.cV1a (k' := kX4_channelAt) dX4_probe_2 (hB.1 1 (by decide) (by decide)) ⟨by decide, rfl⟩ v_X4_channelAt wm_X4_59 wi_X4_channelAt ws_X4_channelAt ⟨Nat.le_of_ble_eq_true rfl, Nat.le_of_ble_eq_true rfl⟩ n_X4_channelAt (Nat.le_of_ble_eq_true rfl) ?_
  refine x_channelAt hB ha ?_
  refine ⟨_, rfl, ?_⟩
  refine X.astore dX4_probe_5 (Nat.le_of_ble_eq_true rfl) ?_
  refine X.aload dX4_probe_7 rfl ?_
  refine X.ifnull_r dX4_probe_9 ?_
  refine X.iload_n dX4_probe_12 rfl ?_
  refine X.cS1i (k' := kX4_isPlain) dX4_probe_13 v_X4_isPlain wm_X4_105 wt_X4_isPlain ⟨Nat.le_of_ble_eq_true rfl, Nat.le_of_ble_eq_true rfl⟩ n_X4_isPlain (Nat.le_of_ble_eq_true rfl) ?_
  refine x_isPlain_t (rng_nI hk (by decide)) ?_
  refine ⟨_, rfl, ?_⟩
  refine X.if_ne_t (tgt := 21) dX4_probe_16 (by decide) ((by decide)) ?_
  refine X.aload dX4_probe_21 rfl ?_
  refine X.cV0i (k' := kX2_refusalOfPlain) dX4_probe_23 ((hB.2.2.1 a ha).1) ⟨by decide, rfl⟩ v_X2_refusalOfPlain wm_X4_108 wi_X2_refusalOfPlain ws_X2_refusalOfPlain ⟨Nat.le_of_ble_eq_true rfl, Nat.le_of_ble_eq_true rfl⟩ n_X2_refusalOfPlain (Nat.le_of_ble_eq_true rfl) ?_
  refine c_refPlain2 hR ha h0 h8 ?_
  refine ⟨_, rfl, ?_⟩
  refine X.istore dX4_probe_26 (Nat.le_of_ble_eq_true rfl) ?_
  refine X.iload dX4_probe_28 rfl ?_
  refine X.if_ne_f (tgt := 45) dX4_probe_30 (by decide) ((by decide)) ?_
  refine X.aload dX4_probe_33 rfl ?_
  refine X.iload_n dX4_probe_35 rfl ?_
  refine X.aload_n dX4_probe_36 rfl ?_
  refine X.getR (b := 26) (kf := 9) dX4_probe_37 (hB.1 1 (by decide) (by decide)) (by decide) (by decide) rfl wf_X4_49 (hB.2.1 9 (by decide)) ?_
  refine X.cV2i (k' := kX2_read) dX4_probe_40 ((hB.2.2.1 a ha).1) ⟨by decide, rfl⟩ v_X2_read wm_X4_123 wi_X2_read ws_X2_read ⟨Nat.le_of_ble_eq_true rfl, Nat.le_of_ble_eq_true rfl⟩ n_X2_read (Nat.le_of_ble_eq_true rfl) ?_
  refine c_read hR ha (Or.inl rfl) hz ?_
  refine ⟨_, rfl, ?_⟩
  have hR := hR.cell (Or.inl rfl) (nI (cellKindM ν (tp ν a) (ix i))) (numM ν (tp ν a) (ix i)) (tref ν φ (tp ν a) (ix i))
  have hB := hR.2.1
  refine X.istore dX4_probe_43 (Nat.le_of_ble_eq_true rfl) ?_
  refine X.iload dX4_probe_45 rfl ?_
  refine X.if_ne_f (tgt := 67) dX4_probe_47 (by decide) ((by decide)) ?_
  refine X.iload_n dX4_probe_50 rfl ?_
  refine X.aload_n dX4_probe_51 rfl ?_
  refine X.getR (b := 26) (kf := 9) dX4_probe_52 (hB.1 1 (by decide) (by decide)) (by decide) (by decide) rfl wf_X4_49 (hB.2.1 9 (by decide)) ?_
  refine X.getI (kf := 0) dX4_probe_55 (hB.1 26 (by decide) (by decide)) (by decide) (by decide) rfl wf_X4_126 ?_
  refine X.cS2i (k' := kX4_takes) dX4_probe_58 v_X4_takes wm_X4_129 wt_X4_takes ⟨Nat.le_of_ble_eq_true rfl, Nat.le_of_ble_eq_true rfl⟩ n_X4_takes (Nat.le_of_ble_eq_true rfl) ?_
  refine x_takes (k := k) (o := (cellKindM ν (tp ν a) (ix i))) (by omega) (Nat.le_trans cellKind_le (by decide)) ?_
  rw [ht]
  refine ⟨_, rfl, ?_⟩
  refine X.if_ne_f (tgt := 67) dX4_probe_61 (by decide) ((by decide)) ?_
  refine X.iconst (v := 2) dX4_probe_64 (by decide) ?_
  refine X.istore dX4_probe_65 (Nat.le_of_ble_eq_true rfl) ?_
  refine X.aload_n dX4_probe_67 rfl ?_
  refine X.iload dX4_probe_68 rfl ?_
  refine X.cV1v (k' := kX4_note) dX4_probe_70 (hB.1 1 (by decide) (by decide)) ⟨by decide, rfl⟩ v_X4_note wm_X4_133 wi_X4_note ws_X4_note ⟨Nat.le_of_ble_eq_true rfl, Nat.le_of_ble_eq_true rfl⟩ n_X4_note (Nat.le_of_ble_eq_true rfl) ?_
  refine c_note (r := 2) hR (by decide) (fun μ1 hR => ?_)
  refine ⟨rfl, ?_⟩
  refine X.iload dX4_probe_73 rfl ?_
  refine X.if_ne_t (tgt := 92) dX4_probe_75 (by decide) ((by decide)) ?_
  refine X.lconst (v := 0) dX4_probe_92 (by decide) ?_
  refine X.ret dX4_probe_93 ⟨trivial, ?_⟩
  exact hq _ hR
set_option maxRecDepth 100000 in
set_option maxHeartbeats 4000000 in
theorem c_probe_in {a k : Nat} {i : Int32} {ρ ν μ : xM} {φ κ : Nat → Nat} {B : Nat × Nat × Nat × (Nat → Prop)} {Q : Option Value → xM → Prop} (hR : Rel ρ ν μ φ κ B) (ha : a < 16) (hk : k < 8) (h0 : noTapeM ν a = 0) (h8 : kd ν (tp ν a) < 8) (hz : noPlaceM ν a i = 0) (ht : takesM k (cellKindM ν (tp ν a) (ix i)) = true) (hq : ∀ μ1, Rel ρ (metM ν 0) μ1 φ κ B → Q (some (.long (fitM k (numM ν (tp ν a) (ix i))))) μ1) : Mt kX4_probe [.ref 1, .int (nI a), .int (i), .int (nI k)] μ Q := by
  have hB := hR.2.1
  refine Mt.enter rfl (Nat.le_of_ble_eq_true rfl) ?_
  refine X.aload_n dX4_probe_0 rfl ?_
  refine X.iload_n dX4_probe_1 rfl ?_
  refine X.cV1a (k' := kX4_channelAt) dX4_probe_2 (hB.1 1 (by decide) (by decide)) ⟨by decide, rfl⟩ v_X4_channelAt wm_X4_59 wi_X4_channelAt ws_X4_channelAt ⟨Nat.le_of_ble_eq_true rfl, Nat.le_of_ble_eq_true rfl⟩ n_X4_channelAt (Nat.le_of_ble_eq_true rfl) ?_
  refine x_channelAt hB ha ?_
  refine ⟨_, rfl, ?_⟩
  refine X.astore dX4_probe_5 (Nat.le_of_ble_eq_true rfl) ?_
  refine X.aload dX4_probe_7 rfl ?_
  refine X.ifnull_r dX4_probe_9 ?_
  refine X.iload_n dX4_probe_12 rfl ?_
  refine X.cS1i (k' := kX4_isPlain) dX4_probe_13 v_X4_isPlain wm_X4_105 wt_X4_isPlain ⟨Nat.le_of_ble_eq_true rfl, Nat.le_of_ble_eq_true rfl⟩ n_X4_isPlain (Nat.le_of_ble_eq_true rfl) ?_
  refine x_isPlain_t (rng_nI hk (by decide)) ?_
  refine ⟨_, rfl, ?_⟩
  refine X.if_ne_t (tgt := 21) dX4_probe_16 (by decide) ((by decide)) ?_
  refine X.aload dX4_probe_21 rfl ?_
  refine X.cV0i (k' := kX2_refusalOfPlain) dX4_probe_23 ((hB.2.2.1 a ha).1) ⟨by decide, rfl⟩ v_X2_refusalOfPlain wm_X4_108 wi_X2_refusalOfPlain ws_X2_refusalOfPlain ⟨Nat.le_of_ble_eq_true rfl, Nat.le_of_ble_eq_true rfl⟩ n_X2_refusalOfPlain (Nat.le_of_ble_eq_true rfl) ?_
  refine c_refPlain2 hR ha h0 h8 ?_
  refine ⟨_, rfl, ?_⟩
  refine X.istore dX4_probe_26 (Nat.le_of_ble_eq_true rfl) ?_
  refine X.iload dX4_probe_28 rfl ?_
  refine X.if_ne_f (tgt := 45) dX4_probe_30 (by decide) ((by decide)) ?_
  refine X.aload dX4_probe_33 rfl ?_
  refine X.iload_n dX4_probe_35 rfl ?_
  refine X.aload_n dX4_probe_36 rfl ?_
  refine X.getR (b := 26) (kf := 9) dX4_probe_37 (hB.1 1 (by decide) (by decide)) (by decide) (by decide) rfl wf_X4_49 (hB.2.1 9 (by decide)) ?_
  refine X.cV2i (k' := kX2_read) dX4_probe_40 ((hB.2.2.1 a ha).1) ⟨by decide, rfl⟩ v_X2_read wm_X4_123 wi_X2_read ws_X2_read ⟨Nat.le_of_ble_eq_true rfl, Nat.le_of_ble_eq_true rfl⟩ n_X2_read (Nat.le_of_ble_eq_true rfl) ?_
  refine c_read hR ha (Or.inl rfl) hz ?_
  refine ⟨_, rfl, ?_⟩
  have hR := hR.cell (Or.inl rfl) (nI (cellKindM ν (tp ν a) (ix i))) (numM ν (tp ν a) (ix i)) (tref ν φ (tp ν a) (ix i))
  have hB := hR.2.1
  refine X.istore dX4_probe_43 (Nat.le_of_ble_eq_true rfl) ?_
  refine X.iload dX4_probe_45 rfl ?_
  refine X.if_ne_f (tgt := 67) dX4_probe_47 (by decide) ((by decide)) ?_
  refine X.iload_n dX4_probe_50 rfl ?_
  refine X.aload_n dX4_probe_51 rfl ?_
  refine X.getR (b := 26) (kf := 9) dX4_probe_52 (hB.1 1 (by decide) (by decide)) (by decide) (by decide) rfl wf_X4_49 (hB.2.1 9 (by decide)) ?_
  refine X.getI (kf := 0) dX4_probe_55 (hB.1 26 (by decide) (by decide)) (by decide) (by decide) rfl wf_X4_126 ?_
  refine X.cS2i (k' := kX4_takes) dX4_probe_58 v_X4_takes wm_X4_129 wt_X4_takes ⟨Nat.le_of_ble_eq_true rfl, Nat.le_of_ble_eq_true rfl⟩ n_X4_takes (Nat.le_of_ble_eq_true rfl) ?_
  refine x_takes (k := k) (o := (cellKindM ν (tp ν a) (ix i))) (by omega) (Nat.le_trans cellKind_le (by decide)) ?_
  rw [ht]
  refine ⟨_, rfl, ?_⟩
  refine X.if_ne_t (tgt := 67) dX4_probe_61 (by decide) ((by decide)) ?_
  refine X.aload_n dX4_probe_67 rfl ?_
  refine X.iload dX4_probe_68 rfl ?_
  refine X.cV1v (k' := kX4_note) dX4_probe_70 (hB.1 1 (by decide) (by decide)) ⟨by decide, rfl⟩ v_X4_note wm_X4_133 wi_X4_note ws_X4_note ⟨Nat.le_of_ble_eq_true rfl, Nat.le_of_ble_eq_true rfl⟩ n_X4_note (Nat.le_of_ble_eq_true rfl) ?_
  refine x_note (r := 0) hB (by decide) ?_
  refine ⟨rfl, ?_⟩
  have hR := hR.note (r := 0) (by decide)
  have hB := hR.2.1
  refine X.iload dX4_probe_73 rfl ?_
  refine X.if_ne_f (tgt := 92) dX4_probe_75 (by decide) ((by decide)) ?_
  refine X.iload_n dX4_probe_78 rfl ?_
  refine X.aload_n dX4_probe_79 rfl ?_
  refine X.getR (b := 26) (kf := 9) dX4_probe_80 (hB.1 1 (by decide) (by decide)) (by decide) (by decide) rfl wf_X4_49 (hB.2.1 9 (by decide)) ?_
  refine X.getJ (kf := 1) dX4_probe_83 (hB.1 26 (by decide) (by decide)) (by decide) (by decide) rfl wf_X4_136 ?_
  refine X.cS2l (k' := kX4_fitted) dX4_probe_86 v_X4_fitted wm_X4_111 wt_X4_fitted ⟨Nat.le_of_ble_eq_true rfl, Nat.le_of_ble_eq_true rfl⟩ n_X4_fitted (Nat.le_of_ble_eq_true rfl) ?_
  refine x_fitted (v := numM ν (tp ν a) (ix i)) (by omega) ?_
  refine ⟨_, rfl, ?_⟩
  refine X.goto (tgt := 93) dX4_probe_89 (by decide) ?_
  refine X.ret dX4_probe_93 ⟨trivial, ?_⟩
  exact hq _ hR
