/-! the class: its calls, second part (laid by wip/whole/mkpb7.py) -/
set_option maxRecDepth 100000 in
set_option maxHeartbeats 4000000 in
theorem c_told_o1 {c w : Int32} {ρ ν μ : xM} {φ κ : Nat → Nat} {B : Nat × Nat × Nat × (Nat → Prop)} {Q : Option Value → xM → Prop} (hR : Rel ρ ν μ φ κ B) (hc : rng c (qM ν) = none) (hq : ∀ μ1, Rel ρ (ν) μ1 φ κ B → Q (some (.int (-1))) μ1) : Mt kX4_told [.ref 1, .int (c), .int (w)] μ Q := by
  have hB := hR.2.1
  refine Mt.enter rfl (Nat.le_of_ble_eq_true rfl) ?_
  refine X.aload_n dX4_told_0 rfl ?_
  refine X.iload_n dX4_told_1 rfl ?_
  refine X.cV1n (k' := kX4_cableAt) dX4_told_2 (hB.1 1 (by decide) (by decide)) ⟨by decide, rfl⟩ v_X4_cableAt wm_X4_151 wi_X4_cableAt ws_X4_cableAt ⟨Nat.le_of_ble_eq_true rfl, Nat.le_of_ble_eq_true rfl⟩ n_X4_cableAt (Nat.le_of_ble_eq_true rfl) ?_
  refine c_cableAt_o hR hc ?_
  refine ⟨rfl, ?_⟩
  refine X.astore_nN dX4_told_5 (Nat.le_of_ble_eq_true rfl) ?_
  refine X.aload_nN dX4_told_6 rfl ?_
  refine X.ifnonnull_n dX4_told_7 ?_
  refine X.iconst (v := -1) dX4_told_10 (by decide) ?_
  refine X.ret dX4_told_11 ⟨trivial, ?_⟩
  exact hq _ hR
set_option maxRecDepth 100000 in
set_option maxHeartbeats 4000000 in
theorem c_told_o2 {k : Nat} {w : Int32} {ρ ν μ : xM} {φ κ : Nat → Nat} {B : Nat × Nat × Nat × (Nat → Prop)} {Q : Option Value → xM → Prop} (hR : Rel ρ ν μ φ κ B) (hk : k < qM ν) (hw : rng w 8 = none) (hq : ∀ μ1, Rel ρ (ν) μ1 φ κ B → Q (some (.int (-1))) μ1) : Mt kX4_told [.ref 1, .int (nI k), .int (w)] μ Q := by
  have hB := hR.2.1
  have hc := (hR.cb hk).2
  have hS := hc.2.1
  obtain ⟨⟨ek, lk⟩, ⟨ef, lf⟩, et, lt⟩ := hR.wc.2 k hk
  refine Mt.enter rfl (Nat.le_of_ble_eq_true rfl) ?_
  refine X.aload_n dX4_told_0 rfl ?_
  refine X.iload_n dX4_told_1 rfl ?_
  refine X.cV1a (k' := kX4_cableAt) dX4_told_2 (hB.1 1 (by decide) (by decide)) ⟨by decide, rfl⟩ v_X4_cableAt wm_X4_151 wi_X4_cableAt ws_X4_cableAt ⟨Nat.le_of_ble_eq_true rfl, Nat.le_of_ble_eq_true rfl⟩ n_X4_cableAt (Nat.le_of_ble_eq_true rfl) ?_
  refine c_cableAt hR hk ?_
  refine ⟨_, rfl, ?_⟩
  refine X.astore_n dX4_told_5 (Nat.le_of_ble_eq_true rfl) ?_
  refine X.aload_n dX4_told_6 rfl ?_
  refine X.ifnonnull_r (tgt := 12) dX4_told_7 (by decide) ?_
  refine X.iload_n dX4_told_12 rfl ?_
  refine X.tabOut (tgt := 114) dX4_told_13 (by have := rng_none hw; omega) (by decide) ?_
  refine X.iconst (v := -1) dX4_told_114 (by decide) ?_
  refine X.ret dX4_told_115 ⟨trivial, ?_⟩
  exact hq _ hR
set_option maxRecDepth 100000 in
set_option maxHeartbeats 4000000 in
theorem c_told_0 {k : Nat} {ρ ν μ : xM} {φ κ : Nat → Nat} {B : Nat × Nat × Nat × (Nat → Prop)} {Q : Option Value → xM → Prop} (hR : Rel ρ ν μ φ κ B) (hk : k < qM ν) (hq : ∀ μ1, Rel ρ (ν) μ1 φ κ B → Q (some (.int (mI ν 54 k))) μ1) : Mt kX4_told [.ref 1, .int (nI k), .int (0)] μ Q := by
  have hB := hR.2.1
  have hc := (hR.cb hk).2
  have hS := hc.2.1
  obtain ⟨⟨ek, lk⟩, ⟨ef, lf⟩, et, lt⟩ := hR.wc.2 k hk
  refine Mt.enter rfl (Nat.le_of_ble_eq_true rfl) ?_
  refine X.aload_n dX4_told_0 rfl ?_
  refine X.iload_n dX4_told_1 rfl ?_
  refine X.cV1a (k' := kX4_cableAt) dX4_told_2 (hB.1 1 (by decide) (by decide)) ⟨by decide, rfl⟩ v_X4_cableAt wm_X4_151 wi_X4_cableAt ws_X4_cableAt ⟨Nat.le_of_ble_eq_true rfl, Nat.le_of_ble_eq_true rfl⟩ n_X4_cableAt (Nat.le_of_ble_eq_true rfl) ?_
  refine c_cableAt hR hk ?_
  refine ⟨_, rfl, ?_⟩
  refine X.astore_n dX4_told_5 (Nat.le_of_ble_eq_true rfl) ?_
  refine X.aload_n dX4_told_6 rfl ?_
  refine X.ifnonnull_r (tgt := 12) dX4_told_7 (by decide) ?_
  refine X.iload_n dX4_told_12 rfl ?_
  refine X.tabIn (tgt := 60) dX4_told_13 (by decide) (by decide) (rfl) (by decide) ?_
  refine X.aload_n dX4_told_60 rfl ?_
  refine X.getI (kf := 1) dX4_told_61 (hS) (by decide) (by decide) rfl wf_X4_201 ?_
  refine X.ret dX4_told_64 ⟨trivial, ?_⟩
  rw [hc.2.2.1.2.1]
  exact hq _ hR
set_option maxRecDepth 100000 in
set_option maxHeartbeats 4000000 in
theorem c_told_1 {k : Nat} {ρ ν μ : xM} {φ κ : Nat → Nat} {B : Nat × Nat × Nat × (Nat → Prop)} {Q : Option Value → xM → Prop} (hR : Rel ρ ν μ φ κ B) (hk : k < qM ν) (hq : ∀ μ1, Rel ρ (ν) μ1 φ κ B → Q (some (.int (mI ν 55 k))) μ1) : Mt kX4_told [.ref 1, .int (nI k), .int (1)] μ Q := by
  have hB := hR.2.1
  have hc := (hR.cb hk).2
  have hS := hc.2.1
  obtain ⟨⟨ek, lk⟩, ⟨ef, lf⟩, et, lt⟩ := hR.wc.2 k hk
  refine Mt.enter rfl (Nat.le_of_ble_eq_true rfl) ?_
  refine X.aload_n dX4_told_0 rfl ?_
  refine X.iload_n dX4_told_1 rfl ?_
  refine X.cV1a (k' := kX4_cableAt) dX4_told_2 (hB.1 1 (by decide) (by decide)) ⟨by decide, rfl⟩ v_X4_cableAt wm_X4_151 wi_X4_cableAt ws_X4_cableAt ⟨Nat.le_of_ble_eq_true rfl, Nat.le_of_ble_eq_true rfl⟩ n_X4_cableAt (Nat.le_of_ble_eq_true rfl) ?_
  refine c_cableAt hR hk ?_
  refine ⟨_, rfl, ?_⟩
  refine X.astore_n dX4_told_5 (Nat.le_of_ble_eq_true rfl) ?_
  refine X.aload_n dX4_told_6 rfl ?_
  refine X.ifnonnull_r (tgt := 12) dX4_told_7 (by decide) ?_
  refine X.iload_n dX4_told_12 rfl ?_
  refine X.tabIn (tgt := 65) dX4_told_13 (by decide) (by decide) (rfl) (by decide) ?_
  refine X.aload_n dX4_told_65 rfl ?_
  refine X.getR (b := (28 + cf ν k)) (kf := 2) dX4_told_66 (hS) (by decide) (by decide) rfl wf_X4_202 (hc.2.2.1.2.2.1) ?_
  refine X.getI (kf := 0) dX4_told_69 ((hB.2.2.1 _ lf).1) (by decide) (by decide) rfl wf_X4_206 ?_
  refine X.ret dX4_told_72 ⟨trivial, ?_⟩
  rw [(hR.ch lf).1, ← ef]
  exact hq _ hR
set_option maxRecDepth 100000 in
set_option maxHeartbeats 4000000 in
theorem c_told_2 {k : Nat} {ρ ν μ : xM} {φ κ : Nat → Nat} {B : Nat × Nat × Nat × (Nat → Prop)} {Q : Option Value → xM → Prop} (hR : Rel ρ ν μ φ κ B) (hk : k < qM ν) (hq : ∀ μ1, Rel ρ (ν) μ1 φ κ B → Q (some (.int (mI ν 56 k))) μ1) : Mt kX4_told [.ref 1, .int (nI k), .int (2)] μ Q := by
  have hB := hR.2.1
  have hc := (hR.cb hk).2
  have hS := hc.2.1
  obtain ⟨⟨ek, lk⟩, ⟨ef, lf⟩, et, lt⟩ := hR.wc.2 k hk
  refine Mt.enter rfl (Nat.le_of_ble_eq_true rfl) ?_
  refine X.aload_n dX4_told_0 rfl ?_
  refine X.iload_n dX4_told_1 rfl ?_
  refine X.cV1a (k' := kX4_cableAt) dX4_told_2 (hB.1 1 (by decide) (by decide)) ⟨by decide, rfl⟩ v_X4_cableAt wm_X4_151 wi_X4_cableAt ws_X4_cableAt ⟨Nat.le_of_ble_eq_true rfl, Nat.le_of_ble_eq_true rfl⟩ n_X4_cableAt (Nat.le_of_ble_eq_true rfl) ?_
  refine c_cableAt hR hk ?_
  refine ⟨_, rfl, ?_⟩
  refine X.astore_n dX4_told_5 (Nat.le_of_ble_eq_true rfl) ?_
  refine X.aload_n dX4_told_6 rfl ?_
  refine X.ifnonnull_r (tgt := 12) dX4_told_7 (by decide) ?_
  refine X.iload_n dX4_told_12 rfl ?_
  refine X.tabIn (tgt := 73) dX4_told_13 (by decide) (by decide) (rfl) (by decide) ?_
  refine X.aload_n dX4_told_73 rfl ?_
  refine X.getR (b := (28 + ct ν k)) (kf := 3) dX4_told_74 (hS) (by decide) (by decide) rfl wf_X4_209 (hc.2.2.1.2.2.2) ?_
  refine X.getI (kf := 0) dX4_told_77 ((hB.2.2.1 _ lt).1) (by decide) (by decide) rfl wf_X4_206 ?_
  refine X.ret dX4_told_80 ⟨trivial, ?_⟩
  rw [(hR.ch lt).1, ← et]
  exact hq _ hR
set_option maxRecDepth 100000 in
set_option maxHeartbeats 4000000 in
theorem c_told_3 {k : Nat} {ρ ν μ : xM} {φ κ : Nat → Nat} {B : Nat × Nat × Nat × (Nat → Prop)} {Q : Option Value → xM → Prop} (hR : Rel ρ ν μ φ κ B) (hk : k < qM ν) (hq : ∀ μ1, Rel ρ (ν) μ1 φ κ B → Q (some (.int (if mI ν 57 k = 0 then 0 else 1))) μ1) : Mt kX4_told [.ref 1, .int (nI k), .int (3)] μ Q := by
  have hB := hR.2.1
  have hc := (hR.cb hk).2
  have hS := hc.2.1
  obtain ⟨⟨ek, lk⟩, ⟨ef, lf⟩, et, lt⟩ := hR.wc.2 k hk
  refine Mt.enter rfl (Nat.le_of_ble_eq_true rfl) ?_
  refine X.aload_n dX4_told_0 rfl ?_
  refine X.iload_n dX4_told_1 rfl ?_
  refine X.cV1a (k' := kX4_cableAt) dX4_told_2 (hB.1 1 (by decide) (by decide)) ⟨by decide, rfl⟩ v_X4_cableAt wm_X4_151 wi_X4_cableAt ws_X4_cableAt ⟨Nat.le_of_ble_eq_true rfl, Nat.le_of_ble_eq_true rfl⟩ n_X4_cableAt (Nat.le_of_ble_eq_true rfl) ?_
  refine c_cableAt hR hk ?_
  refine ⟨_, rfl, ?_⟩
  refine X.astore_n dX4_told_5 (Nat.le_of_ble_eq_true rfl) ?_
  refine X.aload_n dX4_told_6 rfl ?_
  refine X.ifnonnull_r (tgt := 12) dX4_told_7 (by decide) ?_
  refine X.iload_n dX4_told_12 rfl ?_
  refine X.tabIn (tgt := 81) dX4_told_13 (by decide) (by decide) (rfl) (by decide) ?_
  refine X.aload_n dX4_told_81 rfl ?_
  refine X.getI (kf := 4) dX4_told_82 (hS) (by decide) (by decide) rfl wf_X4_158 ?_
  refine X.if_eq (tgt := 92) dX4_told_85 (by decide) (fun c85 => ?_) (fun c85 => ?_)
  · refine X.iconst (v := 0) dX4_told_92 (by decide) ?_
    refine X.ret dX4_told_93 ⟨trivial, ?_⟩
    first
      | (rw [hc.2.2.2.1] at c85; rw [if_pos c85] at hq; exact hq _ hR)
      | (rw [hc.2.2.2.1] at c85; rw [if_neg c85] at hq; exact hq _ hR)
  · refine X.iconst (v := 1) dX4_told_88 (by decide) ?_
    refine X.goto (tgt := 93) dX4_told_89 (by decide) ?_
    refine X.ret dX4_told_93 ⟨trivial, ?_⟩
    first
      | (rw [hc.2.2.2.1] at c85; rw [if_pos c85] at hq; exact hq _ hR)
      | (rw [hc.2.2.2.1] at c85; rw [if_neg c85] at hq; exact hq _ hR)
set_option maxRecDepth 100000 in
set_option maxHeartbeats 4000000 in
theorem c_told_4 {k : Nat} {ρ ν μ : xM} {φ κ : Nat → Nat} {B : Nat × Nat × Nat × (Nat → Prop)} {Q : Option Value → xM → Prop} (hR : Rel ρ ν μ φ κ B) (hk : k < qM ν) (hq : ∀ μ1, Rel ρ (ν) μ1 φ κ B → Q (some (.int (mI ν 58 k))) μ1) : Mt kX4_told [.ref 1, .int (nI k), .int (4)] μ Q := by
  have hB := hR.2.1
  have hc := (hR.cb hk).2
  have hS := hc.2.1
  obtain ⟨⟨ek, lk⟩, ⟨ef, lf⟩, et, lt⟩ := hR.wc.2 k hk
  refine Mt.enter rfl (Nat.le_of_ble_eq_true rfl) ?_
  refine X.aload_n dX4_told_0 rfl ?_
  refine X.iload_n dX4_told_1 rfl ?_
  refine X.cV1a (k' := kX4_cableAt) dX4_told_2 (hB.1 1 (by decide) (by decide)) ⟨by decide, rfl⟩ v_X4_cableAt wm_X4_151 wi_X4_cableAt ws_X4_cableAt ⟨Nat.le_of_ble_eq_true rfl, Nat.le_of_ble_eq_true rfl⟩ n_X4_cableAt (Nat.le_of_ble_eq_true rfl) ?_
  refine c_cableAt hR hk ?_
  refine ⟨_, rfl, ?_⟩
  refine X.astore_n dX4_told_5 (Nat.le_of_ble_eq_true rfl) ?_
  refine X.aload_n dX4_told_6 rfl ?_
  refine X.ifnonnull_r (tgt := 12) dX4_told_7 (by decide) ?_
  refine X.iload_n dX4_told_12 rfl ?_
  refine X.tabIn (tgt := 94) dX4_told_13 (by decide) (by decide) (rfl) (by decide) ?_
  refine X.aload_n dX4_told_94 rfl ?_
  refine X.getI (kf := 5) dX4_told_95 (hS) (by decide) (by decide) rfl wf_X4_155 ?_
  refine X.ret dX4_told_98 ⟨trivial, ?_⟩
  rw [hc.2.2.2.2.1]
  exact hq _ hR
set_option maxRecDepth 100000 in
set_option maxHeartbeats 4000000 in
theorem c_told_5 {k : Nat} {ρ ν μ : xM} {φ κ : Nat → Nat} {B : Nat × Nat × Nat × (Nat → Prop)} {Q : Option Value → xM → Prop} (hR : Rel ρ ν μ φ κ B) (hk : k < qM ν) (hq : ∀ μ1, Rel ρ (ν) μ1 φ κ B → Q (some (.int (mI ν 59 k))) μ1) : Mt kX4_told [.ref 1, .int (nI k), .int (5)] μ Q := by
  have hB := hR.2.1
  have hc := (hR.cb hk).2
  have hS := hc.2.1
  obtain ⟨⟨ek, lk⟩, ⟨ef, lf⟩, et, lt⟩ := hR.wc.2 k hk
  refine Mt.enter rfl (Nat.le_of_ble_eq_true rfl) ?_
  refine X.aload_n dX4_told_0 rfl ?_
  refine X.iload_n dX4_told_1 rfl ?_
  refine X.cV1a (k' := kX4_cableAt) dX4_told_2 (hB.1 1 (by decide) (by decide)) ⟨by decide, rfl⟩ v_X4_cableAt wm_X4_151 wi_X4_cableAt ws_X4_cableAt ⟨Nat.le_of_ble_eq_true rfl, Nat.le_of_ble_eq_true rfl⟩ n_X4_cableAt (Nat.le_of_ble_eq_true rfl) ?_
  refine c_cableAt hR hk ?_
  refine ⟨_, rfl, ?_⟩
  refine X.astore_n dX4_told_5 (Nat.le_of_ble_eq_true rfl) ?_
  refine X.aload_n dX4_told_6 rfl ?_
  refine X.ifnonnull_r (tgt := 12) dX4_told_7 (by decide) ?_
  refine X.iload_n dX4_told_12 rfl ?_
  refine X.tabIn (tgt := 99) dX4_told_13 (by decide) (by decide) (rfl) (by decide) ?_
  refine X.aload_n dX4_told_99 rfl ?_
  refine X.getI (kf := 6) dX4_told_100 (hS) (by decide) (by decide) rfl wf_X4_161 ?_
  refine X.ret dX4_told_103 ⟨trivial, ?_⟩
  rw [hc.2.2.2.2.2.1]
  exact hq _ hR
set_option maxRecDepth 100000 in
set_option maxHeartbeats 4000000 in
theorem c_told_6 {k : Nat} {ρ ν μ : xM} {φ κ : Nat → Nat} {B : Nat × Nat × Nat × (Nat → Prop)} {Q : Option Value → xM → Prop} (hR : Rel ρ ν μ φ κ B) (hk : k < qM ν) (hq : ∀ μ1, Rel ρ (ν) μ1 φ κ B → Q (some (.int (mI ν 60 k))) μ1) : Mt kX4_told [.ref 1, .int (nI k), .int (6)] μ Q := by
  have hB := hR.2.1
  have hc := (hR.cb hk).2
  have hS := hc.2.1
  obtain ⟨⟨ek, lk⟩, ⟨ef, lf⟩, et, lt⟩ := hR.wc.2 k hk
  refine Mt.enter rfl (Nat.le_of_ble_eq_true rfl) ?_
  refine X.aload_n dX4_told_0 rfl ?_
  refine X.iload_n dX4_told_1 rfl ?_
  refine X.cV1a (k' := kX4_cableAt) dX4_told_2 (hB.1 1 (by decide) (by decide)) ⟨by decide, rfl⟩ v_X4_cableAt wm_X4_151 wi_X4_cableAt ws_X4_cableAt ⟨Nat.le_of_ble_eq_true rfl, Nat.le_of_ble_eq_true rfl⟩ n_X4_cableAt (Nat.le_of_ble_eq_true rfl) ?_
  refine c_cableAt hR hk ?_
  refine ⟨_, rfl, ?_⟩
  refine X.astore_n dX4_told_5 (Nat.le_of_ble_eq_true rfl) ?_
  refine X.aload_n dX4_told_6 rfl ?_
  refine X.ifnonnull_r (tgt := 12) dX4_told_7 (by decide) ?_
  refine X.iload_n dX4_told_12 rfl ?_
  refine X.tabIn (tgt := 104) dX4_told_13 (by decide) (by decide) (rfl) (by decide) ?_
  refine X.aload_n dX4_told_104 rfl ?_
  refine X.getI (kf := 7) dX4_told_105 (hS) (by decide) (by decide) rfl wf_X4_212 ?_
  refine X.ret dX4_told_108 ⟨trivial, ?_⟩
  rw [hc.2.2.2.2.2.2.1]
  exact hq _ hR
set_option maxRecDepth 100000 in
set_option maxHeartbeats 4000000 in
theorem c_told_7 {k : Nat} {ρ ν μ : xM} {φ κ : Nat → Nat} {B : Nat × Nat × Nat × (Nat → Prop)} {Q : Option Value → xM → Prop} (hR : Rel ρ ν μ φ κ B) (hk : k < qM ν) (hq : ∀ μ1, Rel ρ (ν) μ1 φ κ B → Q (some (.int (mI ν 61 k))) μ1) : Mt kX4_told [.ref 1, .int (nI k), .int (7)] μ Q := by
  have hB := hR.2.1
  have hc := (hR.cb hk).2
  have hS := hc.2.1
  obtain ⟨⟨ek, lk⟩, ⟨ef, lf⟩, et, lt⟩ := hR.wc.2 k hk
  refine Mt.enter rfl (Nat.le_of_ble_eq_true rfl) ?_
  refine X.aload_n dX4_told_0 rfl ?_
  refine X.iload_n dX4_told_1 rfl ?_
  refine X.cV1a (k' := kX4_cableAt) dX4_told_2 (hB.1 1 (by decide) (by decide)) ⟨by decide, rfl⟩ v_X4_cableAt wm_X4_151 wi_X4_cableAt ws_X4_cableAt ⟨Nat.le_of_ble_eq_true rfl, Nat.le_of_ble_eq_true rfl⟩ n_X4_cableAt (Nat.le_of_ble_eq_true rfl) ?_
  refine c_cableAt hR hk ?_
  refine ⟨_, rfl, ?_⟩
  refine X.astore_n dX4_told_5 (Nat.le_of_ble_eq_true rfl) ?_
  refine X.aload_n dX4_told_6 rfl ?_
  refine X.ifnonnull_r (tgt := 12) dX4_told_7 (by decide) ?_
  refine X.iload_n dX4_told_12 rfl ?_
  refine X.tabIn (tgt := 109) dX4_told_13 (by decide) (by decide) (rfl) (by decide) ?_
  refine X.aload_n dX4_told_109 rfl ?_
  refine X.getI (kf := 8) dX4_told_110 (hS) (by decide) (by decide) rfl wf_X4_215 ?_
  refine X.ret dX4_told_113 ⟨trivial, ?_⟩
  rw [hc.2.2.2.2.2.2.2]
  exact hq _ hR
set_option maxRecDepth 100000 in
set_option maxHeartbeats 4000000 in
theorem c_patience_o1 {c n : Int32} {ρ ν μ : xM} {φ κ : Nat → Nat} {B : Nat × Nat × Nat × (Nat → Prop)} {Q : Option Value → xM → Prop} (hR : Rel ρ ν μ φ κ B) (hc : rng c (qM ν) = none) (hq : ∀ μ1, Rel ρ (ν) μ1 φ κ B → Q (some (.int (-1))) μ1) : Mt kX4_patience [.ref 1, .int (c), .int (n)] μ Q := by
  have hB := hR.2.1
  refine Mt.enter rfl (Nat.le_of_ble_eq_true rfl) ?_
  refine X.aload_n dX4_patience_0 rfl ?_
  refine X.iload_n dX4_patience_1 rfl ?_
  refine X.cV1n (k' := kX4_cableAt) dX4_patience_2 (hB.1 1 (by decide) (by decide)) ⟨by decide, rfl⟩ v_X4_cableAt wm_X4_151 wi_X4_cableAt ws_X4_cableAt ⟨Nat.le_of_ble_eq_true rfl, Nat.le_of_ble_eq_true rfl⟩ n_X4_cableAt (Nat.le_of_ble_eq_true rfl) ?_
  refine c_cableAt_o hR hc ?_
  refine ⟨rfl, ?_⟩
  refine X.astore_nN dX4_patience_5 (Nat.le_of_ble_eq_true rfl) ?_
  refine X.aload_nN dX4_patience_6 rfl ?_
  refine X.ifnull_n (tgt := 21) dX4_patience_7 (by decide) ?_
  refine X.iconst (v := -1) dX4_patience_21 (by decide) ?_
  refine X.ret dX4_patience_22 ⟨trivial, ?_⟩
  exact hq _ hR
set_option maxRecDepth 100000 in
set_option maxHeartbeats 4000000 in
theorem c_patience_o2 {k : Nat} {n : Int32} {ρ ν μ : xM} {φ κ : Nat → Nat} {B : Nat × Nat × Nat × (Nat → Prop)} {Q : Option Value → xM → Prop} (hR : Rel ρ ν μ φ κ B) (hk : k < qM ν) (hn : ¬ (1 ≤ n ∧ n ≤ 9)) (hq : ∀ μ1, Rel ρ (ν) μ1 φ κ B → Q (some (.int (-1))) μ1) : Mt kX4_patience [.ref 1, .int (nI k), .int (n)] μ Q := by
  have hB := hR.2.1
  have hc := (hR.cb hk).2
  have hS := hc.2.1
  obtain ⟨⟨ek, lk⟩, ⟨ef, lf⟩, et, lt⟩ := hR.wc.2 k hk
  refine Mt.enter rfl (Nat.le_of_ble_eq_true rfl) ?_
  refine X.aload_n dX4_patience_0 rfl ?_
  refine X.iload_n dX4_patience_1 rfl ?_
  refine X.cV1a (k' := kX4_cableAt) dX4_patience_2 (hB.1 1 (by decide) (by decide)) ⟨by decide, rfl⟩ v_X4_cableAt wm_X4_151 wi_X4_cableAt ws_X4_cableAt ⟨Nat.le_of_ble_eq_true rfl, Nat.le_of_ble_eq_true rfl⟩ n_X4_cableAt (Nat.le_of_ble_eq_true rfl) ?_
  refine c_cableAt hR hk ?_
  refine ⟨_, rfl, ?_⟩
  refine X.astore_n dX4_patience_5 (Nat.le_of_ble_eq_true rfl) ?_
  refine X.aload_n dX4_patience_6 rfl ?_
  refine X.ifnull_r dX4_patience_7 ?_
  refine X.iload_n dX4_patience_10 rfl ?_
  refine X.iconst (v := 1) dX4_patience_11 (by decide) ?_
  refine X.icmp_lt (tgt := 21) dX4_patience_12 (by decide) (fun c12 => ?_) (fun c12 => ?_)
  · refine X.iconst (v := -1) dX4_patience_21 (by decide) ?_
    refine X.ret dX4_patience_22 ⟨trivial, ?_⟩
    exact hq _ hR
  · refine X.iload_n dX4_patience_15 rfl ?_
    refine X.bipush (v := 9) dX4_patience_16 (by decide) ?_
    refine X.icmp_le (tgt := 23) dX4_patience_18 (by decide) (fun c18 => ?_) (fun c18 => ?_)
    · exact absurd ⟨Int32.not_lt.mp c12, c18⟩ hn
    · refine X.iconst (v := -1) dX4_patience_21 (by decide) ?_
      refine X.ret dX4_patience_22 ⟨trivial, ?_⟩
      exact hq _ hR
set_option maxRecDepth 100000 in
set_option maxHeartbeats 4000000 in
theorem c_patience_in {k : Nat} {n : Int32} {ρ ν μ : xM} {φ κ : Nat → Nat} {B : Nat × Nat × Nat × (Nat → Prop)} {Q : Option Value → xM → Prop} (hR : Rel ρ ν μ φ κ B) (hk : k < qM ν) (hn : 1 ≤ n ∧ n ≤ 9) (hq : ∀ μ1, Rel ρ (sI ν 58 k n) μ1 φ κ B → Q (some (.int (mI ν 58 k))) μ1) : Mt kX4_patience [.ref 1, .int (nI k), .int (n)] μ Q := by
  have hB := hR.2.1
  have hc := (hR.cb hk).2
  have hS := hc.2.1
  obtain ⟨⟨ek, lk⟩, ⟨ef, lf⟩, et, lt⟩ := hR.wc.2 k hk
  refine Mt.enter rfl (Nat.le_of_ble_eq_true rfl) ?_
  refine X.aload_n dX4_patience_0 rfl ?_
  refine X.iload_n dX4_patience_1 rfl ?_
  refine X.cV1a (k' := kX4_cableAt) dX4_patience_2 (hB.1 1 (by decide) (by decide)) ⟨by decide, rfl⟩ v_X4_cableAt wm_X4_151 wi_X4_cableAt ws_X4_cableAt ⟨Nat.le_of_ble_eq_true rfl, Nat.le_of_ble_eq_true rfl⟩ n_X4_cableAt (Nat.le_of_ble_eq_true rfl) ?_
  refine c_cableAt hR hk ?_
  refine ⟨_, rfl, ?_⟩
  refine X.astore_n dX4_patience_5 (Nat.le_of_ble_eq_true rfl) ?_
  refine X.aload_n dX4_patience_6 rfl ?_
  refine X.ifnull_r dX4_patience_7 ?_
  refine X.iload_n dX4_patience_10 rfl ?_
  refine X.iconst (v := 1) dX4_patience_11 (by decide) ?_
  refine X.icmp_lt_f (tgt := 21) dX4_patience_12 (by decide) (Int32.not_lt.mpr hn.1) ?_
  refine X.iload_n dX4_patience_15 rfl ?_
  refine X.bipush (v := 9) dX4_patience_16 (by decide) ?_
  refine X.icmp_le_t (tgt := 23) dX4_patience_18 (by decide) (hn.2) ?_
  refine X.aload_n dX4_patience_23 rfl ?_
  refine X.getI (kf := 5) dX4_patience_24 (hS) (by decide) (by decide) rfl wf_X4_155 ?_
  refine X.istore dX4_patience_27 (Nat.le_of_ble_eq_true rfl) ?_
  refine X.aload_n dX4_patience_29 rfl ?_
  refine X.iload_n dX4_patience_30 rfl ?_
  refine X.putI (kf := 5) dX4_patience_31 (hS) (by decide) (by decide) rfl (Or.inl rfl) ⟨rfl, rfl⟩ wf_X4_155 ?_
  refine X.iload dX4_patience_34 rfl ?_
  refine X.ret dX4_patience_36 ⟨trivial, ?_⟩
  rw [hc.2.2.2.2.1]
  exact hq _ (hR.cab hk (f := 5) (Or.inr (Or.inl rfl)))
set_option maxRecDepth 100000 in
set_option maxHeartbeats 4000000 in
theorem c_pull_o {c : Int32} {ρ ν μ : xM} {φ κ : Nat → Nat} {B : Nat × Nat × Nat × (Nat → Prop)} {Q : Option Value → xM → Prop} (hR : Rel ρ ν μ φ κ B) (hc : rng c (qM ν) = none) (hq : ∀ μ1, Rel ρ (ν) μ1 φ κ B → Q (some (.int (-1))) μ1) : Mt kX4_pull [.ref 1, .int (c)] μ Q := by
  have hB := hR.2.1
  refine Mt.enter rfl (Nat.le_of_ble_eq_true rfl) ?_
  refine X.aload_n dX4_pull_0 rfl ?_
  refine X.iload_n dX4_pull_1 rfl ?_
  refine X.cV1n (k' := kX4_cableAt) dX4_pull_2 (hB.1 1 (by decide) (by decide)) ⟨by decide, rfl⟩ v_X4_cableAt wm_X4_151 wi_X4_cableAt ws_X4_cableAt ⟨Nat.le_of_ble_eq_true rfl, Nat.le_of_ble_eq_true rfl⟩ n_X4_cableAt (Nat.le_of_ble_eq_true rfl) ?_
  refine c_cableAt_o hR hc ?_
  refine ⟨rfl, ?_⟩
  refine X.astore_nN dX4_pull_5 (Nat.le_of_ble_eq_true rfl) ?_
  refine X.aload_nN dX4_pull_6 rfl ?_
  refine X.ifnonnull_n dX4_pull_7 ?_
  refine X.iconst (v := -1) dX4_pull_10 (by decide) ?_
  refine X.ret dX4_pull_11 ⟨trivial, ?_⟩
  exact hq _ hR
set_option maxRecDepth 100000 in
set_option maxHeartbeats 4000000 in
theorem c_pull_in {k : Nat} {ρ ν μ : xM} {φ κ : Nat → Nat} {B : Nat × Nat × Nat × (Nat → Prop)} {Q : Option Value → xM → Prop} (hR : Rel ρ ν μ φ κ B) (hk : k < qM ν) (hq : ∀ μ1, Rel ρ (sI ν 57 k 0) μ1 φ κ B → Q (some (.int (if mI ν 57 k = 0 then 0 else 1))) μ1) : Mt kX4_pull [.ref 1, .int (nI k)] μ Q := by
  have hB := hR.2.1
  have hc := (hR.cb hk).2
  have hS := hc.2.1
  obtain ⟨⟨ek, lk⟩, ⟨ef, lf⟩, et, lt⟩ := hR.wc.2 k hk
  refine Mt.enter rfl (Nat.le_of_ble_eq_true rfl) ?_
  refine X.aload_n dX4_pull_0 rfl ?_
  refine X.iload_n dX4_pull_1 rfl ?_
  refine X.cV1a (k' := kX4_cableAt) dX4_pull_2 (hB.1 1 (by decide) (by decide)) ⟨by decide, rfl⟩ v_X4_cableAt wm_X4_151 wi_X4_cableAt ws_X4_cableAt ⟨Nat.le_of_ble_eq_true rfl, Nat.le_of_ble_eq_true rfl⟩ n_X4_cableAt (Nat.le_of_ble_eq_true rfl) ?_
  refine c_cableAt hR hk ?_
  refine ⟨_, rfl, ?_⟩
  refine X.astore_n dX4_pull_5 (Nat.le_of_ble_eq_true rfl) ?_
  refine X.aload_n dX4_pull_6 rfl ?_
  refine X.ifnonnull_r (tgt := 12) dX4_pull_7 (by decide) ?_
  refine X.aload_n dX4_pull_12 rfl ?_
  refine X.getI (kf := 4) dX4_pull_13 (hS) (by decide) (by decide) rfl wf_X4_158 ?_
  refine X.istore_n dX4_pull_16 (Nat.le_of_ble_eq_true rfl) ?_
  refine X.aload_n dX4_pull_17 rfl ?_
  refine X.iconst (v := 0) dX4_pull_18 (by decide) ?_
  refine X.putI (kf := 4) dX4_pull_19 (hS) (by decide) (by decide) rfl (Or.inl rfl) ⟨rfl, rfl⟩ wf_X4_158 ?_
  refine X.iload_n dX4_pull_22 rfl ?_
  refine X.if_eq (tgt := 30) dX4_pull_23 (by decide) (fun c23 => ?_) (fun c23 => ?_)
  · refine X.iconst (v := 0) dX4_pull_30 (by decide) ?_
    refine X.ret dX4_pull_31 ⟨trivial, ?_⟩
    first
      | (rw [hc.2.2.2.1] at c23; rw [if_pos c23] at hq; exact hq _ (hR.cab hk (f := 4) (x := 0) (Or.inl ⟨rfl, Or.inl rfl⟩)))
      | (rw [hc.2.2.2.1] at c23; rw [if_neg c23] at hq; exact hq _ (hR.cab hk (f := 4) (x := 0) (Or.inl ⟨rfl, Or.inl rfl⟩)))
  · refine X.iconst (v := 1) dX4_pull_26 (by decide) ?_
    refine X.goto (tgt := 31) dX4_pull_27 (by decide) ?_
    refine X.ret dX4_pull_31 ⟨trivial, ?_⟩
    first
      | (rw [hc.2.2.2.1] at c23; rw [if_pos c23] at hq; exact hq _ (hR.cab hk (f := 4) (x := 0) (Or.inl ⟨rfl, Or.inl rfl⟩)))
      | (rw [hc.2.2.2.1] at c23; rw [if_neg c23] at hq; exact hq _ (hR.cab hk (f := 4) (x := 0) (Or.inl ⟨rfl, Or.inl rfl⟩)))
set_option maxRecDepth 100000 in
set_option maxHeartbeats 4000000 in
theorem c_plugIn_o {c : Int32} {ρ ν μ : xM} {φ κ : Nat → Nat} {B : Nat × Nat × Nat × (Nat → Prop)} {Q : Option Value → xM → Prop} (hR : Rel ρ ν μ φ κ B) (hc : rng c (qM ν) = none) (hq : ∀ μ1, Rel ρ (ν) μ1 φ κ B → Q (some (.int (-1))) μ1) : Mt kX4_plugIn [.ref 1, .int (c)] μ Q := by
  have hB := hR.2.1
  refine Mt.enter rfl (Nat.le_of_ble_eq_true rfl) ?_
  refine X.aload_n dX4_plugIn_0 rfl ?_
  refine X.iload_n dX4_plugIn_1 rfl ?_
  refine X.cV1n (k' := kX4_cableAt) dX4_plugIn_2 (hB.1 1 (by decide) (by decide)) ⟨by decide, rfl⟩ v_X4_cableAt wm_X4_151 wi_X4_cableAt ws_X4_cableAt ⟨Nat.le_of_ble_eq_true rfl, Nat.le_of_ble_eq_true rfl⟩ n_X4_cableAt (Nat.le_of_ble_eq_true rfl) ?_
  refine c_cableAt_o hR hc ?_
  refine ⟨rfl, ?_⟩
  refine X.astore_nN dX4_plugIn_5 (Nat.le_of_ble_eq_true rfl) ?_
  refine X.aload_nN dX4_plugIn_6 rfl ?_
  refine X.ifnonnull_n dX4_plugIn_7 ?_
  refine X.iconst (v := -1) dX4_plugIn_10 (by decide) ?_
  refine X.ret dX4_plugIn_11 ⟨trivial, ?_⟩
  exact hq _ hR
set_option maxRecDepth 100000 in
set_option maxHeartbeats 4000000 in
theorem c_plugIn_in {k : Nat} {ρ ν μ : xM} {φ κ : Nat → Nat} {B : Nat × Nat × Nat × (Nat → Prop)} {Q : Option Value → xM → Prop} (hR : Rel ρ ν μ φ κ B) (hk : k < qM ν) (hq : ∀ μ1, Rel ρ (sI (sI ν 57 k 1) 59 k 0) μ1 φ κ B → Q (some (.int (if mI ν 57 k = 0 then 0 else 1))) μ1) : Mt kX4_plugIn [.ref 1, .int (nI k)] μ Q := by
  have hB := hR.2.1
  have hc := (hR.cb hk).2
  have hS := hc.2.1
  obtain ⟨⟨ek, lk⟩, ⟨ef, lf⟩, et, lt⟩ := hR.wc.2 k hk
  refine Mt.enter rfl (Nat.le_of_ble_eq_true rfl) ?_
  refine X.aload_n dX4_plugIn_0 rfl ?_
  refine X.iload_n dX4_plugIn_1 rfl ?_
  refine X.cV1a (k' := kX4_cableAt) dX4_plugIn_2 (hB.1 1 (by decide) (by decide)) ⟨by decide, rfl⟩ v_X4_cableAt wm_X4_151 wi_X4_cableAt ws_X4_cableAt ⟨Nat.le_of_ble_eq_true rfl, Nat.le_of_ble_eq_true rfl⟩ n_X4_cableAt (Nat.le_of_ble_eq_true rfl) ?_
  refine c_cableAt hR hk ?_
  refine ⟨_, rfl, ?_⟩
  refine X.astore_n dX4_plugIn_5 (Nat.le_of_ble_eq_true rfl) ?_
  refine X.aload_n dX4_plugIn_6 rfl ?_
  refine X.ifnonnull_r (tgt := 12) dX4_plugIn_7 (by decide) ?_
  refine X.aload_n dX4_plugIn_12 rfl ?_
  refine X.getI (kf := 4) dX4_plugIn_13 (hS) (by decide) (by decide) rfl wf_X4_158 ?_
  refine X.istore_n dX4_plugIn_16 (Nat.le_of_ble_eq_true rfl) ?_
  refine X.aload_n dX4_plugIn_17 rfl ?_
  refine X.iconst (v := 1) dX4_plugIn_18 (by decide) ?_
  refine X.putI (kf := 4) dX4_plugIn_19 (hS) (by decide) (by decide) rfl (Or.inl rfl) ⟨rfl, rfl⟩ wf_X4_158 ?_
  refine X.aload_n dX4_plugIn_22 rfl ?_
  refine X.iconst (v := 0) dX4_plugIn_23 (by decide) ?_
  refine X.putI (kf := 6) dX4_plugIn_24 (hS) (by decide) (by decide) rfl (Or.inl rfl) ⟨rfl, rfl⟩ wf_X4_161 ?_
  refine X.iload_n dX4_plugIn_27 rfl ?_
  refine X.if_eq (tgt := 35) dX4_plugIn_28 (by decide) (fun c28 => ?_) (fun c28 => ?_)
  · refine X.iconst (v := 0) dX4_plugIn_35 (by decide) ?_
    refine X.ret dX4_plugIn_36 ⟨trivial, ?_⟩
    first
      | (rw [hc.2.2.2.1] at c28; rw [if_pos c28] at hq; exact hq _ ((hR.cab hk (f := 4) (x := 1) (Or.inl ⟨rfl, Or.inr rfl⟩)).cab hk (f := 6) (x := 0) (Or.inr (Or.inr (Or.inl rfl)))))
      | (rw [hc.2.2.2.1] at c28; rw [if_neg c28] at hq; exact hq _ ((hR.cab hk (f := 4) (x := 1) (Or.inl ⟨rfl, Or.inr rfl⟩)).cab hk (f := 6) (x := 0) (Or.inr (Or.inr (Or.inl rfl)))))
  · refine X.iconst (v := 1) dX4_plugIn_31 (by decide) ?_
    refine X.goto (tgt := 36) dX4_plugIn_32 (by decide) ?_
    refine X.ret dX4_plugIn_36 ⟨trivial, ?_⟩
    first
      | (rw [hc.2.2.2.1] at c28; rw [if_pos c28] at hq; exact hq _ ((hR.cab hk (f := 4) (x := 1) (Or.inl ⟨rfl, Or.inr rfl⟩)).cab hk (f := 6) (x := 0) (Or.inr (Or.inr (Or.inl rfl)))))
      | (rw [hc.2.2.2.1] at c28; rw [if_neg c28] at hq; exact hq _ ((hR.cab hk (f := 4) (x := 1) (Or.inl ⟨rfl, Or.inr rfl⟩)).cab hk (f := 6) (x := 0) (Or.inr (Or.inr (Or.inl rfl)))))
theorem off_min {i : Int32} {m : Nat} (h : rng i 20 = none) (hm : m ≤ 20) (h1 : ¬ i < 0) : nI m ≤ i := by
  unfold rng at h
  rw [Int32.lt_iff_toInt_lt, i0] at h1
  rw [Int32.le_iff_toInt_le, nI_toInt (by omega)]
  by_cases q : 0 ≤ i.toInt ∧ i.toInt < (20 : Nat)
  · rw [if_pos q] at h; exact nomatch h
  · omega
set_option maxRecDepth 100000 in
set_option maxHeartbeats 4000000 in
theorem c_fault_o1 {i w : Int32} {ρ ν μ : xM} {φ κ : Nat → Nat} {B : Nat × Nat × Nat × (Nat → Prop)} {Q : Option Value → xM → Prop} (hR : Rel ρ ν μ φ κ B) (hf : fM ν < 2 ^ 30) (hi : rng i 20 = none) (hq : ∀ μ1, Rel ρ (ν) μ1 φ κ B → Q (some (.int (-1))) μ1) : Mt kX4_fault [.ref 1, .int (i), .int (w)] μ Q := by
  have hB := hR.2.1
  have e6 : mI μ 1 6 = nI (fM ν) := by rw [hR.2.2.2.1.1.2.2.2.1, hR.fm.1]
  refine Mt.enter rfl (Nat.le_of_ble_eq_true rfl) ?_
  refine X.aload_n dX4_fault_0 rfl ?_
  refine X.getI (kf := 6) dX4_fault_1 (hB.1 1 (by decide) (by decide)) (by decide) (by decide) rfl wf_X4_36 ?_
  refine X.bipush (v := 20) dX4_fault_4 (by decide) ?_
  refine X.cS2i (k' := kJ9_min_7cf53) dX4_fault_6 v_J9_min_7cf53 wm_X4_193 wt_J9_min_7cf53 ⟨Nat.le_of_ble_eq_true rfl, Nat.le_of_ble_eq_true rfl⟩ n_J9_min_7cf53 (Nat.le_of_ble_eq_true rfl) ?_
  rw [e6]
  refine x_min (b := 20) (by omega) (by decide) ?_
  refine ⟨_, rfl, ?_⟩
  refine X.istore_n dX4_fault_9 (Nat.le_of_ble_eq_true rfl) ?_
  refine X.iload_n dX4_fault_10 rfl ?_
  refine X.if_lt (tgt := 28) dX4_fault_11 (by decide) (fun c11 => ?_) (fun c11 => ?_)
  · refine X.iconst (v := -1) dX4_fault_28 (by decide) ?_
    refine X.ret dX4_fault_29 ⟨trivial, ?_⟩
    exact hq _ hR
  · refine X.iload_n dX4_fault_14 rfl ?_
    refine X.iload_n dX4_fault_15 rfl ?_
    refine X.icmp_ge_t (tgt := 28) dX4_fault_16 (by decide) (off_min hi (Nat.min_le_right _ _) c11) ?_
    refine X.iconst (v := -1) dX4_fault_28 (by decide) ?_
    refine X.ret dX4_fault_29 ⟨trivial, ?_⟩
    exact hq _ hR
set_option maxRecDepth 100000 in
set_option maxHeartbeats 4000000 in
theorem c_fault_o2 {i : Nat} {w : Int32} {ρ ν μ : xM} {φ κ : Nat → Nat} {B : Nat × Nat × Nat × (Nat → Prop)} {Q : Option Value → xM → Prop} (hR : Rel ρ ν μ φ κ B) (hf : fM ν < 2 ^ 30) (hi : i < 20) (hn : fM ν ≤ i) (hq : ∀ μ1, Rel ρ (ν) μ1 φ κ B → Q (some (.int (-1))) μ1) : Mt kX4_fault [.ref 1, .int (nI i), .int (w)] μ Q := by
  have hB := hR.2.1
  have e6 : mI μ 1 6 = nI (fM ν) := by rw [hR.2.2.2.1.1.2.2.2.1, hR.fm.1]
  refine Mt.enter rfl (Nat.le_of_ble_eq_true rfl) ?_
  refine X.aload_n dX4_fault_0 rfl ?_
  refine X.getI (kf := 6) dX4_fault_1 (hB.1 1 (by decide) (by decide)) (by decide) (by decide) rfl wf_X4_36 ?_
  refine X.bipush (v := 20) dX4_fault_4 (by decide) ?_
  refine X.cS2i (k' := kJ9_min_7cf53) dX4_fault_6 v_J9_min_7cf53 wm_X4_193 wt_J9_min_7cf53 ⟨Nat.le_of_ble_eq_true rfl, Nat.le_of_ble_eq_true rfl⟩ n_J9_min_7cf53 (Nat.le_of_ble_eq_true rfl) ?_
  rw [e6]
  refine x_min (b := 20) (by omega) (by decide) ?_
  refine ⟨_, rfl, ?_⟩
  refine X.istore_n dX4_fault_9 (Nat.le_of_ble_eq_true rfl) ?_
  refine X.iload_n dX4_fault_10 rfl ?_
  refine X.if_lt_f (tgt := 28) dX4_fault_11 (by decide) (nI_pos (by omega)) ?_
  refine X.iload_n dX4_fault_14 rfl ?_
  refine X.iload_n dX4_fault_15 rfl ?_
  refine X.icmp_ge_t (tgt := 28) dX4_fault_16 (by decide) (nI_le (Nat.le_trans (Nat.min_le_left _ _) hn) (by omega)) ?_
  refine X.iconst (v := -1) dX4_fault_28 (by decide) ?_
  refine X.ret dX4_fault_29 ⟨trivial, ?_⟩
  exact hq _ hR
set_option maxRecDepth 100000 in
set_option maxHeartbeats 4000000 in
theorem c_fault_o3 {i : Nat} {w : Int32} {ρ ν μ : xM} {φ κ : Nat → Nat} {B : Nat × Nat × Nat × (Nat → Prop)} {Q : Option Value → xM → Prop} (hR : Rel ρ ν μ φ κ B) (hf : fM ν < 2 ^ 30) (hi : i < 20) (hn : i < fM ν) (hw : rng w 3 = none) (hq : ∀ μ1, Rel ρ (ν) μ1 φ κ B → Q (some (.int (-1))) μ1) : Mt kX4_fault [.ref 1, .int (nI i), .int (w)] μ Q := by
  have hB := hR.2.1
  have e6 : mI μ 1 6 = nI (fM ν) := by rw [hR.2.2.2.1.1.2.2.2.1, hR.fm.1]
  refine Mt.enter rfl (Nat.le_of_ble_eq_true rfl) ?_
  refine X.aload_n dX4_fault_0 rfl ?_
  refine X.getI (kf := 6) dX4_fault_1 (hB.1 1 (by decide) (by decide)) (by decide) (by decide) rfl wf_X4_36 ?_
  refine X.bipush (v := 20) dX4_fault_4 (by decide) ?_
  refine X.cS2i (k' := kJ9_min_7cf53) dX4_fault_6 v_J9_min_7cf53 wm_X4_193 wt_J9_min_7cf53 ⟨Nat.le_of_ble_eq_true rfl, Nat.le_of_ble_eq_true rfl⟩ n_J9_min_7cf53 (Nat.le_of_ble_eq_true rfl) ?_
  rw [e6]
  refine x_min (b := 20) (by omega) (by decide) ?_
  refine ⟨_, rfl, ?_⟩
  refine X.istore_n dX4_fault_9 (Nat.le_of_ble_eq_true rfl) ?_
  refine X.iload_n dX4_fault_10 rfl ?_
  refine X.if_lt_f (tgt := 28) dX4_fault_11 (by decide) (nI_pos (by omega)) ?_
  refine X.iload_n dX4_fault_14 rfl ?_
  refine X.iload_n dX4_fault_15 rfl ?_
  refine X.icmp_ge_f (tgt := 28) dX4_fault_16 (by decide) (nI_ge (by omega) (by omega)) ?_
  refine X.iload_n dX4_fault_19 rfl ?_
  refine X.if_lt (tgt := 28) dX4_fault_20 (by decide) (fun c20 => ?_) (fun c20 => ?_)
  · refine X.iconst (v := -1) dX4_fault_28 (by decide) ?_
    refine X.ret dX4_fault_29 ⟨trivial, ?_⟩
    exact hq _ hR
  · refine X.iload_n dX4_fault_23 rfl ?_
    refine X.iconst (v := 3) dX4_fault_24 (by decide) ?_
    refine X.icmp_lt_f (tgt := 30) dX4_fault_25 (by decide) (rng_off hw (by decide) c20) ?_
    refine X.iconst (v := -1) dX4_fault_28 (by decide) ?_
    refine X.ret dX4_fault_29 ⟨trivial, ?_⟩
    exact hq _ hR
set_option maxRecDepth 100000 in
set_option maxHeartbeats 4000000 in
theorem c_fault_0 {i : Nat} {ρ ν μ : xM} {φ κ : Nat → Nat} {B : Nat × Nat × Nat × (Nat → Prop)} {Q : Option Value → xM → Prop} (hR : Rel ρ ν μ φ κ B) (hf : fM ν < 2 ^ 30) (hi : i < 20) (hn : i < fM ν) (hq : ∀ μ1, Rel ρ (ν) μ1 φ κ B → Q (some (.int (mI ν 62 ((fM ν - 1 - i) % 20)))) μ1) : Mt kX4_fault [.ref 1, .int (nI i), .int (0)] μ Q := by
  have hB := hR.2.1
  have e6 : mI μ 1 6 = nI (fM ν) := by rw [hR.2.2.2.1.1.2.2.2.1, hR.fm.1]
  have hk : (fM ν - 1 - i) % 20 < 20 := Nat.mod_lt _ (by decide)
  have e7 : fmodM (mI μ 1 6 - 1 - nI i) 20 = nI ((fM ν - 1 - i) % 20) := by
    rw [e6, show nI (fM ν) - 1 = nI (fM ν - 1) from pk_sub (a := fM ν) (b := 1) (by omega), pk_sub (by omega)]
    exact fmod_nI (n := 20) (by omega) (by decide) (by decide)
  refine Mt.enter rfl (Nat.le_of_ble_eq_true rfl) ?_
  refine X.aload_n dX4_fault_0 rfl ?_
  refine X.getI (kf := 6) dX4_fault_1 (hB.1 1 (by decide) (by decide)) (by decide) (by decide) rfl wf_X4_36 ?_
  refine X.bipush (v := 20) dX4_fault_4 (by decide) ?_
  refine X.cS2i (k' := kJ9_min_7cf53) dX4_fault_6 v_J9_min_7cf53 wm_X4_193 wt_J9_min_7cf53 ⟨Nat.le_of_ble_eq_true rfl, Nat.le_of_ble_eq_true rfl⟩ n_J9_min_7cf53 (Nat.le_of_ble_eq_true rfl) ?_
  rw [e6]
  refine x_min (b := 20) (by omega) (by decide) ?_
  refine ⟨_, rfl, ?_⟩
  refine X.istore_n dX4_fault_9 (Nat.le_of_ble_eq_true rfl) ?_
  refine X.iload_n dX4_fault_10 rfl ?_
  refine X.if_lt_f (tgt := 28) dX4_fault_11 (by decide) (nI_pos (by omega)) ?_
  refine X.iload_n dX4_fault_14 rfl ?_
  refine X.iload_n dX4_fault_15 rfl ?_
  refine X.icmp_ge_f (tgt := 28) dX4_fault_16 (by decide) (nI_ge (by omega) (by omega)) ?_
  refine X.iload_n dX4_fault_19 rfl ?_
  refine X.if_lt_f (tgt := 28) dX4_fault_20 (by decide) ((by decide)) ?_
  refine X.iload_n dX4_fault_23 rfl ?_
  refine X.iconst (v := 3) dX4_fault_24 (by decide) ?_
  refine X.icmp_lt_t (tgt := 30) dX4_fault_25 (by decide) ((by decide)) ?_
  refine X.aload_n dX4_fault_30 rfl ?_
  refine X.getR (b := 4) (kf := 5) dX4_fault_31 (hB.1 1 (by decide) (by decide)) (by decide) (by decide) rfl wf_X4_33 (hB.2.1 5 (by decide)) ?_
  refine X.aload_n dX4_fault_34 rfl ?_
  refine X.getI (kf := 6) dX4_fault_35 (hB.1 1 (by decide) (by decide)) (by decide) (by decide) rfl wf_X4_36 ?_
  refine X.iconst (v := 1) dX4_fault_38 (by decide) ?_
  refine X.isub dX4_fault_39 ?_
  refine X.iload_n dX4_fault_40 rfl ?_
  refine X.isub dX4_fault_41 ?_
  refine X.bipush (v := 20) dX4_fault_42 (by decide) ?_
  refine X.cS2i (k' := kJ9_floorMod_7cf53) dX4_fault_44 v_J9_floorMod_7cf53 wm_X4_218 wt_J9_floorMod_7cf53 ⟨Nat.le_of_ble_eq_true rfl, Nat.le_of_ble_eq_true rfl⟩ n_J9_floorMod_7cf53 (Nat.le_of_ble_eq_true rfl) ?_
  refine x_floorMod (by decide) ?_
  refine ⟨_, rfl, ?_⟩
  refine X.aald dX4_fault_47 (hB.1 4 (by decide) (by decide)) (by decide) (e7) (hk) (by omega) ((hB.2.2.2.1 _ hk).2) ?_
  refine X.iload_n dX4_fault_48 rfl ?_
  refine X.iald dX4_fault_49 ((hB.2.2.2.1 _ hk).1) ((rfl : (0 : Int32) = nI 0)) (by decide) (by omega) ?_
  refine X.ret dX4_fault_50 ⟨trivial, ?_⟩
  rw [(hR.2.2.2.1.2.2 _ hk).1]
  exact hq _ hR
set_option maxRecDepth 100000 in
set_option maxHeartbeats 4000000 in
theorem c_fault_1 {i : Nat} {ρ ν μ : xM} {φ κ : Nat → Nat} {B : Nat × Nat × Nat × (Nat → Prop)} {Q : Option Value → xM → Prop} (hR : Rel ρ ν μ φ κ B) (hf : fM ν < 2 ^ 30) (hi : i < 20) (hn : i < fM ν) (hq : ∀ μ1, Rel ρ (ν) μ1 φ κ B → Q (some (.int (mI ν 63 ((fM ν - 1 - i) % 20)))) μ1) : Mt kX4_fault [.ref 1, .int (nI i), .int (1)] μ Q := by
  have hB := hR.2.1
  have e6 : mI μ 1 6 = nI (fM ν) := by rw [hR.2.2.2.1.1.2.2.2.1, hR.fm.1]
  have hk : (fM ν - 1 - i) % 20 < 20 := Nat.mod_lt _ (by decide)
  have e7 : fmodM (mI μ 1 6 - 1 - nI i) 20 = nI ((fM ν - 1 - i) % 20) := by
    rw [e6, show nI (fM ν) - 1 = nI (fM ν - 1) from pk_sub (a := fM ν) (b := 1) (by omega), pk_sub (by omega)]
    exact fmod_nI (n := 20) (by omega) (by decide) (by decide)
  refine Mt.enter rfl (Nat.le_of_ble_eq_true rfl) ?_
  refine X.aload_n dX4_fault_0 rfl ?_
  refine X.getI (kf := 6) dX4_fault_1 (hB.1 1 (by decide) (by decide)) (by decide) (by decide) rfl wf_X4_36 ?_
  refine X.bipush (v := 20) dX4_fault_4 (by decide) ?_
  refine X.cS2i (k' := kJ9_min_7cf53) dX4_fault_6 v_J9_min_7cf53 wm_X4_193 wt_J9_min_7cf53 ⟨Nat.le_of_ble_eq_true rfl, Nat.le_of_ble_eq_true rfl⟩ n_J9_min_7cf53 (Nat.le_of_ble_eq_true rfl) ?_
  rw [e6]
  refine x_min (b := 20) (by omega) (by decide) ?_
  refine ⟨_, rfl, ?_⟩
  refine X.istore_n dX4_fault_9 (Nat.le_of_ble_eq_true rfl) ?_
  refine X.iload_n dX4_fault_10 rfl ?_
  refine X.if_lt_f (tgt := 28) dX4_fault_11 (by decide) (nI_pos (by omega)) ?_
  refine X.iload_n dX4_fault_14 rfl ?_
  refine X.iload_n dX4_fault_15 rfl ?_
  refine X.icmp_ge_f (tgt := 28) dX4_fault_16 (by decide) (nI_ge (by omega) (by omega)) ?_
  refine X.iload_n dX4_fault_19 rfl ?_
  refine X.if_lt_f (tgt := 28) dX4_fault_20 (by decide) ((by decide)) ?_
  refine X.iload_n dX4_fault_23 rfl ?_
  refine X.iconst (v := 3) dX4_fault_24 (by decide) ?_
  refine X.icmp_lt_t (tgt := 30) dX4_fault_25 (by decide) ((by decide)) ?_
  refine X.aload_n dX4_fault_30 rfl ?_
  refine X.getR (b := 4) (kf := 5) dX4_fault_31 (hB.1 1 (by decide) (by decide)) (by decide) (by decide) rfl wf_X4_33 (hB.2.1 5 (by decide)) ?_
  refine X.aload_n dX4_fault_34 rfl ?_
  refine X.getI (kf := 6) dX4_fault_35 (hB.1 1 (by decide) (by decide)) (by decide) (by decide) rfl wf_X4_36 ?_
  refine X.iconst (v := 1) dX4_fault_38 (by decide) ?_
  refine X.isub dX4_fault_39 ?_
  refine X.iload_n dX4_fault_40 rfl ?_
  refine X.isub dX4_fault_41 ?_
  refine X.bipush (v := 20) dX4_fault_42 (by decide) ?_
  refine X.cS2i (k' := kJ9_floorMod_7cf53) dX4_fault_44 v_J9_floorMod_7cf53 wm_X4_218 wt_J9_floorMod_7cf53 ⟨Nat.le_of_ble_eq_true rfl, Nat.le_of_ble_eq_true rfl⟩ n_J9_floorMod_7cf53 (Nat.le_of_ble_eq_true rfl) ?_
  refine x_floorMod (by decide) ?_
  refine ⟨_, rfl, ?_⟩
  refine X.aald dX4_fault_47 (hB.1 4 (by decide) (by decide)) (by decide) (e7) (hk) (by omega) ((hB.2.2.2.1 _ hk).2) ?_
  refine X.iload_n dX4_fault_48 rfl ?_
  refine X.iald dX4_fault_49 ((hB.2.2.2.1 _ hk).1) ((rfl : (1 : Int32) = nI 1)) (by decide) (by omega) ?_
  refine X.ret dX4_fault_50 ⟨trivial, ?_⟩
  rw [(hR.2.2.2.1.2.2 _ hk).2.1]
  exact hq _ hR
set_option maxRecDepth 100000 in
set_option maxHeartbeats 4000000 in
theorem c_fault_2 {i : Nat} {ρ ν μ : xM} {φ κ : Nat → Nat} {B : Nat × Nat × Nat × (Nat → Prop)} {Q : Option Value → xM → Prop} (hR : Rel ρ ν μ φ κ B) (hf : fM ν < 2 ^ 30) (hi : i < 20) (hn : i < fM ν) (hq : ∀ μ1, Rel ρ (ν) μ1 φ κ B → Q (some (.int (mI ν 64 ((fM ν - 1 - i) % 20)))) μ1) : Mt kX4_fault [.ref 1, .int (nI i), .int (2)] μ Q := by
  have hB := hR.2.1
  have e6 : mI μ 1 6 = nI (fM ν) := by rw [hR.2.2.2.1.1.2.2.2.1, hR.fm.1]
  have hk : (fM ν - 1 - i) % 20 < 20 := Nat.mod_lt _ (by decide)
  have e7 : fmodM (mI μ 1 6 - 1 - nI i) 20 = nI ((fM ν - 1 - i) % 20) := by
    rw [e6, show nI (fM ν) - 1 = nI (fM ν - 1) from pk_sub (a := fM ν) (b := 1) (by omega), pk_sub (by omega)]
    exact fmod_nI (n := 20) (by omega) (by decide) (by decide)
  refine Mt.enter rfl (Nat.le_of_ble_eq_true rfl) ?_
  refine X.aload_n dX4_fault_0 rfl ?_
  refine X.getI (kf := 6) dX4_fault_1 (hB.1 1 (by decide) (by decide)) (by decide) (by decide) rfl wf_X4_36 ?_
  refine X.bipush (v := 20) dX4_fault_4 (by decide) ?_
  refine X.cS2i (k' := kJ9_min_7cf53) dX4_fault_6 v_J9_min_7cf53 wm_X4_193 wt_J9_min_7cf53 ⟨Nat.le_of_ble_eq_true rfl, Nat.le_of_ble_eq_true rfl⟩ n_J9_min_7cf53 (Nat.le_of_ble_eq_true rfl) ?_
  rw [e6]
  refine x_min (b := 20) (by omega) (by decide) ?_
  refine ⟨_, rfl, ?_⟩
  refine X.istore_n dX4_fault_9 (Nat.le_of_ble_eq_true rfl) ?_
  refine X.iload_n dX4_fault_10 rfl ?_
  refine X.if_lt_f (tgt := 28) dX4_fault_11 (by decide) (nI_pos (by omega)) ?_
  refine X.iload_n dX4_fault_14 rfl ?_
  refine X.iload_n dX4_fault_15 rfl ?_
  refine X.icmp_ge_f (tgt := 28) dX4_fault_16 (by decide) (nI_ge (by omega) (by omega)) ?_
  refine X.iload_n dX4_fault_19 rfl ?_
  refine X.if_lt_f (tgt := 28) dX4_fault_20 (by decide) ((by decide)) ?_
  refine X.iload_n dX4_fault_23 rfl ?_
  refine X.iconst (v := 3) dX4_fault_24 (by decide) ?_
  refine X.icmp_lt_t (tgt := 30) dX4_fault_25 (by decide) ((by decide)) ?_
  refine X.aload_n dX4_fault_30 rfl ?_
  refine X.getR (b := 4) (kf := 5) dX4_fault_31 (hB.1 1 (by decide) (by decide)) (by decide) (by decide) rfl wf_X4_33 (hB.2.1 5 (by decide)) ?_
  refine X.aload_n dX4_fault_34 rfl ?_
  refine X.getI (kf := 6) dX4_fault_35 (hB.1 1 (by decide) (by decide)) (by decide) (by decide) rfl wf_X4_36 ?_
  refine X.iconst (v := 1) dX4_fault_38 (by decide) ?_
  refine X.isub dX4_fault_39 ?_
  refine X.iload_n dX4_fault_40 rfl ?_
  refine X.isub dX4_fault_41 ?_
  refine X.bipush (v := 20) dX4_fault_42 (by decide) ?_
  refine X.cS2i (k' := kJ9_floorMod_7cf53) dX4_fault_44 v_J9_floorMod_7cf53 wm_X4_218 wt_J9_floorMod_7cf53 ⟨Nat.le_of_ble_eq_true rfl, Nat.le_of_ble_eq_true rfl⟩ n_J9_floorMod_7cf53 (Nat.le_of_ble_eq_true rfl) ?_
  refine x_floorMod (by decide) ?_
  refine ⟨_, rfl, ?_⟩
  refine X.aald dX4_fault_47 (hB.1 4 (by decide) (by decide)) (by decide) (e7) (hk) (by omega) ((hB.2.2.2.1 _ hk).2) ?_
  refine X.iload_n dX4_fault_48 rfl ?_
  refine X.iald dX4_fault_49 ((hB.2.2.2.1 _ hk).1) ((rfl : (2 : Int32) = nI 2)) (by decide) (by omega) ?_
  refine X.ret dX4_fault_50 ⟨trivial, ?_⟩
  rw [(hR.2.2.2.1.2.2 _ hk).2.2]
  exact hq _ hR
set_option maxRecDepth 100000 in
set_option maxHeartbeats 4000000 in
theorem x_timesMet_o {x : Int32} {μ : xM} {Q : Option Value → xM → Prop} (hB : ShP μ) (hx : ¬ (0 < x ∧ x < 6)) (hq : Q (some (.int (-1))) μ) : Mt kX4_timesMet [.ref 1, .int x] μ Q := by
  refine Mt.enter rfl (Nat.le_of_ble_eq_true rfl) ?_
  refine X.iload_n dX4_timesMet_0 rfl ?_
  refine X.if_le (tgt := 22) dX4_timesMet_1 (by decide) (fun c1 => ?_) (fun c1 => ?_)
  · refine X.iconst (v := -1) dX4_timesMet_22 (by decide) ?_
    refine X.ret dX4_timesMet_23 ⟨trivial, ?_⟩
    exact hq
  · refine X.iload_n dX4_timesMet_4 rfl ?_
    refine X.aload_n dX4_timesMet_5 rfl ?_
    refine X.getR (b := 25) (kf := 7) dX4_timesMet_6 (hB.1 1 (by decide) (by decide)) (by decide) (by decide) rfl wf_X4_39 (hB.2.1 7 (by decide)) ?_
    refine X.alen dX4_timesMet_9 (hB.1 25 (by decide) (by decide)) rfl ?_
    refine X.icmp_ge (tgt := 22) dX4_timesMet_10 (by decide) (fun c10 => ?_) (fun c10 => ?_)
    · refine X.iconst (v := -1) dX4_timesMet_22 (by decide) ?_
      refine X.ret dX4_timesMet_23 ⟨trivial, ?_⟩
      exact hq
    · exact absurd ⟨Int32.not_le.mp c1, Int32.not_le.mp c10⟩ hx
set_option maxRecDepth 100000 in
set_option maxHeartbeats 4000000 in
theorem x_timesMet {r : Nat} {μ : xM} {Q : Option Value → xM → Prop} (hB : ShP μ) (h1 : 1 ≤ r) (h6 : r < 6) (hq : Q (some (.int (mI μ 25 r))) μ) : Mt kX4_timesMet [.ref 1, .int (nI r)] μ Q := by
  refine Mt.enter rfl (Nat.le_of_ble_eq_true rfl) ?_
  refine X.iload_n dX4_timesMet_0 rfl ?_
  refine X.if_le_f (tgt := 22) dX4_timesMet_1 (by decide) (nI_nle h1 (by omega)) ?_
  refine X.iload_n dX4_timesMet_4 rfl ?_
  refine X.aload_n dX4_timesMet_5 rfl ?_
  refine X.getR (b := 25) (kf := 7) dX4_timesMet_6 (hB.1 1 (by decide) (by decide)) (by decide) (by decide) rfl wf_X4_39 (hB.2.1 7 (by decide)) ?_
  refine X.alen dX4_timesMet_9 (hB.1 25 (by decide) (by decide)) rfl ?_
  refine X.icmp_ge_f (tgt := 22) dX4_timesMet_10 (by decide) (nI_ge (a := r) (b := 6) h6 (by decide)) ?_
  refine X.aload_n dX4_timesMet_13 rfl ?_
  refine X.getR (b := 25) (kf := 7) dX4_timesMet_14 (hB.1 1 (by decide) (by decide)) (by decide) (by decide) rfl wf_X4_39 (hB.2.1 7 (by decide)) ?_
  refine X.iload_n dX4_timesMet_17 rfl ?_
  refine X.iald dX4_timesMet_18 (hB.1 25 (by decide) (by decide)) (rfl) (h6) (by omega) ?_
  refine X.goto (tgt := 23) dX4_timesMet_19 (by decide) ?_
  refine X.ret dX4_timesMet_23 ⟨trivial, ?_⟩
  exact hq
set_option maxRecDepth 100000 in
set_option maxHeartbeats 4000000 in
theorem c_count_0  {ρ ν μ : xM} {φ κ : Nat → Nat} {B : Nat × Nat × Nat × (Nat → Prop)} {Q : Option Value → xM → Prop} (hR : Rel ρ ν μ φ κ B)  (hq : ∀ μ1, Rel ρ (ν) μ1 φ κ B → Q (some (.int (mI ν 44 10))) μ1) : Mt kX4_count [.ref 1, .int (0)] μ Q := by
  have hB := hR.2.1
  refine Mt.enter rfl (Nat.le_of_ble_eq_true rfl) ?_
  refine X.iload_n dX4_count_0 rfl ?_
  refine X.tabIn (tgt := 28) dX4_count_1 (by decide) (by decide) (rfl) (by decide) ?_
  refine X.aload_n dX4_count_28 rfl ?_
  refine X.getI (kf := 2) dX4_count_29 (hB.1 1 (by decide) (by decide)) (by decide) (by decide) rfl wf_X4_21 ?_
  refine X.ret dX4_count_32 ⟨trivial, ?_⟩
  rw [hR.2.2.2.1.1.1]
  exact hq _ hR
set_option maxRecDepth 100000 in
set_option maxHeartbeats 4000000 in
theorem c_count_1  {ρ ν μ : xM} {φ κ : Nat → Nat} {B : Nat × Nat × Nat × (Nat → Prop)} {Q : Option Value → xM → Prop} (hR : Rel ρ ν μ φ κ B)  (hq : ∀ μ1, Rel ρ (ν) μ1 φ κ B → Q (some (.int (mI ν 44 19))) μ1) : Mt kX4_count [.ref 1, .int (1)] μ Q := by
  have hB := hR.2.1
  refine Mt.enter rfl (Nat.le_of_ble_eq_true rfl) ?_
  refine X.iload_n dX4_count_0 rfl ?_
  refine X.tabIn (tgt := 33) dX4_count_1 (by decide) (by decide) (rfl) (by decide) ?_
  refine X.aload_n dX4_count_33 rfl ?_
  refine X.getI (kf := 4) dX4_count_34 (hB.1 1 (by decide) (by decide)) (by decide) (by decide) rfl wf_X4_28 ?_
  refine X.ret dX4_count_37 ⟨trivial, ?_⟩
  rw [hR.2.2.2.1.1.2.2.1]
  exact hq _ hR
set_option maxRecDepth 100000 in
set_option maxHeartbeats 4000000 in
theorem c_count_2  {ρ ν μ : xM} {φ κ : Nat → Nat} {B : Nat × Nat × Nat × (Nat → Prop)} {Q : Option Value → xM → Prop} (hR : Rel ρ ν μ φ κ B)  (hq : ∀ μ1, Rel ρ (ν) μ1 φ κ B → Q (some (.int (mI ν 44 20))) μ1) : Mt kX4_count [.ref 1, .int (2)] μ Q := by
  have hB := hR.2.1
  refine Mt.enter rfl (Nat.le_of_ble_eq_true rfl) ?_
  refine X.iload_n dX4_count_0 rfl ?_
  refine X.tabIn (tgt := 38) dX4_count_1 (by decide) (by decide) (rfl) (by decide) ?_
  refine X.aload_n dX4_count_38 rfl ?_
  refine X.getI (kf := 6) dX4_count_39 (hB.1 1 (by decide) (by decide)) (by decide) (by decide) rfl wf_X4_36 ?_
  refine X.ret dX4_count_42 ⟨trivial, ?_⟩
  rw [hR.2.2.2.1.1.2.2.2.1]
  exact hq _ hR
set_option maxRecDepth 100000 in
set_option maxHeartbeats 4000000 in
theorem c_count_3  {ρ ν μ : xM} {φ κ : Nat → Nat} {B : Nat × Nat × Nat × (Nat → Prop)} {Q : Option Value → xM → Prop} (hR : Rel ρ ν μ φ κ B)  (hq : ∀ μ1, Rel ρ (ν) μ1 φ κ B → Q (some (.int (mI ν 65 1))) μ1) : Mt kX4_count [.ref 1, .int (3)] μ Q := by
  have hB := hR.2.1
  refine Mt.enter rfl (Nat.le_of_ble_eq_true rfl) ?_
  refine X.iload_n dX4_count_0 rfl ?_
  refine X.tabOut (tgt := 43) dX4_count_1 (Or.inr (by decide)) (by decide) ?_
  refine X.aload_n dX4_count_43 rfl ?_
  refine X.iload_n dX4_count_44 rfl ?_
  refine X.iconst (v := 2) dX4_count_45 (by decide) ?_
  refine X.isub dX4_count_46 ?_
  refine X.cV1i (k' := kX4_timesMet) dX4_count_47 (hB.1 1 (by decide) (by decide)) ⟨by decide, rfl⟩ v_X4_timesMet wm_X4_221 wi_X4_timesMet ws_X4_timesMet ⟨Nat.le_of_ble_eq_true rfl, Nat.le_of_ble_eq_true rfl⟩ n_X4_timesMet (Nat.le_of_ble_eq_true rfl) ?_
  refine x_timesMet (r := 1) hB (by decide) (by decide) ?_
  refine ⟨_, rfl, ?_⟩
  refine X.ret dX4_count_50 ⟨trivial, ?_⟩
  rw [hR.2.2.2.1.2.1 1 (by decide) (by decide)]
  exact hq _ hR
set_option maxRecDepth 100000 in
set_option maxHeartbeats 4000000 in
theorem c_count_4  {ρ ν μ : xM} {φ κ : Nat → Nat} {B : Nat × Nat × Nat × (Nat → Prop)} {Q : Option Value → xM → Prop} (hR : Rel ρ ν μ φ κ B)  (hq : ∀ μ1, Rel ρ (ν) μ1 φ κ B → Q (some (.int (mI ν 65 2))) μ1) : Mt kX4_count [.ref 1, .int (4)] μ Q := by
  have hB := hR.2.1
  refine Mt.enter rfl (Nat.le_of_ble_eq_true rfl) ?_
  refine X.iload_n dX4_count_0 rfl ?_
  refine X.tabOut (tgt := 43) dX4_count_1 (Or.inr (by decide)) (by decide) ?_
  refine X.aload_n dX4_count_43 rfl ?_
  refine X.iload_n dX4_count_44 rfl ?_
  refine X.iconst (v := 2) dX4_count_45 (by decide) ?_
  refine X.isub dX4_count_46 ?_
  refine X.cV1i (k' := kX4_timesMet) dX4_count_47 (hB.1 1 (by decide) (by decide)) ⟨by decide, rfl⟩ v_X4_timesMet wm_X4_221 wi_X4_timesMet ws_X4_timesMet ⟨Nat.le_of_ble_eq_true rfl, Nat.le_of_ble_eq_true rfl⟩ n_X4_timesMet (Nat.le_of_ble_eq_true rfl) ?_
  refine x_timesMet (r := 2) hB (by decide) (by decide) ?_
  refine ⟨_, rfl, ?_⟩
  refine X.ret dX4_count_50 ⟨trivial, ?_⟩
  rw [hR.2.2.2.1.2.1 2 (by decide) (by decide)]
  exact hq _ hR
set_option maxRecDepth 100000 in
set_option maxHeartbeats 4000000 in
theorem c_count_5  {ρ ν μ : xM} {φ κ : Nat → Nat} {B : Nat × Nat × Nat × (Nat → Prop)} {Q : Option Value → xM → Prop} (hR : Rel ρ ν μ φ κ B)  (hq : ∀ μ1, Rel ρ (ν) μ1 φ κ B → Q (some (.int (mI ν 65 3))) μ1) : Mt kX4_count [.ref 1, .int (5)] μ Q := by
  have hB := hR.2.1
  refine Mt.enter rfl (Nat.le_of_ble_eq_true rfl) ?_
  refine X.iload_n dX4_count_0 rfl ?_
  refine X.tabOut (tgt := 43) dX4_count_1 (Or.inr (by decide)) (by decide) ?_
  refine X.aload_n dX4_count_43 rfl ?_
  refine X.iload_n dX4_count_44 rfl ?_
  refine X.iconst (v := 2) dX4_count_45 (by decide) ?_
  refine X.isub dX4_count_46 ?_
  refine X.cV1i (k' := kX4_timesMet) dX4_count_47 (hB.1 1 (by decide) (by decide)) ⟨by decide, rfl⟩ v_X4_timesMet wm_X4_221 wi_X4_timesMet ws_X4_timesMet ⟨Nat.le_of_ble_eq_true rfl, Nat.le_of_ble_eq_true rfl⟩ n_X4_timesMet (Nat.le_of_ble_eq_true rfl) ?_
  refine x_timesMet (r := 3) hB (by decide) (by decide) ?_
  refine ⟨_, rfl, ?_⟩
  refine X.ret dX4_count_50 ⟨trivial, ?_⟩
  rw [hR.2.2.2.1.2.1 3 (by decide) (by decide)]
  exact hq _ hR
set_option maxRecDepth 100000 in
set_option maxHeartbeats 4000000 in
theorem c_count_6  {ρ ν μ : xM} {φ κ : Nat → Nat} {B : Nat × Nat × Nat × (Nat → Prop)} {Q : Option Value → xM → Prop} (hR : Rel ρ ν μ φ κ B)  (hq : ∀ μ1, Rel ρ (ν) μ1 φ κ B → Q (some (.int (mI ν 65 4))) μ1) : Mt kX4_count [.ref 1, .int (6)] μ Q := by
  have hB := hR.2.1
  refine Mt.enter rfl (Nat.le_of_ble_eq_true rfl) ?_
  refine X.iload_n dX4_count_0 rfl ?_
  refine X.tabOut (tgt := 43) dX4_count_1 (Or.inr (by decide)) (by decide) ?_
  refine X.aload_n dX4_count_43 rfl ?_
  refine X.iload_n dX4_count_44 rfl ?_
  refine X.iconst (v := 2) dX4_count_45 (by decide) ?_
  refine X.isub dX4_count_46 ?_
  refine X.cV1i (k' := kX4_timesMet) dX4_count_47 (hB.1 1 (by decide) (by decide)) ⟨by decide, rfl⟩ v_X4_timesMet wm_X4_221 wi_X4_timesMet ws_X4_timesMet ⟨Nat.le_of_ble_eq_true rfl, Nat.le_of_ble_eq_true rfl⟩ n_X4_timesMet (Nat.le_of_ble_eq_true rfl) ?_
  refine x_timesMet (r := 4) hB (by decide) (by decide) ?_
  refine ⟨_, rfl, ?_⟩
  refine X.ret dX4_count_50 ⟨trivial, ?_⟩
  rw [hR.2.2.2.1.2.1 4 (by decide) (by decide)]
  exact hq _ hR
set_option maxRecDepth 100000 in
set_option maxHeartbeats 4000000 in
theorem c_count_7  {ρ ν μ : xM} {φ κ : Nat → Nat} {B : Nat × Nat × Nat × (Nat → Prop)} {Q : Option Value → xM → Prop} (hR : Rel ρ ν μ φ κ B)  (hq : ∀ μ1, Rel ρ (ν) μ1 φ κ B → Q (some (.int (mI ν 65 5))) μ1) : Mt kX4_count [.ref 1, .int (7)] μ Q := by
  have hB := hR.2.1
  refine Mt.enter rfl (Nat.le_of_ble_eq_true rfl) ?_
  refine X.iload_n dX4_count_0 rfl ?_
  refine X.tabOut (tgt := 43) dX4_count_1 (Or.inr (by decide)) (by decide) ?_
  refine X.aload_n dX4_count_43 rfl ?_
  refine X.iload_n dX4_count_44 rfl ?_
  refine X.iconst (v := 2) dX4_count_45 (by decide) ?_
  refine X.isub dX4_count_46 ?_
  refine X.cV1i (k' := kX4_timesMet) dX4_count_47 (hB.1 1 (by decide) (by decide)) ⟨by decide, rfl⟩ v_X4_timesMet wm_X4_221 wi_X4_timesMet ws_X4_timesMet ⟨Nat.le_of_ble_eq_true rfl, Nat.le_of_ble_eq_true rfl⟩ n_X4_timesMet (Nat.le_of_ble_eq_true rfl) ?_
  refine x_timesMet (r := 5) hB (by decide) (by decide) ?_
  refine ⟨_, rfl, ?_⟩
  refine X.ret dX4_count_50 ⟨trivial, ?_⟩
  rw [hR.2.2.2.1.2.1 5 (by decide) (by decide)]
  exact hq _ hR
set_option maxRecDepth 100000 in
set_option maxHeartbeats 4000000 in
theorem c_count_o {w : Int32} {ρ ν μ : xM} {φ κ : Nat → Nat} {B : Nat × Nat × Nat × (Nat → Prop)} {Q : Option Value → xM → Prop} (hR : Rel ρ ν μ φ κ B) (hw : rng w 8 = none) (hq : ∀ μ1, Rel ρ (ν) μ1 φ κ B → Q (some (.int (-1))) μ1) : Mt kX4_count [.ref 1, .int (w)] μ Q := by
  have hB := hR.2.1
  refine Mt.enter rfl (Nat.le_of_ble_eq_true rfl) ?_
  refine X.iload_n dX4_count_0 rfl ?_
  refine X.tabOut (tgt := 43) dX4_count_1 (by have := rng_none hw; omega) (by decide) ?_
  refine X.aload_n dX4_count_43 rfl ?_
  refine X.iload_n dX4_count_44 rfl ?_
  refine X.iconst (v := 2) dX4_count_45 (by decide) ?_
  refine X.isub dX4_count_46 ?_
  refine X.cV1i (k' := kX4_timesMet) dX4_count_47 (hB.1 1 (by decide) (by decide)) ⟨by decide, rfl⟩ v_X4_timesMet wm_X4_221 wi_X4_timesMet ws_X4_timesMet ⟨Nat.le_of_ble_eq_true rfl, Nat.le_of_ble_eq_true rfl⟩ n_X4_timesMet (Nat.le_of_ble_eq_true rfl) ?_
  refine x_timesMet_o hB ?_ ?_
  · intro q
    have hn := rng_none hw
    rw [Int32.lt_iff_toInt_lt, Int32.lt_iff_toInt_lt, i0, show (6 : Int32).toInt = 6 by decide, Int32.toInt_sub, show (2 : Int32).toInt = 2 by decide] at q
    have l1 := Int32.le_toInt w
    have l2 := Int32.toInt_lt w
    rw [Int.bmod_def] at q
    split at q <;> omega
  refine ⟨_, rfl, ?_⟩
  refine X.ret dX4_count_50 ⟨trivial, ?_⟩
  exact hq _ hR
set_option maxRecDepth 100000 in
set_option maxHeartbeats 4000000 in
theorem c_sum_o {c : Int32} {ρ ν μ : xM} {φ κ : Nat → Nat} {B : Nat × Nat × Nat × (Nat → Prop)} {Q : Option Value → xM → Prop} (hR : Rel ρ ν μ φ κ B) (hc : rng c 16 = none) (hq : ∀ μ1, Rel ρ (ν) μ1 φ κ B → Q (some (.long (0))) μ1) : Mt kX4_sum [.ref 1, .int (c)] μ Q := by
  have hB := hR.2.1
  refine Mt.enter rfl (Nat.le_of_ble_eq_true rfl) ?_
  refine X.aload_n dX4_sum_0 rfl ?_
  refine X.iload_n dX4_sum_1 rfl ?_
  refine X.cV1n (k' := kX4_channelAt) dX4_sum_2 (hB.1 1 (by decide) (by decide)) ⟨by decide, rfl⟩ v_X4_channelAt wm_X4_59 wi_X4_channelAt ws_X4_channelAt ⟨Nat.le_of_ble_eq_true rfl, Nat.le_of_ble_eq_true rfl⟩ n_X4_channelAt (Nat.le_of_ble_eq_true rfl) ?_
  refine x_channelAt_o hB hc ?_
  refine ⟨rfl, ?_⟩
  refine X.astore_nN dX4_sum_5 (Nat.le_of_ble_eq_true rfl) ?_
  refine X.aload_nN dX4_sum_6 rfl ?_
  refine X.ifnonnull_n dX4_sum_7 ?_
  refine X.lconst (v := 0) dX4_sum_10 (by decide) ?_
  refine X.ret dX4_sum_11 ⟨trivial, ?_⟩
  exact hq _ hR
set_option maxRecDepth 100000 in
set_option maxHeartbeats 4000000 in
theorem c_sum_r {a : Nat} {ρ ν μ : xM} {φ κ : Nat → Nat} {B : Nat × Nat × Nat × (Nat → Prop)} {Q : Option Value → xM → Prop} (hR : Rel ρ ν μ φ κ B) (ha : a < 16) (h0 : ¬ noTapeM ν a = 0) (hq : ∀ μ1, Rel ρ (metM ν (noTapeM ν a)) μ1 φ κ B → Q (some (.long (0))) μ1) : Mt kX4_sum [.ref 1, .int (nI a)] μ Q := by
  have hB := hR.2.1
  refine Mt.enter rfl (Nat.le_of_ble_eq_true rfl) ?_
  refine X.aload_n dX4_sum_0 rfl ?_
  refine X.iload_n dX4_sum_1 rfl ?_
  refine X.cV1a (k' := kX4_channelAt) dX4_sum_2 (hB.1 1 (by decide) (by decide)) ⟨by decide, rfl⟩ v_X4_channelAt wm_X4_59 wi_X4_channelAt ws_X4_channelAt ⟨Nat.le_of_ble_eq_true rfl, Nat.le_of_ble_eq_true rfl⟩ n_X4_channelAt (Nat.le_of_ble_eq_true rfl) ?_
  refine x_channelAt hB ha ?_
  refine ⟨_, rfl, ?_⟩
  refine X.astore_n dX4_sum_5 (Nat.le_of_ble_eq_true rfl) ?_
  refine X.aload_n dX4_sum_6 rfl ?_
  refine X.ifnonnull_r (tgt := 12) dX4_sum_7 (by decide) ?_
  refine X.aload_n dX4_sum_12 rfl ?_
  refine X.getN (kf := 1) dX4_sum_13 ((hB.2.2.1 a ha).1) (by decide) (by decide) rfl wf_X4_84 (hR.chN ha h0) ?_
  refine X.astore_nN dX4_sum_16 (Nat.le_of_ble_eq_true rfl) ?_
  refine X.aload_nN dX4_sum_17 rfl ?_
  refine X.ifnonnull_n dX4_sum_18 ?_
  refine X.aload_n dX4_sum_21 rfl ?_
  refine X.aload_n dX4_sum_22 rfl ?_
  refine X.cV0i (k' := kX2_refusalWithoutTape) dX4_sum_23 ((hB.2.2.1 a ha).1) ⟨by decide, rfl⟩ v_X2_refusalWithoutTape wm_X4_180 wi_X2_refusalWithoutTape ws_X2_refusalWithoutTape ⟨Nat.le_of_ble_eq_true rfl, Nat.le_of_ble_eq_true rfl⟩ n_X2_refusalWithoutTape (Nat.le_of_ble_eq_true rfl) ?_
  refine c_refusal hR ha h0 ?_
  refine ⟨_, rfl, ?_⟩
  refine X.cV1v (k' := kX4_note) dX4_sum_26 (hB.1 1 (by decide) (by decide)) ⟨by decide, rfl⟩ v_X4_note wm_X4_133 wi_X4_note ws_X4_note ⟨Nat.le_of_ble_eq_true rfl, Nat.le_of_ble_eq_true rfl⟩ n_X4_note (Nat.le_of_ble_eq_true rfl) ?_
  refine c_note hR (by have := noTapeM_le ν a; omega) (fun μ1 hR => ?_)
  refine ⟨rfl, ?_⟩
  refine X.lconst (v := 0) dX4_sum_29 (by decide) ?_
  refine X.ret dX4_sum_30 ⟨trivial, ?_⟩
  exact hq _ hR
set_option maxRecDepth 100000 in
set_option maxHeartbeats 4000000 in
theorem csu {a : Nat} {ρ ν μ : xM} {φ κ : Nat → Nat} {B : Nat × Nat × Nat × (Nat → Prop)} {Q : Option Value → xM → Prop} (hR : Rel ρ ν μ φ κ B) (ha : a < 16) (h0 : noTapeM ν a = 0) (hq : ∀ μ1, Rel ρ (metM ν 0) μ1 φ κ B → Q (some (.long (sumM ν (tp ν a) (sz ν (tp ν a))))) μ1) : ∀ (m k : Nat), k + m = sz ν (tp ν a) → X kX4_sum none 37 (xl [(0, .ref 1), (2, .ref (28 + a)), (3, .ref (φ (tp ν a))), (4, .long (sumM ν (tp ν a) k)), (6, .int (nI k))]) [] μ (fun r μ' => xrok kX4_sum.2.2.2.1 r ∧ Q r μ') := by
  have hB := hR.2.1
  have hT5 := hR.tr (live_c ha h0)
  have hT := (hR.tr (live_c ha h0)).ts
  have ht := tp_lt hR.wt ha h0
  have ls := sz_le hR.wt ht
  intro m
  induction m with
  | zero =>
    intro k hk
    obtain rfl : k = sz ν (tp ν a) := by omega
    refine X.iload dX4_sum_37 rfl ?_
    refine X.aload_n dX4_sum_39 rfl ?_
    refine X.getI (kf := 1) dX4_sum_40 (hT.1.1) (by decide) (by decide) rfl wf_X4_145 ?_
    refine X.icmp_ge_t (tgt := 64) dX4_sum_43 (by decide) ((by rw [hT.2.1.2]; exact nI_le (Nat.le_refl _) (by omega))) ?_
    refine X.aload_n dX4_sum_64 rfl ?_
    refine X.iconst (v := 0) dX4_sum_65 (by decide) ?_
    refine X.cV1v (k' := kX4_note) dX4_sum_66 (hB.1 1 (by decide) (by decide)) ⟨by decide, rfl⟩ v_X4_note wm_X4_133 wi_X4_note ws_X4_note ⟨Nat.le_of_ble_eq_true rfl, Nat.le_of_ble_eq_true rfl⟩ n_X4_note (Nat.le_of_ble_eq_true rfl) ?_
    refine c_note (r := 0) hR (by decide) (fun μ1 hR => ?_)
    refine ⟨rfl, ?_⟩
    refine X.lload dX4_sum_69 rfl ?_
    refine X.ret dX4_sum_71 ⟨trivial, ?_⟩
    exact hq _ hR
  | succ m ih =>
    intro k hk
    have hj : k < sz ν (tp ν a) := by omega
    refine X.iload dX4_sum_37 rfl ?_
    refine X.aload_n dX4_sum_39 rfl ?_
    refine X.getI (kf := 1) dX4_sum_40 (hT.1.1) (by decide) (by decide) rfl wf_X4_145 ?_
    refine X.icmp_ge_f (tgt := 64) dX4_sum_43 (by decide) ((by rw [hT.2.1.2]; exact nI_ge hj (by omega))) ?_
    refine X.lload dX4_sum_46 rfl ?_
    refine X.aload_n dX4_sum_48 rfl ?_
    refine X.getR (b := (φ (tp ν a) + 2)) (kf := 3) dX4_sum_49 (hT.1.1) (by decide) (by decide) rfl wf_X4_189 (hT.2.2.2.1) ?_
    refine X.iload dX4_sum_52 rfl ?_
    refine X.lald dX4_sum_54 (hT.1.2.2.1) (rfl) (hj) (by omega) ?_
    refine X.ladd dX4_sum_55 ?_
    refine X.lstore dX4_sum_56 (Nat.le_of_ble_eq_true rfl) ?_
    refine X.iinc1 dX4_sum_58 rfl (Nat.le_of_ble_eq_true rfl) ?_
    refine X.goto (tgt := 37) dX4_sum_61 (by decide) ?_
    rw [(hT5.2.2.2.2 k hj).2.1]
    exact X.at [(0, .ref 1), (2, .ref (28 + a)), (3, .ref (φ (tp ν a))), (4, .long (sumM ν (tp ν a) (k + 1))), (6, .int (nI (k + 1)))] ⟨rfl, rfl, rfl, rfl, iN k, trivial⟩ (ih (k + 1) (by omega))
set_option maxRecDepth 100000 in
set_option maxHeartbeats 4000000 in
theorem c_sum_in {a : Nat} {ρ ν μ : xM} {φ κ : Nat → Nat} {B : Nat × Nat × Nat × (Nat → Prop)} {Q : Option Value → xM → Prop} (hR : Rel ρ ν μ φ κ B) (ha : a < 16) (h0 : noTapeM ν a = 0) (hq : ∀ μ1, Rel ρ (metM ν 0) μ1 φ κ B → Q (some (.long (sumM ν (tp ν a) (sz ν (tp ν a))))) μ1) : Mt kX4_sum [.ref 1, .int (nI a)] μ Q := by
  have hB := hR.2.1
  have hT := (hR.tr (live_c ha h0)).ts
  have ht := tp_lt hR.wt ha h0
  have ls := sz_le hR.wt ht
  refine Mt.enter rfl (Nat.le_of_ble_eq_true rfl) ?_
  refine X.aload_n dX4_sum_0 rfl ?_
  refine X.iload_n dX4_sum_1 rfl ?_
  refine X.cV1a (k' := kX4_channelAt) dX4_sum_2 (hB.1 1 (by decide) (by decide)) ⟨by decide, rfl⟩ v_X4_channelAt wm_X4_59 wi_X4_channelAt ws_X4_channelAt ⟨Nat.le_of_ble_eq_true rfl, Nat.le_of_ble_eq_true rfl⟩ n_X4_channelAt (Nat.le_of_ble_eq_true rfl) ?_
  refine x_channelAt hB ha ?_
  refine ⟨_, rfl, ?_⟩
  refine X.astore_n dX4_sum_5 (Nat.le_of_ble_eq_true rfl) ?_
  refine X.aload_n dX4_sum_6 rfl ?_
  refine X.ifnonnull_r (tgt := 12) dX4_sum_7 (by decide) ?_
  refine X.aload_n dX4_sum_12 rfl ?_
  refine X.getR (b := (φ (tp ν a))) (kf := 1) dX4_sum_13 ((hB.2.2.1 a ha).1) (by decide) (by decide) rfl wf_X4_84 (hR.chT ha h0) ?_
  refine X.astore_n dX4_sum_16 (Nat.le_of_ble_eq_true rfl) ?_
  refine X.aload_n dX4_sum_17 rfl ?_
  refine X.ifnonnull_r (tgt := 31) dX4_sum_18 (by decide) ?_
  refine X.lconst (v := 0) dX4_sum_31 (by decide) ?_
  refine X.lstore dX4_sum_32 (Nat.le_of_ble_eq_true rfl) ?_
  refine X.iconst (v := 0) dX4_sum_34 (by decide) ?_
  refine X.istore dX4_sum_35 (Nat.le_of_ble_eq_true rfl) ?_
  exact X.at [(0, .ref 1), (2, .ref (28 + a)), (3, .ref (φ (tp ν a))), (4, .long (sumM ν (tp ν a) 0)), (6, .int (nI 0))] ⟨rfl, rfl, rfl, rfl, rfl, trivial⟩ (csu hR ha h0 hq (sz ν (tp ν a)) 0 (by omega))
