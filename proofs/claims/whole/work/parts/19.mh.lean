/-! the reference: a cable is carried (laid by wip/whole/mkmodel8.py) -/
def ck (μ : xM) (k : Nat) : Nat := (mI μ 54 k).toNatClampNeg
def cf (μ : xM) (k : Nat) : Nat := (mI μ 55 k).toNatClampNeg
def ct (μ : xM) (k : Nat) : Nat := (mI μ 56 k).toNatClampNeg
def WFc (μ : xM) : Prop := (mI μ 44 10 = nI (qM μ) ∧ qM μ ≤ 24) ∧ ∀ k, k < qM μ → (mI μ 54 k = nI (ck μ k) ∧ ck μ k < 4) ∧ (mI μ 55 k = nI (cf μ k) ∧ cf μ k < 16) ∧ mI μ 56 k = nI (ct μ k) ∧ ct μ k < 16
abbrev shutM (μ : xM) (k : Nat) : Prop := ck μ k = 1 ∧ noPlaceM μ (cf μ k) ((mI μ 51 (cf μ k))) = 0 ∧ numM μ (tp μ (cf μ k)) (ix ((mI μ 51 (cf μ k)))) = 0
def pass1M (μ : xM) (k : Nat) : xM := passM μ (cf μ k) ((mI μ 51 (cf μ k))) (ct μ k) ((mI μ 51 (ct μ k)))
def noPass1M (μ : xM) (k : Nat) : Nat := noPassM μ (cf μ k) ((mI μ 51 (cf μ k))) (ct μ k) ((mI μ 51 (ct μ k)))
def noCarryM (μ : xM) (k : Nat) : Nat := if ck μ k = 3 then noChangeM μ (cf μ k) ((mI μ 51 (cf μ k))) (ct μ k) ((mI μ 51 (ct μ k))) else if shutM μ k then 6 else if ck μ k = 2 ∧ noPass1M μ k = 0 then noPassM (pass1M μ k) (cf μ k) ((mI μ 51 (cf μ k)) + 1) (ct μ k) ((mI μ 51 (ct μ k)) + 1) else noPass1M μ k
def carryM (μ : xM) (k : Nat) : xM := if ck μ k = 3 then changeM μ (cf μ k) ((mI μ 51 (cf μ k))) (ct μ k) ((mI μ 51 (ct μ k))) else if shutM μ k then μ else if ck μ k = 2 ∧ noPass1M μ k = 0 then passM (pass1M μ k) (cf μ k) ((mI μ 51 (cf μ k)) + 1) (ct μ k) ((mI μ 51 (ct μ k)) + 1) else pass1M μ k
def rC (n : Nat) : Int32 := if n = 6 then -1 else nI n
theorem noCarry_le (μ : xM) (k : Nat) : noCarryM μ k < 7 := by
  unfold noCarryM noPass1M
  split
  · have := noChange_le μ (cf μ k) ((mI μ 51 (cf μ k))) (ct μ k) ((mI μ 51 (ct μ k))); omega
  · split
    · omega
    · split
      · have := noPass_le (pass1M μ k) (cf μ k) ((mI μ 51 (cf μ k)) + 1) (ct μ k) ((mI μ 51 (ct μ k)) + 1); omega
      · have := noPass_le μ (cf μ k) ((mI μ 51 (cf μ k))) (ct μ k) ((mI μ 51 (ct μ k))); omega
theorem carry_form (μ : xM) (k : Nat) : ∃ w, carryM μ k = sB μ w := by
  unfold carryM pass1M
  split
  · exact change_form _ _ _ _ _
  · split
    · exact sB_self μ
    · split
      · obtain ⟨w, e⟩ := pass_form μ (cf μ k) ((mI μ 51 (cf μ k))) (ct μ k) ((mI μ 51 (ct μ k)))
        rw [e]
        obtain ⟨w2, e2⟩ := pass_form (sB μ w) (cf μ k) ((mI μ 51 (cf μ k)) + 1) (ct μ k) ((mI μ 51 (ct μ k)) + 1)
        rw [e2, sB_sB]
        exact ⟨w2, rfl⟩
      · exact pass_form _ _ _ _ _
theorem m_numberOf_i {t j : Nat} {i : Int32} {μ : xM} {Q : Option Value → xM → Prop} (hM : ShM μ) (hw : WFt μ) (ht : t < 560) (hj : j < sz μ t) (ei : i = nI j) (hq : Q (some (.long (numM μ t j))) μ) : Mt kX5_numberOf [.ref 44, .int (nI t), .int i] μ Q := by
  subst ei
  exact m_numberOf hM hw ht hj hq
theorem WFt.carry {μ : xM} (hw : WFt μ) (hcb : WFc μ) {k : Nat} (hk : k < qM μ) : WFt (carryM μ k) := by
  obtain ⟨-, ⟨-, h1⟩, -, h2⟩ := hcb.2 k hk
  unfold carryM pass1M
  split
  · exact hw.change h1 h2
  · split
    · exact hw
    · split
      · exact (hw.pass h1 h2).pass h1 h2
      · exact hw.pass h1 h2
set_option maxRecDepth 100000 in
set_option maxHeartbeats 4000000 in
theorem m_carries1 {k : Nat} {μ : xM} {Q : Option Value → xM → Prop} (hM : ShM μ) (hw : WFt μ) (hcb : WFc μ) (hk : k < qM μ) (h3 : ck μ k = 3) (hq : Q (some (.int (rC (noCarryM μ k)))) (carryM μ k)) : Mt kX5_carries [.ref 44, .int (nI k)] μ Q := by
  obtain ⟨⟨ec, lc⟩, ⟨ef, lf⟩, eg, lg⟩ := hcb.2 k hk
  have hq24 := hcb.1.2
  have hk24 : k < 24 := by omega
  unfold noCarryM carryM at hq
  rw [if_pos h3, if_pos h3] at hq
  have hle := noChange_le μ (cf μ k) ((mI μ 51 (cf μ k))) (ct μ k) ((mI μ 51 (ct μ k)))
  unfold rC at hq
  rw [if_neg (by omega)] at hq
  refine Mt.enter rfl (Nat.le_of_ble_eq_true rfl) ?_
  refine X.aload_n dX5_carries_0 rfl ?_
  refine X.getR (b := 51) (kf := 7) dX5_carries_1 (hM.1 44 (by decide) (by decide)) (by decide) (by decide) rfl wf_X5_30 (hM.2 7 (by decide)) ?_
  refine X.aload_n dX5_carries_4 rfl ?_
  refine X.getR (b := 55) (kf := 12) dX5_carries_5 (hM.1 44 (by decide) (by decide)) (by decide) (by decide) rfl wf_X5_42 (hM.2 12 (by decide)) ?_
  refine X.iload_n dX5_carries_8 rfl ?_
  refine X.iald dX5_carries_9 (hM.1 55 (by decide) (by decide)) (rfl) (hk24) (by decide) ?_
  refine X.iald dX5_carries_10 (hM.1 51 (by decide) (by decide)) (ef) (lf) (by decide) ?_
  refine X.istore_n dX5_carries_11 (Nat.le_of_ble_eq_true rfl) ?_
  refine X.aload_n dX5_carries_12 rfl ?_
  refine X.getR (b := 51) (kf := 7) dX5_carries_13 (hM.1 44 (by decide) (by decide)) (by decide) (by decide) rfl wf_X5_30 (hM.2 7 (by decide)) ?_
  refine X.aload_n dX5_carries_16 rfl ?_
  refine X.getR (b := 56) (kf := 13) dX5_carries_17 (hM.1 44 (by decide) (by decide)) (by decide) (by decide) rfl wf_X5_45 (hM.2 13 (by decide)) ?_
  refine X.iload_n dX5_carries_20 rfl ?_
  refine X.iald dX5_carries_21 (hM.1 56 (by decide) (by decide)) (rfl) (hk24) (by decide) ?_
  refine X.iald dX5_carries_22 (hM.1 51 (by decide) (by decide)) (eg) (lg) (by decide) ?_
  refine X.istore_n dX5_carries_23 (Nat.le_of_ble_eq_true rfl) ?_
  refine X.aload_n dX5_carries_24 rfl ?_
  refine X.getR (b := 54) (kf := 11) dX5_carries_25 (hM.1 44 (by decide) (by decide)) (by decide) (by decide) rfl wf_X5_39 (hM.2 11 (by decide)) ?_
  refine X.iload_n dX5_carries_28 rfl ?_
  refine X.iald dX5_carries_29 (hM.1 54 (by decide) (by decide)) (rfl) (hk24) (by decide) ?_
  refine X.iconst (v := 3) dX5_carries_30 (by decide) ?_
  refine X.icmp_ne_f (tgt := 53) dX5_carries_31 (by decide) ((by rw [ec, h3]; rfl)) ?_
  refine X.aload_n dX5_carries_34 rfl ?_
  refine X.aload_n dX5_carries_35 rfl ?_
  refine X.getR (b := 55) (kf := 12) dX5_carries_36 (hM.1 44 (by decide) (by decide)) (by decide) (by decide) rfl wf_X5_42 (hM.2 12 (by decide)) ?_
  refine X.iload_n dX5_carries_39 rfl ?_
  refine X.iald dX5_carries_40 (hM.1 55 (by decide) (by decide)) (rfl) (hk24) (by decide) ?_
  refine X.iload_n dX5_carries_41 rfl ?_
  refine X.aload_n dX5_carries_42 rfl ?_
  refine X.getR (b := 56) (kf := 13) dX5_carries_43 (hM.1 44 (by decide) (by decide)) (by decide) (by decide) rfl wf_X5_45 (hM.2 13 (by decide)) ?_
  refine X.iload_n dX5_carries_46 rfl ?_
  refine X.iald dX5_carries_47 (hM.1 56 (by decide) (by decide)) (rfl) (hk24) (by decide) ?_
  refine X.iload_n dX5_carries_48 rfl ?_
  refine X.cV4i (k' := kX5_changes) dX5_carries_49 (hM.1 44 (by decide) (by decide)) ⟨by decide, rfl⟩ v_X5_changes wm_X5_161 wi_X5_changes ws_X5_changes ⟨Nat.le_of_ble_eq_true rfl, Nat.le_of_ble_eq_true rfl⟩ n_X5_changes (Nat.le_of_ble_eq_true rfl) ?_
  rw [ef, eg]
  refine m_changes hM hw lf lg ?_
  refine ⟨_, rfl, ?_⟩
  refine X.ret dX5_carries_52 ⟨trivial, ?_⟩
  exact hq
set_option maxRecDepth 100000 in
set_option maxHeartbeats 4000000 in
theorem m_carries2 {k : Nat} {μ : xM} {Q : Option Value → xM → Prop} (hM : ShM μ) (hw : WFt μ) (hcb : WFc μ) (hk : k < qM μ) (h3 : ¬ ck μ k = 3) (hs : shutM μ k) (hq : Q (some (.int (rC (noCarryM μ k)))) (carryM μ k)) : Mt kX5_carries [.ref 44, .int (nI k)] μ Q := by
  obtain ⟨⟨ec, lc⟩, ⟨ef, lf⟩, eg, lg⟩ := hcb.2 k hk
  have hq24 := hcb.1.2
  have hk24 : k < 24 := by omega
  unfold noCarryM carryM at hq
  rw [if_neg h3, if_neg h3, if_pos hs, if_pos hs] at hq
  obtain ⟨s1, s2, s3⟩ := id hs
  obtain ⟨a0, ar, ae, ai⟩ := noPlace_0 s2
  obtain ⟨ht, et⟩ := hw.1 _ lf a0
  refine Mt.enter rfl (Nat.le_of_ble_eq_true rfl) ?_
  refine X.aload_n dX5_carries_0 rfl ?_
  refine X.getR (b := 51) (kf := 7) dX5_carries_1 (hM.1 44 (by decide) (by decide)) (by decide) (by decide) rfl wf_X5_30 (hM.2 7 (by decide)) ?_
  refine X.aload_n dX5_carries_4 rfl ?_
  refine X.getR (b := 55) (kf := 12) dX5_carries_5 (hM.1 44 (by decide) (by decide)) (by decide) (by decide) rfl wf_X5_42 (hM.2 12 (by decide)) ?_
  refine X.iload_n dX5_carries_8 rfl ?_
  refine X.iald dX5_carries_9 (hM.1 55 (by decide) (by decide)) (rfl) (hk24) (by decide) ?_
  refine X.iald dX5_carries_10 (hM.1 51 (by decide) (by decide)) (ef) (lf) (by decide) ?_
  refine X.istore_n dX5_carries_11 (Nat.le_of_ble_eq_true rfl) ?_
  refine X.aload_n dX5_carries_12 rfl ?_
  refine X.getR (b := 51) (kf := 7) dX5_carries_13 (hM.1 44 (by decide) (by decide)) (by decide) (by decide) rfl wf_X5_30 (hM.2 7 (by decide)) ?_
  refine X.aload_n dX5_carries_16 rfl ?_
  refine X.getR (b := 56) (kf := 13) dX5_carries_17 (hM.1 44 (by decide) (by decide)) (by decide) (by decide) rfl wf_X5_45 (hM.2 13 (by decide)) ?_
  refine X.iload_n dX5_carries_20 rfl ?_
  refine X.iald dX5_carries_21 (hM.1 56 (by decide) (by decide)) (rfl) (hk24) (by decide) ?_
  refine X.iald dX5_carries_22 (hM.1 51 (by decide) (by decide)) (eg) (lg) (by decide) ?_
  refine X.istore_n dX5_carries_23 (Nat.le_of_ble_eq_true rfl) ?_
  refine X.aload_n dX5_carries_24 rfl ?_
  refine X.getR (b := 54) (kf := 11) dX5_carries_25 (hM.1 44 (by decide) (by decide)) (by decide) (by decide) rfl wf_X5_39 (hM.2 11 (by decide)) ?_
  refine X.iload_n dX5_carries_28 rfl ?_
  refine X.iald dX5_carries_29 (hM.1 54 (by decide) (by decide)) (rfl) (hk24) (by decide) ?_
  refine X.iconst (v := 3) dX5_carries_30 (by decide) ?_
  refine X.icmp_ne_t (tgt := 53) dX5_carries_31 (by decide) ((by rw [ec]; exact nI_neq h3 (by omega) (by decide))) ?_
  refine X.aload_n dX5_carries_53 rfl ?_
  refine X.getR (b := 54) (kf := 11) dX5_carries_54 (hM.1 44 (by decide) (by decide)) (by decide) (by decide) rfl wf_X5_39 (hM.2 11 (by decide)) ?_
  refine X.iload_n dX5_carries_57 rfl ?_
  refine X.iald dX5_carries_58 (hM.1 54 (by decide) (by decide)) (rfl) (hk24) (by decide) ?_
  refine X.iconst (v := 1) dX5_carries_59 (by decide) ?_
  refine X.icmp_ne_f (tgt := 100) dX5_carries_60 (by decide) ((by rw [ec, s1]; rfl)) ?_
  refine X.aload_n dX5_carries_63 rfl ?_
  refine X.aload_n dX5_carries_64 rfl ?_
  refine X.getR (b := 55) (kf := 12) dX5_carries_65 (hM.1 44 (by decide) (by decide)) (by decide) (by decide) rfl wf_X5_42 (hM.2 12 (by decide)) ?_
  refine X.iload_n dX5_carries_68 rfl ?_
  refine X.iald dX5_carries_69 (hM.1 55 (by decide) (by decide)) (rfl) (hk24) (by decide) ?_
  refine X.iload_n dX5_carries_70 rfl ?_
  refine X.cV2i (k' := kX5_noPlace) dX5_carries_71 (hM.1 44 (by decide) (by decide)) ⟨by decide, rfl⟩ v_X5_noPlace wm_X5_113 wi_X5_noPlace ws_X5_noPlace ⟨Nat.le_of_ble_eq_true rfl, Nat.le_of_ble_eq_true rfl⟩ n_X5_noPlace (Nat.le_of_ble_eq_true rfl) ?_
  rw [ef]
  refine m_noPlace hM hw lf ?_
  refine ⟨_, rfl, ?_⟩
  refine X.if_ne_f (tgt := 100) dX5_carries_74 (by decide) ((by show nI (noPlaceM μ (cf μ k) ((mI μ 51 (cf μ k)))) = 0; rw [s2]; rfl)) ?_
  refine X.aload_n dX5_carries_77 rfl ?_
  refine X.aload_n dX5_carries_78 rfl ?_
  refine X.getR (b := 50) (kf := 6) dX5_carries_79 (hM.1 44 (by decide) (by decide)) (by decide) (by decide) rfl wf_X5_27 (hM.2 6 (by decide)) ?_
  refine X.aload_n dX5_carries_82 rfl ?_
  refine X.getR (b := 55) (kf := 12) dX5_carries_83 (hM.1 44 (by decide) (by decide)) (by decide) (by decide) rfl wf_X5_42 (hM.2 12 (by decide)) ?_
  refine X.iload_n dX5_carries_86 rfl ?_
  refine X.iald dX5_carries_87 (hM.1 55 (by decide) (by decide)) (rfl) (hk24) (by decide) ?_
  refine X.iald dX5_carries_88 (hM.1 50 (by decide) (by decide)) (ef) (lf) (by decide) ?_
  refine X.iload_n dX5_carries_89 rfl ?_
  refine X.cV2l (k' := kX5_numberOf) dX5_carries_90 (hM.1 44 (by decide) (by decide)) ⟨by decide, rfl⟩ v_X5_numberOf wm_X5_165 wi_X5_numberOf ws_X5_numberOf ⟨Nat.le_of_ble_eq_true rfl, Nat.le_of_ble_eq_true rfl⟩ n_X5_numberOf (Nat.le_of_ble_eq_true rfl) ?_
  rw [et]
  refine m_numberOf_i hM hw ht ai ae ?_
  refine ⟨_, rfl, ?_⟩
  refine X.lconst (v := 0) dX5_carries_93 (by decide) ?_
  refine X.lcmp dX5_carries_94 ?_
  refine X.if_ne_f (tgt := 100) dX5_carries_95 (by decide) (lgc_eq s3) ?_
  refine X.iconst (v := -1) dX5_carries_98 (by decide) ?_
  refine X.ret dX5_carries_99 ⟨trivial, ?_⟩
  exact hq
set_option maxRecDepth 100000 in
set_option maxHeartbeats 4000000 in
theorem m_carries3d {k : Nat} {μ : xM} {Q : Option Value → xM → Prop} (hM : ShM μ) (hw : WFt μ) (hcb : WFc μ) (hk : k < qM μ) (h3 : ¬ ck μ k = 3) (hs : ¬ shutM μ k) (h1 : ¬ ck μ k = 1) (h2 : ck μ k = 2 ∧ noPass1M μ k = 0) (hq : Q (some (.int (rC (noCarryM μ k)))) (carryM μ k)) : Mt kX5_carries [.ref 44, .int (nI k)] μ Q := by
  obtain ⟨⟨ec, lc⟩, ⟨ef, lf⟩, eg, lg⟩ := hcb.2 k hk
  have hq24 := hcb.1.2
  have hk24 : k < 24 := by omega
  unfold noCarryM carryM at hq
  rw [if_neg h3, if_neg h3, if_neg hs, if_neg hs, if_pos h2, if_pos h2] at hq
  obtain ⟨w, ew⟩ := pass_form μ (cf μ k) ((mI μ 51 (cf μ k))) (ct μ k) ((mI μ 51 (ct μ k)))
  have hw2 : WFt (passM μ (cf μ k) ((mI μ 51 (cf μ k))) (ct μ k) ((mI μ 51 (ct μ k)))) := hw.pass lf lg
  unfold pass1M at hq
  try unfold noPass1M at hq
  unfold noPass1M at h2
  rw [ew] at hq hw2
  have hle := noPass_le (sB μ w) (cf μ k) ((mI μ 51 (cf μ k)) + 1) (ct μ k) ((mI μ 51 (ct μ k)) + 1)
  unfold rC at hq
  rw [if_neg (by omega)] at hq
  refine Mt.enter rfl (Nat.le_of_ble_eq_true rfl) ?_
  refine X.aload_n dX5_carries_0 rfl ?_
  refine X.getR (b := 51) (kf := 7) dX5_carries_1 (hM.1 44 (by decide) (by decide)) (by decide) (by decide) rfl wf_X5_30 (hM.2 7 (by decide)) ?_
  refine X.aload_n dX5_carries_4 rfl ?_
  refine X.getR (b := 55) (kf := 12) dX5_carries_5 (hM.1 44 (by decide) (by decide)) (by decide) (by decide) rfl wf_X5_42 (hM.2 12 (by decide)) ?_
  refine X.iload_n dX5_carries_8 rfl ?_
  refine X.iald dX5_carries_9 (hM.1 55 (by decide) (by decide)) (rfl) (hk24) (by decide) ?_
  refine X.iald dX5_carries_10 (hM.1 51 (by decide) (by decide)) (ef) (lf) (by decide) ?_
  refine X.istore_n dX5_carries_11 (Nat.le_of_ble_eq_true rfl) ?_
  refine X.aload_n dX5_carries_12 rfl ?_
  refine X.getR (b := 51) (kf := 7) dX5_carries_13 (hM.1 44 (by decide) (by decide)) (by decide) (by decide) rfl wf_X5_30 (hM.2 7 (by decide)) ?_
  refine X.aload_n dX5_carries_16 rfl ?_
  refine X.getR (b := 56) (kf := 13) dX5_carries_17 (hM.1 44 (by decide) (by decide)) (by decide) (by decide) rfl wf_X5_45 (hM.2 13 (by decide)) ?_
  refine X.iload_n dX5_carries_20 rfl ?_
  refine X.iald dX5_carries_21 (hM.1 56 (by decide) (by decide)) (rfl) (hk24) (by decide) ?_
  refine X.iald dX5_carries_22 (hM.1 51 (by decide) (by decide)) (eg) (lg) (by decide) ?_
  refine X.istore_n dX5_carries_23 (Nat.le_of_ble_eq_true rfl) ?_
  refine X.aload_n dX5_carries_24 rfl ?_
  refine X.getR (b := 54) (kf := 11) dX5_carries_25 (hM.1 44 (by decide) (by decide)) (by decide) (by decide) rfl wf_X5_39 (hM.2 11 (by decide)) ?_
  refine X.iload_n dX5_carries_28 rfl ?_
  refine X.iald dX5_carries_29 (hM.1 54 (by decide) (by decide)) (rfl) (hk24) (by decide) ?_
  refine X.iconst (v := 3) dX5_carries_30 (by decide) ?_
  refine X.icmp_ne_t (tgt := 53) dX5_carries_31 (by decide) ((by rw [ec]; exact nI_neq h3 (by omega) (by decide))) ?_
  refine X.aload_n dX5_carries_53 rfl ?_
  refine X.getR (b := 54) (kf := 11) dX5_carries_54 (hM.1 44 (by decide) (by decide)) (by decide) (by decide) rfl wf_X5_39 (hM.2 11 (by decide)) ?_
  refine X.iload_n dX5_carries_57 rfl ?_
  refine X.iald dX5_carries_58 (hM.1 54 (by decide) (by decide)) (rfl) (hk24) (by decide) ?_
  refine X.iconst (v := 1) dX5_carries_59 (by decide) ?_
  refine X.icmp_ne_t (tgt := 100) dX5_carries_60 (by decide) ((by rw [ec]; exact nI_neq h1 (by omega) (by decide))) ?_
  refine X.aload_n dX5_carries_100 rfl ?_
  refine X.aload_n dX5_carries_101 rfl ?_
  refine X.getR (b := 55) (kf := 12) dX5_carries_102 (hM.1 44 (by decide) (by decide)) (by decide) (by decide) rfl wf_X5_42 (hM.2 12 (by decide)) ?_
  refine X.iload_n dX5_carries_105 rfl ?_
  refine X.iald dX5_carries_106 (hM.1 55 (by decide) (by decide)) (rfl) (hk24) (by decide) ?_
  refine X.iload_n dX5_carries_107 rfl ?_
  refine X.aload_n dX5_carries_108 rfl ?_
  refine X.getR (b := 56) (kf := 13) dX5_carries_109 (hM.1 44 (by decide) (by decide)) (by decide) (by decide) rfl wf_X5_45 (hM.2 13 (by decide)) ?_
  refine X.iload_n dX5_carries_112 rfl ?_
  refine X.iald dX5_carries_113 (hM.1 56 (by decide) (by decide)) (rfl) (hk24) (by decide) ?_
  refine X.iload_n dX5_carries_114 rfl ?_
  refine X.cV4i (k' := kX5_passes) dX5_carries_115 (hM.1 44 (by decide) (by decide)) ⟨by decide, rfl⟩ v_X5_passes wm_X5_169 wi_X5_passes ws_X5_passes ⟨Nat.le_of_ble_eq_true rfl, Nat.le_of_ble_eq_true rfl⟩ n_X5_passes (Nat.le_of_ble_eq_true rfl) ?_
  rw [ef, eg]
  refine m_passes hM hw lf lg ?_
  rw [show passM μ (cf μ k) (mI μ 51 (cf μ k)) (ct μ k) (mI μ 51 (ct μ k)) = sB μ w from ew]
  refine ⟨_, rfl, ?_⟩
  refine X.istore dX5_carries_118 (Nat.le_of_ble_eq_true rfl) ?_
  refine X.aload_n dX5_carries_120 rfl ?_
  refine X.getR (b := 54) (kf := 11) dX5_carries_121 (hM.1 44 (by decide) (by decide)) (by decide) (by decide) rfl wf_X5_39 (hM.2 11 (by decide)) ?_
  refine X.iload_n dX5_carries_124 rfl ?_
  refine X.iald dX5_carries_125 (hM.1 54 (by decide) (by decide)) (rfl) (hk24) (by decide) ?_
  refine X.iconst (v := 2) dX5_carries_126 (by decide) ?_
  refine X.icmp_ne_f (tgt := 159) dX5_carries_127 (by decide) ((by show mI μ 54 k = 2; rw [ec, h2.1]; rfl)) ?_
  refine X.iload dX5_carries_130 rfl ?_
  refine X.if_ne_f (tgt := 159) dX5_carries_132 (by decide) ((by show nI (noPassM μ (cf μ k) ((mI μ 51 (cf μ k))) (ct μ k) ((mI μ 51 (ct μ k)))) = 0; rw [h2.2]; rfl)) ?_
  refine X.aload_n dX5_carries_135 rfl ?_
  refine X.aload_n dX5_carries_136 rfl ?_
  refine X.getR (b := 55) (kf := 12) dX5_carries_137 (hM.1 44 (by decide) (by decide)) (by decide) (by decide) rfl wf_X5_42 (hM.2 12 (by decide)) ?_
  refine X.iload_n dX5_carries_140 rfl ?_
  refine X.iald dX5_carries_141 (hM.1 55 (by decide) (by decide)) (rfl) (hk24) (by decide) ?_
  refine X.iload_n dX5_carries_142 rfl ?_
  refine X.iconst (v := 1) dX5_carries_143 (by decide) ?_
  refine X.iadd dX5_carries_144 ?_
  refine X.aload_n dX5_carries_145 rfl ?_
  refine X.getR (b := 56) (kf := 13) dX5_carries_146 (hM.1 44 (by decide) (by decide)) (by decide) (by decide) rfl wf_X5_45 (hM.2 13 (by decide)) ?_
  refine X.iload_n dX5_carries_149 rfl ?_
  refine X.iald dX5_carries_150 (hM.1 56 (by decide) (by decide)) (rfl) (hk24) (by decide) ?_
  refine X.iload_n dX5_carries_151 rfl ?_
  refine X.iconst (v := 1) dX5_carries_152 (by decide) ?_
  refine X.iadd dX5_carries_153 ?_
  refine X.cV4i (k' := kX5_passes) dX5_carries_154 (hM.1 44 (by decide) (by decide)) ⟨by decide, rfl⟩ v_X5_passes wm_X5_169 wi_X5_passes ws_X5_passes ⟨Nat.le_of_ble_eq_true rfl, Nat.le_of_ble_eq_true rfl⟩ n_X5_passes (Nat.le_of_ble_eq_true rfl) ?_
  rw [show mI (sB μ w) 55 k = nI (cf μ k) from ef, show mI (sB μ w) 56 k = nI (ct μ k) from eg]
  refine m_passes hM hw2 lf lg ?_
  refine ⟨_, rfl, ?_⟩
  refine X.istore dX5_carries_157 (Nat.le_of_ble_eq_true rfl) ?_
  refine X.iload dX5_carries_159 rfl ?_
  refine X.ret dX5_carries_161 ⟨trivial, ?_⟩
  exact hq
set_option maxRecDepth 100000 in
set_option maxHeartbeats 4000000 in
theorem m_carries3e {k : Nat} {μ : xM} {Q : Option Value → xM → Prop} (hM : ShM μ) (hw : WFt μ) (hcb : WFc μ) (hk : k < qM μ) (h3 : ¬ ck μ k = 3) (hs : ¬ shutM μ k) (h1 : ¬ ck μ k = 1) (h2 : ck μ k = 2) (hz : ¬ noPass1M μ k = 0) (hq : Q (some (.int (rC (noCarryM μ k)))) (carryM μ k)) : Mt kX5_carries [.ref 44, .int (nI k)] μ Q := by
  obtain ⟨⟨ec, lc⟩, ⟨ef, lf⟩, eg, lg⟩ := hcb.2 k hk
  have hq24 := hcb.1.2
  have hk24 : k < 24 := by omega
  unfold noCarryM carryM at hq
  rw [if_neg h3, if_neg h3, if_neg hs, if_neg hs, if_neg (fun q => hz q.2), if_neg (fun q => hz q.2)] at hq
  have hle := noPass_le μ (cf μ k) ((mI μ 51 (cf μ k))) (ct μ k) ((mI μ 51 (ct μ k)))
  unfold rC at hq
  rw [if_neg (by unfold noPass1M; omega)] at hq
  obtain ⟨w, ew⟩ := pass_form μ (cf μ k) ((mI μ 51 (cf μ k))) (ct μ k) ((mI μ 51 (ct μ k)))
  have hw2 : WFt (passM μ (cf μ k) ((mI μ 51 (cf μ k))) (ct μ k) ((mI μ 51 (ct μ k)))) := hw.pass lf lg
  unfold pass1M at hq
  try unfold noPass1M at hq
  unfold noPass1M at hz
  rw [ew] at hq hw2
  refine Mt.enter rfl (Nat.le_of_ble_eq_true rfl) ?_
  refine X.aload_n dX5_carries_0 rfl ?_
  refine X.getR (b := 51) (kf := 7) dX5_carries_1 (hM.1 44 (by decide) (by decide)) (by decide) (by decide) rfl wf_X5_30 (hM.2 7 (by decide)) ?_
  refine X.aload_n dX5_carries_4 rfl ?_
  refine X.getR (b := 55) (kf := 12) dX5_carries_5 (hM.1 44 (by decide) (by decide)) (by decide) (by decide) rfl wf_X5_42 (hM.2 12 (by decide)) ?_
  refine X.iload_n dX5_carries_8 rfl ?_
  refine X.iald dX5_carries_9 (hM.1 55 (by decide) (by decide)) (rfl) (hk24) (by decide) ?_
  refine X.iald dX5_carries_10 (hM.1 51 (by decide) (by decide)) (ef) (lf) (by decide) ?_
  refine X.istore_n dX5_carries_11 (Nat.le_of_ble_eq_true rfl) ?_
  refine X.aload_n dX5_carries_12 rfl ?_
  refine X.getR (b := 51) (kf := 7) dX5_carries_13 (hM.1 44 (by decide) (by decide)) (by decide) (by decide) rfl wf_X5_30 (hM.2 7 (by decide)) ?_
  refine X.aload_n dX5_carries_16 rfl ?_
  refine X.getR (b := 56) (kf := 13) dX5_carries_17 (hM.1 44 (by decide) (by decide)) (by decide) (by decide) rfl wf_X5_45 (hM.2 13 (by decide)) ?_
  refine X.iload_n dX5_carries_20 rfl ?_
  refine X.iald dX5_carries_21 (hM.1 56 (by decide) (by decide)) (rfl) (hk24) (by decide) ?_
  refine X.iald dX5_carries_22 (hM.1 51 (by decide) (by decide)) (eg) (lg) (by decide) ?_
  refine X.istore_n dX5_carries_23 (Nat.le_of_ble_eq_true rfl) ?_
  refine X.aload_n dX5_carries_24 rfl ?_
  refine X.getR (b := 54) (kf := 11) dX5_carries_25 (hM.1 44 (by decide) (by decide)) (by decide) (by decide) rfl wf_X5_39 (hM.2 11 (by decide)) ?_
  refine X.iload_n dX5_carries_28 rfl ?_
  refine X.iald dX5_carries_29 (hM.1 54 (by decide) (by decide)) (rfl) (hk24) (by decide) ?_
  refine X.iconst (v := 3) dX5_carries_30 (by decide) ?_
  refine X.icmp_ne_t (tgt := 53) dX5_carries_31 (by decide) ((by rw [ec]; exact nI_neq h3 (by omega) (by decide))) ?_
  refine X.aload_n dX5_carries_53 rfl ?_
  refine X.getR (b := 54) (kf := 11) dX5_carries_54 (hM.1 44 (by decide) (by decide)) (by decide) (by decide) rfl wf_X5_39 (hM.2 11 (by decide)) ?_
  refine X.iload_n dX5_carries_57 rfl ?_
  refine X.iald dX5_carries_58 (hM.1 54 (by decide) (by decide)) (rfl) (hk24) (by decide) ?_
  refine X.iconst (v := 1) dX5_carries_59 (by decide) ?_
  refine X.icmp_ne_t (tgt := 100) dX5_carries_60 (by decide) ((by rw [ec]; exact nI_neq h1 (by omega) (by decide))) ?_
  refine X.aload_n dX5_carries_100 rfl ?_
  refine X.aload_n dX5_carries_101 rfl ?_
  refine X.getR (b := 55) (kf := 12) dX5_carries_102 (hM.1 44 (by decide) (by decide)) (by decide) (by decide) rfl wf_X5_42 (hM.2 12 (by decide)) ?_
  refine X.iload_n dX5_carries_105 rfl ?_
  refine X.iald dX5_carries_106 (hM.1 55 (by decide) (by decide)) (rfl) (hk24) (by decide) ?_
  refine X.iload_n dX5_carries_107 rfl ?_
  refine X.aload_n dX5_carries_108 rfl ?_
  refine X.getR (b := 56) (kf := 13) dX5_carries_109 (hM.1 44 (by decide) (by decide)) (by decide) (by decide) rfl wf_X5_45 (hM.2 13 (by decide)) ?_
  refine X.iload_n dX5_carries_112 rfl ?_
  refine X.iald dX5_carries_113 (hM.1 56 (by decide) (by decide)) (rfl) (hk24) (by decide) ?_
  refine X.iload_n dX5_carries_114 rfl ?_
  refine X.cV4i (k' := kX5_passes) dX5_carries_115 (hM.1 44 (by decide) (by decide)) ⟨by decide, rfl⟩ v_X5_passes wm_X5_169 wi_X5_passes ws_X5_passes ⟨Nat.le_of_ble_eq_true rfl, Nat.le_of_ble_eq_true rfl⟩ n_X5_passes (Nat.le_of_ble_eq_true rfl) ?_
  rw [ef, eg]
  refine m_passes hM hw lf lg ?_
  rw [show passM μ (cf μ k) (mI μ 51 (cf μ k)) (ct μ k) (mI μ 51 (ct μ k)) = sB μ w from ew]
  refine ⟨_, rfl, ?_⟩
  refine X.istore dX5_carries_118 (Nat.le_of_ble_eq_true rfl) ?_
  refine X.aload_n dX5_carries_120 rfl ?_
  refine X.getR (b := 54) (kf := 11) dX5_carries_121 (hM.1 44 (by decide) (by decide)) (by decide) (by decide) rfl wf_X5_39 (hM.2 11 (by decide)) ?_
  refine X.iload_n dX5_carries_124 rfl ?_
  refine X.iald dX5_carries_125 (hM.1 54 (by decide) (by decide)) (rfl) (hk24) (by decide) ?_
  refine X.iconst (v := 2) dX5_carries_126 (by decide) ?_
  refine X.icmp_ne_f (tgt := 159) dX5_carries_127 (by decide) ((by show mI μ 54 k = 2; rw [ec, h2]; rfl)) ?_
  refine X.iload dX5_carries_130 rfl ?_
  refine X.if_ne_t (tgt := 159) dX5_carries_132 (by decide) (nI_neq (b := 0) hz (by omega) (by decide)) ?_
  refine X.iload dX5_carries_159 rfl ?_
  refine X.ret dX5_carries_161 ⟨trivial, ?_⟩
  exact hq
set_option maxRecDepth 100000 in
set_option maxHeartbeats 4000000 in
theorem m_carries3f {k : Nat} {μ : xM} {Q : Option Value → xM → Prop} (hM : ShM μ) (hw : WFt μ) (hcb : WFc μ) (hk : k < qM μ) (h3 : ¬ ck μ k = 3) (hs : ¬ shutM μ k) (h1 : ¬ ck μ k = 1) (h2 : ¬ ck μ k = 2) (hq : Q (some (.int (rC (noCarryM μ k)))) (carryM μ k)) : Mt kX5_carries [.ref 44, .int (nI k)] μ Q := by
  obtain ⟨⟨ec, lc⟩, ⟨ef, lf⟩, eg, lg⟩ := hcb.2 k hk
  have hq24 := hcb.1.2
  have hk24 : k < 24 := by omega
  unfold noCarryM carryM at hq
  rw [if_neg h3, if_neg h3, if_neg hs, if_neg hs, if_neg (fun q => h2 q.1), if_neg (fun q => h2 q.1)] at hq
  have hle := noPass_le μ (cf μ k) ((mI μ 51 (cf μ k))) (ct μ k) ((mI μ 51 (ct μ k)))
  unfold rC at hq
  rw [if_neg (by unfold noPass1M; omega)] at hq
  obtain ⟨w, ew⟩ := pass_form μ (cf μ k) ((mI μ 51 (cf μ k))) (ct μ k) ((mI μ 51 (ct μ k)))
  have hw2 : WFt (passM μ (cf μ k) ((mI μ 51 (cf μ k))) (ct μ k) ((mI μ 51 (ct μ k)))) := hw.pass lf lg
  unfold pass1M at hq
  try unfold noPass1M at hq
  rw [ew] at hq hw2
  refine Mt.enter rfl (Nat.le_of_ble_eq_true rfl) ?_
  refine X.aload_n dX5_carries_0 rfl ?_
  refine X.getR (b := 51) (kf := 7) dX5_carries_1 (hM.1 44 (by decide) (by decide)) (by decide) (by decide) rfl wf_X5_30 (hM.2 7 (by decide)) ?_
  refine X.aload_n dX5_carries_4 rfl ?_
  refine X.getR (b := 55) (kf := 12) dX5_carries_5 (hM.1 44 (by decide) (by decide)) (by decide) (by decide) rfl wf_X5_42 (hM.2 12 (by decide)) ?_
  refine X.iload_n dX5_carries_8 rfl ?_
  refine X.iald dX5_carries_9 (hM.1 55 (by decide) (by decide)) (rfl) (hk24) (by decide) ?_
  refine X.iald dX5_carries_10 (hM.1 51 (by decide) (by decide)) (ef) (lf) (by decide) ?_
  refine X.istore_n dX5_carries_11 (Nat.le_of_ble_eq_true rfl) ?_
  refine X.aload_n dX5_carries_12 rfl ?_
  refine X.getR (b := 51) (kf := 7) dX5_carries_13 (hM.1 44 (by decide) (by decide)) (by decide) (by decide) rfl wf_X5_30 (hM.2 7 (by decide)) ?_
  refine X.aload_n dX5_carries_16 rfl ?_
  refine X.getR (b := 56) (kf := 13) dX5_carries_17 (hM.1 44 (by decide) (by decide)) (by decide) (by decide) rfl wf_X5_45 (hM.2 13 (by decide)) ?_
  refine X.iload_n dX5_carries_20 rfl ?_
  refine X.iald dX5_carries_21 (hM.1 56 (by decide) (by decide)) (rfl) (hk24) (by decide) ?_
  refine X.iald dX5_carries_22 (hM.1 51 (by decide) (by decide)) (eg) (lg) (by decide) ?_
  refine X.istore_n dX5_carries_23 (Nat.le_of_ble_eq_true rfl) ?_
  refine X.aload_n dX5_carries_24 rfl ?_
  refine X.getR (b := 54) (kf := 11) dX5_carries_25 (hM.1 44 (by decide) (by decide)) (by decide) (by decide) rfl wf_X5_39 (hM.2 11 (by decide)) ?_
  refine X.iload_n dX5_carries_28 rfl ?_
  refine X.iald dX5_carries_29 (hM.1 54 (by decide) (by decide)) (rfl) (hk24) (by decide) ?_
  refine X.iconst (v := 3) dX5_carries_30 (by decide) ?_
  refine X.icmp_ne_t (tgt := 53) dX5_carries_31 (by decide) ((by rw [ec]; exact nI_neq h3 (by omega) (by decide))) ?_
  refine X.aload_n dX5_carries_53 rfl ?_
  refine X.getR (b := 54) (kf := 11) dX5_carries_54 (hM.1 44 (by decide) (by decide)) (by decide) (by decide) rfl wf_X5_39 (hM.2 11 (by decide)) ?_
  refine X.iload_n dX5_carries_57 rfl ?_
  refine X.iald dX5_carries_58 (hM.1 54 (by decide) (by decide)) (rfl) (hk24) (by decide) ?_
  refine X.iconst (v := 1) dX5_carries_59 (by decide) ?_
  refine X.icmp_ne_t (tgt := 100) dX5_carries_60 (by decide) ((by rw [ec]; exact nI_neq h1 (by omega) (by decide))) ?_
  refine X.aload_n dX5_carries_100 rfl ?_
  refine X.aload_n dX5_carries_101 rfl ?_
  refine X.getR (b := 55) (kf := 12) dX5_carries_102 (hM.1 44 (by decide) (by decide)) (by decide) (by decide) rfl wf_X5_42 (hM.2 12 (by decide)) ?_
  refine X.iload_n dX5_carries_105 rfl ?_
  refine X.iald dX5_carries_106 (hM.1 55 (by decide) (by decide)) (rfl) (hk24) (by decide) ?_
  refine X.iload_n dX5_carries_107 rfl ?_
  refine X.aload_n dX5_carries_108 rfl ?_
  refine X.getR (b := 56) (kf := 13) dX5_carries_109 (hM.1 44 (by decide) (by decide)) (by decide) (by decide) rfl wf_X5_45 (hM.2 13 (by decide)) ?_
  refine X.iload_n dX5_carries_112 rfl ?_
  refine X.iald dX5_carries_113 (hM.1 56 (by decide) (by decide)) (rfl) (hk24) (by decide) ?_
  refine X.iload_n dX5_carries_114 rfl ?_
  refine X.cV4i (k' := kX5_passes) dX5_carries_115 (hM.1 44 (by decide) (by decide)) ⟨by decide, rfl⟩ v_X5_passes wm_X5_169 wi_X5_passes ws_X5_passes ⟨Nat.le_of_ble_eq_true rfl, Nat.le_of_ble_eq_true rfl⟩ n_X5_passes (Nat.le_of_ble_eq_true rfl) ?_
  rw [ef, eg]
  refine m_passes hM hw lf lg ?_
  rw [show passM μ (cf μ k) (mI μ 51 (cf μ k)) (ct μ k) (mI μ 51 (ct μ k)) = sB μ w from ew]
  refine ⟨_, rfl, ?_⟩
  refine X.istore dX5_carries_118 (Nat.le_of_ble_eq_true rfl) ?_
  refine X.aload_n dX5_carries_120 rfl ?_
  refine X.getR (b := 54) (kf := 11) dX5_carries_121 (hM.1 44 (by decide) (by decide)) (by decide) (by decide) rfl wf_X5_39 (hM.2 11 (by decide)) ?_
  refine X.iload_n dX5_carries_124 rfl ?_
  refine X.iald dX5_carries_125 (hM.1 54 (by decide) (by decide)) (rfl) (hk24) (by decide) ?_
  refine X.iconst (v := 2) dX5_carries_126 (by decide) ?_
  refine X.icmp_ne_t (tgt := 159) dX5_carries_127 (by decide) ((by show ¬ mI μ 54 k = 2; rw [ec]; exact nI_neq h2 (by omega) (by decide))) ?_
  refine X.iload dX5_carries_159 rfl ?_
  refine X.ret dX5_carries_161 ⟨trivial, ?_⟩
  exact hq
set_option maxRecDepth 100000 in
set_option maxHeartbeats 4000000 in
theorem m_carries3b {k : Nat} {μ : xM} {Q : Option Value → xM → Prop} (hM : ShM μ) (hw : WFt μ) (hcb : WFc μ) (hk : k < qM μ) (h3 : ¬ ck μ k = 3) (hs : ¬ shutM μ k) (h1 : ck μ k = 1) (hp : ¬ noPlaceM μ (cf μ k) ((mI μ 51 (cf μ k))) = 0) (hq : Q (some (.int (rC (noCarryM μ k)))) (carryM μ k)) : Mt kX5_carries [.ref 44, .int (nI k)] μ Q := by
  obtain ⟨⟨ec, lc⟩, ⟨ef, lf⟩, eg, lg⟩ := hcb.2 k hk
  have hq24 := hcb.1.2
  have hk24 : k < 24 := by omega
  unfold noCarryM carryM at hq
  rw [if_neg h3, if_neg h3, if_neg hs, if_neg hs, if_neg (fun q => by have := q.1; omega), if_neg (fun q => by have := q.1; omega)] at hq
  have hle := noPass_le μ (cf μ k) ((mI μ 51 (cf μ k))) (ct μ k) ((mI μ 51 (ct μ k)))
  unfold rC at hq
  rw [if_neg (by unfold noPass1M; omega)] at hq
  have h2 : True ∨ noPass1M μ k = 0 := Or.inl trivial
  obtain ⟨w, ew⟩ := pass_form μ (cf μ k) ((mI μ 51 (cf μ k))) (ct μ k) ((mI μ 51 (ct μ k)))
  have hw2 : WFt (passM μ (cf μ k) ((mI μ 51 (cf μ k))) (ct μ k) ((mI μ 51 (ct μ k)))) := hw.pass lf lg
  unfold pass1M at hq
  try unfold noPass1M at hq
  unfold noPass1M at h2
  rw [ew] at hq hw2
  refine Mt.enter rfl (Nat.le_of_ble_eq_true rfl) ?_
  refine X.aload_n dX5_carries_0 rfl ?_
  refine X.getR (b := 51) (kf := 7) dX5_carries_1 (hM.1 44 (by decide) (by decide)) (by decide) (by decide) rfl wf_X5_30 (hM.2 7 (by decide)) ?_
  refine X.aload_n dX5_carries_4 rfl ?_
  refine X.getR (b := 55) (kf := 12) dX5_carries_5 (hM.1 44 (by decide) (by decide)) (by decide) (by decide) rfl wf_X5_42 (hM.2 12 (by decide)) ?_
  refine X.iload_n dX5_carries_8 rfl ?_
  refine X.iald dX5_carries_9 (hM.1 55 (by decide) (by decide)) (rfl) (hk24) (by decide) ?_
  refine X.iald dX5_carries_10 (hM.1 51 (by decide) (by decide)) (ef) (lf) (by decide) ?_
  refine X.istore_n dX5_carries_11 (Nat.le_of_ble_eq_true rfl) ?_
  refine X.aload_n dX5_carries_12 rfl ?_
  refine X.getR (b := 51) (kf := 7) dX5_carries_13 (hM.1 44 (by decide) (by decide)) (by decide) (by decide) rfl wf_X5_30 (hM.2 7 (by decide)) ?_
  refine X.aload_n dX5_carries_16 rfl ?_
  refine X.getR (b := 56) (kf := 13) dX5_carries_17 (hM.1 44 (by decide) (by decide)) (by decide) (by decide) rfl wf_X5_45 (hM.2 13 (by decide)) ?_
  refine X.iload_n dX5_carries_20 rfl ?_
  refine X.iald dX5_carries_21 (hM.1 56 (by decide) (by decide)) (rfl) (hk24) (by decide) ?_
  refine X.iald dX5_carries_22 (hM.1 51 (by decide) (by decide)) (eg) (lg) (by decide) ?_
  refine X.istore_n dX5_carries_23 (Nat.le_of_ble_eq_true rfl) ?_
  refine X.aload_n dX5_carries_24 rfl ?_
  refine X.getR (b := 54) (kf := 11) dX5_carries_25 (hM.1 44 (by decide) (by decide)) (by decide) (by decide) rfl wf_X5_39 (hM.2 11 (by decide)) ?_
  refine X.iload_n dX5_carries_28 rfl ?_
  refine X.iald dX5_carries_29 (hM.1 54 (by decide) (by decide)) (rfl) (hk24) (by decide) ?_
  refine X.iconst (v := 3) dX5_carries_30 (by decide) ?_
  refine X.icmp_ne_t (tgt := 53) dX5_carries_31 (by decide) ((by rw [ec]; exact nI_neq h3 (by omega) (by decide))) ?_
  refine X.aload_n dX5_carries_53 rfl ?_
  refine X.getR (b := 54) (kf := 11) dX5_carries_54 (hM.1 44 (by decide) (by decide)) (by decide) (by decide) rfl wf_X5_39 (hM.2 11 (by decide)) ?_
  refine X.iload_n dX5_carries_57 rfl ?_
  refine X.iald dX5_carries_58 (hM.1 54 (by decide) (by decide)) (rfl) (hk24) (by decide) ?_
  refine X.iconst (v := 1) dX5_carries_59 (by decide) ?_
  refine X.icmp_ne_f (tgt := 100) dX5_carries_60 (by decide) ((by rw [ec, h1]; rfl)) ?_
  refine X.aload_n dX5_carries_63 rfl ?_
  refine X.aload_n dX5_carries_64 rfl ?_
  refine X.getR (b := 55) (kf := 12) dX5_carries_65 (hM.1 44 (by decide) (by decide)) (by decide) (by decide) rfl wf_X5_42 (hM.2 12 (by decide)) ?_
  refine X.iload_n dX5_carries_68 rfl ?_
  refine X.iald dX5_carries_69 (hM.1 55 (by decide) (by decide)) (rfl) (hk24) (by decide) ?_
  refine X.iload_n dX5_carries_70 rfl ?_
  refine X.cV2i (k' := kX5_noPlace) dX5_carries_71 (hM.1 44 (by decide) (by decide)) ⟨by decide, rfl⟩ v_X5_noPlace wm_X5_113 wi_X5_noPlace ws_X5_noPlace ⟨Nat.le_of_ble_eq_true rfl, Nat.le_of_ble_eq_true rfl⟩ n_X5_noPlace (Nat.le_of_ble_eq_true rfl) ?_
  rw [ef]
  refine m_noPlace hM hw lf ?_
  refine ⟨_, rfl, ?_⟩
  refine X.if_ne_t (tgt := 100) dX5_carries_74 (by decide) (nI_neq (b := 0) hp (by have := noPlace_le μ (cf μ k) ((mI μ 51 (cf μ k))); omega) (by decide)) ?_
  refine X.aload_n dX5_carries_100 rfl ?_
  refine X.aload_n dX5_carries_101 rfl ?_
  refine X.getR (b := 55) (kf := 12) dX5_carries_102 (hM.1 44 (by decide) (by decide)) (by decide) (by decide) rfl wf_X5_42 (hM.2 12 (by decide)) ?_
  refine X.iload_n dX5_carries_105 rfl ?_
  refine X.iald dX5_carries_106 (hM.1 55 (by decide) (by decide)) (rfl) (hk24) (by decide) ?_
  refine X.iload_n dX5_carries_107 rfl ?_
  refine X.aload_n dX5_carries_108 rfl ?_
  refine X.getR (b := 56) (kf := 13) dX5_carries_109 (hM.1 44 (by decide) (by decide)) (by decide) (by decide) rfl wf_X5_45 (hM.2 13 (by decide)) ?_
  refine X.iload_n dX5_carries_112 rfl ?_
  refine X.iald dX5_carries_113 (hM.1 56 (by decide) (by decide)) (rfl) (hk24) (by decide) ?_
  refine X.iload_n dX5_carries_114 rfl ?_
  refine X.cV4i (k' := kX5_passes) dX5_carries_115 (hM.1 44 (by decide) (by decide)) ⟨by decide, rfl⟩ v_X5_passes wm_X5_169 wi_X5_passes ws_X5_passes ⟨Nat.le_of_ble_eq_true rfl, Nat.le_of_ble_eq_true rfl⟩ n_X5_passes (Nat.le_of_ble_eq_true rfl) ?_
  rw [ef, eg]
  refine m_passes hM hw lf lg ?_
  rw [show passM μ (cf μ k) (mI μ 51 (cf μ k)) (ct μ k) (mI μ 51 (ct μ k)) = sB μ w from ew]
  refine ⟨_, rfl, ?_⟩
  refine X.istore dX5_carries_118 (Nat.le_of_ble_eq_true rfl) ?_
  refine X.aload_n dX5_carries_120 rfl ?_
  refine X.getR (b := 54) (kf := 11) dX5_carries_121 (hM.1 44 (by decide) (by decide)) (by decide) (by decide) rfl wf_X5_39 (hM.2 11 (by decide)) ?_
  refine X.iload_n dX5_carries_124 rfl ?_
  refine X.iald dX5_carries_125 (hM.1 54 (by decide) (by decide)) (rfl) (hk24) (by decide) ?_
  refine X.iconst (v := 2) dX5_carries_126 (by decide) ?_
  refine X.icmp_ne_t (tgt := 159) dX5_carries_127 (by decide) ((by show ¬ mI μ 54 k = 2; rw [ec, h1]; decide)) ?_
  refine X.iload dX5_carries_159 rfl ?_
  refine X.ret dX5_carries_161 ⟨trivial, ?_⟩
  exact hq
set_option maxRecDepth 100000 in
set_option maxHeartbeats 4000000 in
theorem m_carries3c {k : Nat} {μ : xM} {Q : Option Value → xM → Prop} (hM : ShM μ) (hw : WFt μ) (hcb : WFc μ) (hk : k < qM μ) (h3 : ¬ ck μ k = 3) (hs : ¬ shutM μ k) (h1 : ck μ k = 1) (hp : noPlaceM μ (cf μ k) ((mI μ 51 (cf μ k))) = 0) (hn : ¬ numM μ (tp μ (cf μ k)) (ix ((mI μ 51 (cf μ k)))) = 0) (hq : Q (some (.int (rC (noCarryM μ k)))) (carryM μ k)) : Mt kX5_carries [.ref 44, .int (nI k)] μ Q := by
  obtain ⟨⟨ec, lc⟩, ⟨ef, lf⟩, eg, lg⟩ := hcb.2 k hk
  have hq24 := hcb.1.2
  have hk24 : k < 24 := by omega
  unfold noCarryM carryM at hq
  rw [if_neg h3, if_neg h3, if_neg hs, if_neg hs, if_neg (fun q => by have := q.1; omega), if_neg (fun q => by have := q.1; omega)] at hq
  have hle := noPass_le μ (cf μ k) ((mI μ 51 (cf μ k))) (ct μ k) ((mI μ 51 (ct μ k)))
  unfold rC at hq
  rw [if_neg (by unfold noPass1M; omega)] at hq
  have h2 : True ∨ noPass1M μ k = 0 := Or.inl trivial
  obtain ⟨w, ew⟩ := pass_form μ (cf μ k) ((mI μ 51 (cf μ k))) (ct μ k) ((mI μ 51 (ct μ k)))
  have hw2 : WFt (passM μ (cf μ k) ((mI μ 51 (cf μ k))) (ct μ k) ((mI μ 51 (ct μ k)))) := hw.pass lf lg
  unfold pass1M at hq
  try unfold noPass1M at hq
  unfold noPass1M at h2
  rw [ew] at hq hw2
  obtain ⟨a0, ar, ae, ai⟩ := noPlace_0 hp
  obtain ⟨ht, et⟩ := hw.1 _ lf a0
  refine Mt.enter rfl (Nat.le_of_ble_eq_true rfl) ?_
  refine X.aload_n dX5_carries_0 rfl ?_
  refine X.getR (b := 51) (kf := 7) dX5_carries_1 (hM.1 44 (by decide) (by decide)) (by decide) (by decide) rfl wf_X5_30 (hM.2 7 (by decide)) ?_
  refine X.aload_n dX5_carries_4 rfl ?_
  refine X.getR (b := 55) (kf := 12) dX5_carries_5 (hM.1 44 (by decide) (by decide)) (by decide) (by decide) rfl wf_X5_42 (hM.2 12 (by decide)) ?_
  refine X.iload_n dX5_carries_8 rfl ?_
  refine X.iald dX5_carries_9 (hM.1 55 (by decide) (by decide)) (rfl) (hk24) (by decide) ?_
  refine X.iald dX5_carries_10 (hM.1 51 (by decide) (by decide)) (ef) (lf) (by decide) ?_
  refine X.istore_n dX5_carries_11 (Nat.le_of_ble_eq_true rfl) ?_
  refine X.aload_n dX5_carries_12 rfl ?_
  refine X.getR (b := 51) (kf := 7) dX5_carries_13 (hM.1 44 (by decide) (by decide)) (by decide) (by decide) rfl wf_X5_30 (hM.2 7 (by decide)) ?_
  refine X.aload_n dX5_carries_16 rfl ?_
  refine X.getR (b := 56) (kf := 13) dX5_carries_17 (hM.1 44 (by decide) (by decide)) (by decide) (by decide) rfl wf_X5_45 (hM.2 13 (by decide)) ?_
  refine X.iload_n dX5_carries_20 rfl ?_
  refine X.iald dX5_carries_21 (hM.1 56 (by decide) (by decide)) (rfl) (hk24) (by decide) ?_
  refine X.iald dX5_carries_22 (hM.1 51 (by decide) (by decide)) (eg) (lg) (by decide) ?_
  refine X.istore_n dX5_carries_23 (Nat.le_of_ble_eq_true rfl) ?_
  refine X.aload_n dX5_carries_24 rfl ?_
  refine X.getR (b := 54) (kf := 11) dX5_carries_25 (hM.1 44 (by decide) (by decide)) (by decide) (by decide) rfl wf_X5_39 (hM.2 11 (by decide)) ?_
  refine X.iload_n dX5_carries_28 rfl ?_
  refine X.iald dX5_carries_29 (hM.1 54 (by decide) (by decide)) (rfl) (hk24) (by decide) ?_
  refine X.iconst (v := 3) dX5_carries_30 (by decide) ?_
  refine X.icmp_ne_t (tgt := 53) dX5_carries_31 (by decide) ((by rw [ec]; exact nI_neq h3 (by omega) (by decide))) ?_
  refine X.aload_n dX5_carries_53 rfl ?_
  refine X.getR (b := 54) (kf := 11) dX5_carries_54 (hM.1 44 (by decide) (by decide)) (by decide) (by decide) rfl wf_X5_39 (hM.2 11 (by decide)) ?_
  refine X.iload_n dX5_carries_57 rfl ?_
  refine X.iald dX5_carries_58 (hM.1 54 (by decide) (by decide)) (rfl) (hk24) (by decide) ?_
  refine X.iconst (v := 1) dX5_carries_59 (by decide) ?_
  refine X.icmp_ne_f (tgt := 100) dX5_carries_60 (by decide) ((by rw [ec, h1]; rfl)) ?_
  refine X.aload_n dX5_carries_63 rfl ?_
  refine X.aload_n dX5_carries_64 rfl ?_
  refine X.getR (b := 55) (kf := 12) dX5_carries_65 (hM.1 44 (by decide) (by decide)) (by decide) (by decide) rfl wf_X5_42 (hM.2 12 (by decide)) ?_
  refine X.iload_n dX5_carries_68 rfl ?_
  refine X.iald dX5_carries_69 (hM.1 55 (by decide) (by decide)) (rfl) (hk24) (by decide) ?_
  refine X.iload_n dX5_carries_70 rfl ?_
  refine X.cV2i (k' := kX5_noPlace) dX5_carries_71 (hM.1 44 (by decide) (by decide)) ⟨by decide, rfl⟩ v_X5_noPlace wm_X5_113 wi_X5_noPlace ws_X5_noPlace ⟨Nat.le_of_ble_eq_true rfl, Nat.le_of_ble_eq_true rfl⟩ n_X5_noPlace (Nat.le_of_ble_eq_true rfl) ?_
  rw [ef]
  refine m_noPlace hM hw lf ?_
  refine ⟨_, rfl, ?_⟩
  refine X.if_ne_f (tgt := 100) dX5_carries_74 (by decide) ((by show nI (noPlaceM μ (cf μ k) ((mI μ 51 (cf μ k)))) = 0; rw [hp]; rfl)) ?_
  refine X.aload_n dX5_carries_77 rfl ?_
  refine X.aload_n dX5_carries_78 rfl ?_
  refine X.getR (b := 50) (kf := 6) dX5_carries_79 (hM.1 44 (by decide) (by decide)) (by decide) (by decide) rfl wf_X5_27 (hM.2 6 (by decide)) ?_
  refine X.aload_n dX5_carries_82 rfl ?_
  refine X.getR (b := 55) (kf := 12) dX5_carries_83 (hM.1 44 (by decide) (by decide)) (by decide) (by decide) rfl wf_X5_42 (hM.2 12 (by decide)) ?_
  refine X.iload_n dX5_carries_86 rfl ?_
  refine X.iald dX5_carries_87 (hM.1 55 (by decide) (by decide)) (rfl) (hk24) (by decide) ?_
  refine X.iald dX5_carries_88 (hM.1 50 (by decide) (by decide)) (ef) (lf) (by decide) ?_
  refine X.iload_n dX5_carries_89 rfl ?_
  refine X.cV2l (k' := kX5_numberOf) dX5_carries_90 (hM.1 44 (by decide) (by decide)) ⟨by decide, rfl⟩ v_X5_numberOf wm_X5_165 wi_X5_numberOf ws_X5_numberOf ⟨Nat.le_of_ble_eq_true rfl, Nat.le_of_ble_eq_true rfl⟩ n_X5_numberOf (Nat.le_of_ble_eq_true rfl) ?_
  rw [et]
  refine m_numberOf_i hM hw ht ai ae ?_
  refine ⟨_, rfl, ?_⟩
  refine X.lconst (v := 0) dX5_carries_93 (by decide) ?_
  refine X.lcmp dX5_carries_94 ?_
  refine X.if_ne_t (tgt := 100) dX5_carries_95 (by decide) (lgc_ne hn) ?_
  refine X.aload_n dX5_carries_100 rfl ?_
  refine X.aload_n dX5_carries_101 rfl ?_
  refine X.getR (b := 55) (kf := 12) dX5_carries_102 (hM.1 44 (by decide) (by decide)) (by decide) (by decide) rfl wf_X5_42 (hM.2 12 (by decide)) ?_
  refine X.iload_n dX5_carries_105 rfl ?_
  refine X.iald dX5_carries_106 (hM.1 55 (by decide) (by decide)) (rfl) (hk24) (by decide) ?_
  refine X.iload_n dX5_carries_107 rfl ?_
  refine X.aload_n dX5_carries_108 rfl ?_
  refine X.getR (b := 56) (kf := 13) dX5_carries_109 (hM.1 44 (by decide) (by decide)) (by decide) (by decide) rfl wf_X5_45 (hM.2 13 (by decide)) ?_
  refine X.iload_n dX5_carries_112 rfl ?_
  refine X.iald dX5_carries_113 (hM.1 56 (by decide) (by decide)) (rfl) (hk24) (by decide) ?_
  refine X.iload_n dX5_carries_114 rfl ?_
  refine X.cV4i (k' := kX5_passes) dX5_carries_115 (hM.1 44 (by decide) (by decide)) ⟨by decide, rfl⟩ v_X5_passes wm_X5_169 wi_X5_passes ws_X5_passes ⟨Nat.le_of_ble_eq_true rfl, Nat.le_of_ble_eq_true rfl⟩ n_X5_passes (Nat.le_of_ble_eq_true rfl) ?_
  rw [ef, eg]
  refine m_passes hM hw lf lg ?_
  rw [show passM μ (cf μ k) (mI μ 51 (cf μ k)) (ct μ k) (mI μ 51 (ct μ k)) = sB μ w from ew]
  refine ⟨_, rfl, ?_⟩
  refine X.istore dX5_carries_118 (Nat.le_of_ble_eq_true rfl) ?_
  refine X.aload_n dX5_carries_120 rfl ?_
  refine X.getR (b := 54) (kf := 11) dX5_carries_121 (hM.1 44 (by decide) (by decide)) (by decide) (by decide) rfl wf_X5_39 (hM.2 11 (by decide)) ?_
  refine X.iload_n dX5_carries_124 rfl ?_
  refine X.iald dX5_carries_125 (hM.1 54 (by decide) (by decide)) (rfl) (hk24) (by decide) ?_
  refine X.iconst (v := 2) dX5_carries_126 (by decide) ?_
  refine X.icmp_ne_t (tgt := 159) dX5_carries_127 (by decide) ((by show ¬ mI μ 54 k = 2; rw [ec, h1]; decide)) ?_
  refine X.iload dX5_carries_159 rfl ?_
  refine X.ret dX5_carries_161 ⟨trivial, ?_⟩
  exact hq
theorem m_carries {k : Nat} {μ : xM} {Q : Option Value → xM → Prop} (hM : ShM μ) (hw : WFt μ) (hcb : WFc μ) (hk : k < qM μ) (hq : Q (some (.int (rC (noCarryM μ k)))) (carryM μ k)) : Mt kX5_carries [.ref 44, .int (nI k)] μ Q := by
  by_cases h3 : ck μ k = 3
  · exact m_carries1 hM hw hcb hk h3 hq
  · by_cases hs : shutM μ k
    · exact m_carries2 hM hw hcb hk h3 hs hq
    · by_cases h1 : ck μ k = 1
      · by_cases hp : noPlaceM μ (cf μ k) ((mI μ 51 (cf μ k))) = 0
        · exact m_carries3c hM hw hcb hk h3 hs h1 hp (fun e => hs ⟨h1, hp, e⟩) hq
        · exact m_carries3b hM hw hcb hk h3 hs h1 hp hq
      · by_cases h2 : ck μ k = 2
        · by_cases hz : noPass1M μ k = 0
          · exact m_carries3d hM hw hcb hk h3 hs h1 ⟨h2, hz⟩ hq
          · exact m_carries3e hM hw hcb hk h3 hs h1 h2 hz hq
        · exact m_carries3f hM hw hcb hk h3 hs h1 h2 hq
