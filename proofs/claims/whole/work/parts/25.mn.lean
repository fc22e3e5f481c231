/-! the reference: dub (laid by wip/whole/mkmodele.py) -/
theorem freeM_met (μ : xM) (r : Nat) : freeM (metM μ r) = freeM μ := rfl
theorem cpw_0 (t old kk : Nat) (f base : Nat → Int64) : cpw t old kk 0 f base = base := by
  funext x
  unfold cpw
  rw [if_neg (by omega)]
theorem cpw_sJ (μ : xM) (t old kk i : Nat) (f base : Nat → Int64) : sJ (sB μ (cpw t old kk i f base)) 48 (32 * t + i) (fitM kk (f (32 * old + i))) = sB μ (cpw t old kk (i + 1) f base) := by
  show (mT μ, mI μ, up2 (fun b j => if b = 48 then cpw t old kk i f base j else mJ μ b j) 48 (32 * t + i) (fitM kk (f (32 * old + i))), mR μ, mN μ, mS μ) = (mT μ, mI μ, (fun b j => if b = 48 then cpw t old kk (i + 1) f base j else mJ μ b j), mR μ, mN μ, mS μ)
  congr 3
  funext b j
  show (if b = 48 ∧ j = 32 * t + i then fitM kk (f (32 * old + i)) else (if b = 48 then cpw t old kk i f base j else mJ μ b j)) = (if b = 48 then cpw t old kk (i + 1) f base j else mJ μ b j)
  by_cases h : b = 48
  · rw [if_pos h, if_pos h]
    unfold cpw
    by_cases h2 : j = 32 * t + i
    · rw [if_pos ⟨h, h2⟩, if_pos (by omega), h2, show 32 * t + i - 32 * t = i by omega]
    · rw [if_neg (fun q => h2 q.2)]
      by_cases h3 : 32 * t ≤ j ∧ j < 32 * t + i
      · rw [if_pos h3, if_pos (by omega)]
      · rw [if_neg h3, if_neg (by omega)]
  · rw [if_neg (fun q => h q.1), if_neg h, if_neg h]
theorem sB_id (μ : xM) : sB μ (mJ μ 48) = μ := by
  show (mT μ, mI μ, (fun b j => if b = 48 then mJ μ 48 j else mJ μ b j), mR μ, mN μ, mS μ) = μ
  have e : (fun b j => if b = 48 then mJ μ 48 j else mJ μ b j) = mJ μ := by
    funext b j
    by_cases h : b = 48
    · rw [if_pos h, h]
    · rw [if_neg h]
  rw [e]
  rfl
noncomputable def dubN (μ : xM) (u : Nat → Int32) (b kk : Nat) : xM := newTM (metM μ 0) u kk (sz μ (tp μ b))
noncomputable def dubM (μ : xM) (u : Nat → Int32) (a b kk : Nat) : xM := sI (sB (dubN μ u b kk) (cpw (freeM μ) (tp μ b) kk (sz μ (tp μ b)) (mJ (dubN μ u b kk) 48) (mJ (dubN μ u b kk) 48))) 50 a (nI (freeM μ))
set_option maxRecDepth 100000 in
set_option maxHeartbeats 4000000 in
theorem db1 {a b kk : Nat} {μ : xM} {Q : Option Value → xM → Prop} (hM : ShM μ) (hw : WFt μ) (hb : b < 16) (hkk : kk ≤ 10) (h0 : noTapeM μ b = 0) : ∀ (m k : Nat), k + m = sz μ (tp μ b) → X kX5_dub none 94 (xl [(0, .ref 44), (1, .int (nI a)), (2, .int (nI b)), (3, .int (nI kk)), (4, .int (nI (dbn μ (tp μ b) kk m k))), (5, .int (nI (sz μ (tp μ b))))]) [] μ Q → X kX5_dub none 58 (xl [(0, .ref 44), (1, .int (nI a)), (2, .int (nI b)), (3, .int (nI kk)), (4, .int (nI 0)), (5, .int (nI (sz μ (tp μ b)))), (6, .int (nI k))]) [] μ Q := by
  obtain ⟨ht, et⟩ := hw.1 _ hb h0
  obtain ⟨⟨ek, lk⟩, es, ls⟩ := hw.2.1 _ ht
  intro m
  induction m with
  | zero =>
    intro k hk hq
    obtain rfl : k = sz μ (tp μ b) := by omega
    refine X.iload dX5_dub_58 rfl ?_
    refine X.iload dX5_dub_60 rfl ?_
    refine X.icmp_ge_t (tgt := 94) dX5_dub_62 (by decide) (nI_le (Nat.le_refl _) (by omega)) ?_
    exact X.at [(0, .ref 44), (1, .int (nI a)), (2, .int (nI b)), (3, .int (nI kk)), (4, .int (nI 0)), (5, .int (nI (sz μ (tp μ b))))] ⟨rfl, rfl, rfl, rfl, rfl, rfl, trivial⟩ hq
  | succ m ih =>
    intro k hk hq
    have hi : k < sz μ (tp μ b) := by omega
    have hle := noTake_le kk (cellKindM μ (tp μ b) k)
    unfold dbn at hq
    by_cases hz : noTakeM kk (cellKindM μ (tp μ b) k) = 0
    · rw [if_pos hz] at hq
      refine X.iload dX5_dub_58 rfl ?_
      refine X.iload dX5_dub_60 rfl ?_
      refine X.icmp_ge_f (tgt := 94) dX5_dub_62 (by decide) (nI_ge (a := k) hi (by omega)) ?_
      refine X.iload dX5_dub_65 rfl ?_
      refine X.if_ne_f (tgt := 94) dX5_dub_67 (by decide) ((by decide)) ?_
      refine X.iload_n dX5_dub_70 rfl ?_
      refine X.aload_n dX5_dub_71 rfl ?_
      refine X.aload_n dX5_dub_72 rfl ?_
      refine X.getR (b := 50) (kf := 6) dX5_dub_73 (hM.1 44 (by decide) (by decide)) (by decide) (by decide) rfl wf_X5_27 (hM.2 6 (by decide)) ?_
      refine X.iload_n dX5_dub_76 rfl ?_
      refine X.iald dX5_dub_77 (hM.1 50 (by decide) (by decide)) (rfl) (hb) (by decide) ?_
      refine X.iload dX5_dub_78 rfl ?_
      refine X.cV2i (k' := kX5_cellKind) dX5_dub_80 (hM.1 44 (by decide) (by decide)) ⟨by decide, rfl⟩ v_X5_cellKind wm_X5_130 wi_X5_cellKind ws_X5_cellKind ⟨Nat.le_of_ble_eq_true rfl, Nat.le_of_ble_eq_true rfl⟩ n_X5_cellKind (Nat.le_of_ble_eq_true rfl) ?_
      rw [et]
      refine m_cellKind hM hw ht hi ?_
      refine ⟨_, rfl, ?_⟩
      refine X.cS2i (k' := kX5_noTake) dX5_dub_83 v_X5_noTake wm_X5_117 wt_X5_noTake ⟨Nat.le_of_ble_eq_true rfl, Nat.le_of_ble_eq_true rfl⟩ n_X5_noTake (Nat.le_of_ble_eq_true rfl) ?_
      refine m_noTake hkk (Nat.le_trans cellKind_le (by decide)) ?_
      rw [hz]
      refine ⟨_, rfl, ?_⟩
      refine X.istore dX5_dub_86 (Nat.le_of_ble_eq_true rfl) ?_
      refine X.iinc1 dX5_dub_88 rfl (Nat.le_of_ble_eq_true rfl) ?_
      refine X.goto (tgt := 58) dX5_dub_91 (by decide) ?_
      exact X.at [(0, .ref 44), (1, .int (nI a)), (2, .int (nI b)), (3, .int (nI kk)), (4, .int (nI 0)), (5, .int (nI (sz μ (tp μ b)))), (6, .int (nI (k + 1)))] ⟨rfl, rfl, rfl, rfl, rfl, rfl, iN k, trivial⟩ (ih (k + 1) (by omega) hq)
    · rw [if_neg hz] at hq
      have hend : ∀ k', X kX5_dub none 58 (xl [(0, .ref 44), (1, .int (nI a)), (2, .int (nI b)), (3, .int (nI kk)), (4, .int (nI (noTakeM kk (cellKindM μ (tp μ b) k)))), (5, .int (nI (sz μ (tp μ b)))), (6, .int k')]) [] μ Q := by
        intro k'
        refine X.iload dX5_dub_58 rfl ?_
        refine X.iload dX5_dub_60 rfl ?_
        refine X.icmp_ge (tgt := 94) dX5_dub_62 (by decide) (fun c62 => ?_) (fun c62 => ?_)
        · exact X.at [(0, .ref 44), (1, .int (nI a)), (2, .int (nI b)), (3, .int (nI kk)), (4, .int (nI (noTakeM kk (cellKindM μ (tp μ b) k)))), (5, .int (nI (sz μ (tp μ b))))] ⟨rfl, rfl, rfl, rfl, rfl, rfl, trivial⟩ hq
        · refine X.iload dX5_dub_65 rfl ?_
          refine X.if_ne_t (tgt := 94) dX5_dub_67 (by decide) (nI_neq (b := 0) hz (by omega) (by decide)) ?_
          exact X.at [(0, .ref 44), (1, .int (nI a)), (2, .int (nI b)), (3, .int (nI kk)), (4, .int (nI (noTakeM kk (cellKindM μ (tp μ b) k)))), (5, .int (nI (sz μ (tp μ b))))] ⟨rfl, rfl, rfl, rfl, rfl, rfl, trivial⟩ hq
      refine X.iload dX5_dub_58 rfl ?_
      refine X.iload dX5_dub_60 rfl ?_
      refine X.icmp_ge_f (tgt := 94) dX5_dub_62 (by decide) (nI_ge (a := k) hi (by omega)) ?_
      refine X.iload dX5_dub_65 rfl ?_
      refine X.if_ne_f (tgt := 94) dX5_dub_67 (by decide) ((by decide)) ?_
      refine X.iload_n dX5_dub_70 rfl ?_
      refine X.aload_n dX5_dub_71 rfl ?_
      refine X.aload_n dX5_dub_72 rfl ?_
      refine X.getR (b := 50) (kf := 6) dX5_dub_73 (hM.1 44 (by decide) (by decide)) (by decide) (by decide) rfl wf_X5_27 (hM.2 6 (by decide)) ?_
      refine X.iload_n dX5_dub_76 rfl ?_
      refine X.iald dX5_dub_77 (hM.1 50 (by decide) (by decide)) (rfl) (hb) (by decide) ?_
      refine X.iload dX5_dub_78 rfl ?_
      refine X.cV2i (k' := kX5_cellKind) dX5_dub_80 (hM.1 44 (by decide) (by decide)) ⟨by decide, rfl⟩ v_X5_cellKind wm_X5_130 wi_X5_cellKind ws_X5_cellKind ⟨Nat.le_of_ble_eq_true rfl, Nat.le_of_ble_eq_true rfl⟩ n_X5_cellKind (Nat.le_of_ble_eq_true rfl) ?_
      rw [et]
      refine m_cellKind hM hw ht hi ?_
      refine ⟨_, rfl, ?_⟩
      refine X.cS2i (k' := kX5_noTake) dX5_dub_83 v_X5_noTake wm_X5_117 wt_X5_noTake ⟨Nat.le_of_ble_eq_true rfl, Nat.le_of_ble_eq_true rfl⟩ n_X5_noTake (Nat.le_of_ble_eq_true rfl) ?_
      refine m_noTake hkk (Nat.le_trans cellKind_le (by decide)) ?_
      refine ⟨_, rfl, ?_⟩
      refine X.istore dX5_dub_86 (Nat.le_of_ble_eq_true rfl) ?_
      refine X.iinc1 dX5_dub_88 rfl (Nat.le_of_ble_eq_true rfl) ?_
      refine X.goto (tgt := 58) dX5_dub_91 (by decide) ?_
      exact X.at [(0, .ref 44), (1, .int (nI a)), (2, .int (nI b)), (3, .int (nI kk)), (4, .int (nI (noTakeM kk (cellKindM μ (tp μ b) k)))), (5, .int (nI (sz μ (tp μ b)))), (6, .int (nI k + 1))] ⟨rfl, rfl, rfl, rfl, rfl, rfl, rfl, trivial⟩ (hend _)
set_option maxRecDepth 100000 in
set_option maxHeartbeats 4000000 in
theorem dc1 {a kk t old n : Nat} {ν : xM} {Q : Option Value → xM → Prop} (hM : ShM ν) (ha : a < 16) (hkk : kk ≤ 10) (ht : t < 560) (ho : old < 560) (hto : t ≠ old) (hn : n ≤ 32) (hq : Q (some (.int (nI n))) (sI (sB ν (cpw t old kk n (mJ ν 48) (mJ ν 48))) 50 a (nI t))) : ∀ (m i : Nat), i + m = n → X kX5_dub none 129 (xl [(0, .ref 44), (1, .int (nI a)), (3, .int (nI kk)), (5, .int (nI n)), (6, .int (nI old)), (7, .int (nI t)), (8, .int (nI i))]) [] (sB ν (cpw t old kk i (mJ ν 48) (mJ ν 48))) (fun r μ' => xrok kX5_dub.2.2.2.1 r ∧ Q r μ') := by
  intro m
  induction m with
  | zero =>
    intro i hi
    obtain rfl : i = n := by omega
    refine X.iload dX5_dub_129 rfl ?_
    refine X.iload dX5_dub_131 rfl ?_
    refine X.icmp_ge_t (tgt := 172) dX5_dub_133 (by decide) (nI_le (Nat.le_refl _) (by omega)) ?_
    refine X.aload_n dX5_dub_172 rfl ?_
    refine X.getR (b := 50) (kf := 6) dX5_dub_173 (hM.1 44 (by decide) (by decide)) (by decide) (by decide) rfl wf_X5_27 (hM.2 6 (by decide)) ?_
    refine X.iload_n dX5_dub_176 rfl ?_
    refine X.iload dX5_dub_177 rfl ?_
    refine X.iast dX5_dub_179 (hM.1 50 (by decide) (by decide)) (rfl) (ha) (by decide) ?_
    refine X.iload dX5_dub_180 rfl ?_
    refine X.ret dX5_dub_182 ⟨trivial, ?_⟩
    exact hq
  | succ m ih =>
    intro i hi
    have er : mJ (sB ν (cpw t old kk i (mJ ν 48) (mJ ν 48))) 48 (32 * old + i) = mJ ν 48 (32 * old + i) := by
      show cpw t old kk i (mJ ν 48) (mJ ν 48) (32 * old + i) = _
      unfold cpw
      rw [if_neg (by omega)]
    refine X.iload dX5_dub_129 rfl ?_
    refine X.iload dX5_dub_131 rfl ?_
    refine X.icmp_ge_f (tgt := 172) dX5_dub_133 (by decide) (nI_ge (a := i) (b := n) (by omega) (by omega)) ?_
    refine X.aload_n dX5_dub_136 rfl ?_
    refine X.getR (b := 48) (kf := 3) dX5_dub_137 (hM.1 44 (by decide) (by decide)) (by decide) (by decide) rfl wf_X5_20 (hM.2 3 (by decide)) ?_
    refine X.bipush (v := 32) dX5_dub_140 (by decide) ?_
    refine X.iload dX5_dub_142 rfl ?_
    refine X.imul dX5_dub_144 ?_
    refine X.iload dX5_dub_145 rfl ?_
    refine X.iadd dX5_dub_147 ?_
    refine X.iload_n dX5_dub_148 rfl ?_
    refine X.aload_n dX5_dub_149 rfl ?_
    refine X.getR (b := 48) (kf := 3) dX5_dub_150 (hM.1 44 (by decide) (by decide)) (by decide) (by decide) rfl wf_X5_20 (hM.2 3 (by decide)) ?_
    refine X.bipush (v := 32) dX5_dub_153 (by decide) ?_
    refine X.iload dX5_dub_155 rfl ?_
    refine X.imul dX5_dub_157 ?_
    refine X.iload dX5_dub_158 rfl ?_
    refine X.iadd dX5_dub_160 ?_
    refine X.lald dX5_dub_161 (hM.1 48 (by decide) (by decide)) (at_eq2 old i) (cell_in ho (by omega)) (by decide) ?_
    refine X.cS2l (k' := kX5_kept) dX5_dub_162 v_X5_kept wm_X5_127 wt_X5_kept ⟨Nat.le_of_ble_eq_true rfl, Nat.le_of_ble_eq_true rfl⟩ n_X5_kept (Nat.le_of_ble_eq_true rfl) ?_
    rw [er]
    refine m_kept hkk ?_
    refine ⟨_, rfl, ?_⟩
    refine X.last dX5_dub_165 (hM.1 48 (by decide) (by decide)) (at_eq2 t i) (cell_in ht (by omega)) (by decide) ?_
    refine X.iinc1 dX5_dub_166 rfl (Nat.le_of_ble_eq_true rfl) ?_
    refine X.goto (tgt := 129) dX5_dub_169 (by decide) ?_
    rw [cpw_sJ]
    exact X.at [(0, .ref 44), (1, .int (nI a)), (3, .int (nI kk)), (5, .int (nI n)), (6, .int (nI old)), (7, .int (nI t)), (8, .int (nI (i + 1)))] ⟨rfl, rfl, rfl, rfl, rfl, rfl, iN i, trivial⟩ (ih (i + 1) (by omega))
set_option maxRecDepth 100000 in
set_option maxHeartbeats 4000000 in
theorem m_dub_o1 {c d k : Int32} {μ : xM} {Q : Option Value → xM → Prop} (hc : rng c 16 = none) (hq : Q (some (.int (-1))) (μ)) : Mt kX5_dub [.ref 44, .int (c), .int (d), .int (k)] μ Q := by
  refine Mt.enter rfl (Nat.le_of_ble_eq_true rfl) ?_
  refine X.iload_n dX5_dub_0 rfl ?_
  refine X.cS1i (k' := kX5_isChannel) dX5_dub_1 v_X5_isChannel wm_X5_137 wt_X5_isChannel ⟨Nat.le_of_ble_eq_true rfl, Nat.le_of_ble_eq_true rfl⟩ n_X5_isChannel (Nat.le_of_ble_eq_true rfl) ?_
  refine m_isChannel_f hc ?_
  refine ⟨_, rfl, ?_⟩
  refine X.if_eq_t (tgt := 24) dX5_dub_4 (by decide) ((by decide)) ?_
  refine X.iconst (v := -1) dX5_dub_24 (by decide) ?_
  refine X.ret dX5_dub_25 ⟨trivial, ?_⟩
  exact hq
set_option maxRecDepth 100000 in
set_option maxHeartbeats 4000000 in
theorem m_dub_o2 {a : Nat} {d k : Int32} {μ : xM} {Q : Option Value → xM → Prop} (ha : a < 16) (hd : rng d 16 = none) (hq : Q (some (.int (-1))) (μ)) : Mt kX5_dub [.ref 44, .int (nI a), .int (d), .int (k)] μ Q := by
  refine Mt.enter rfl (Nat.le_of_ble_eq_true rfl) ?_
  refine X.iload_n dX5_dub_0 rfl ?_
  refine X.cS1i (k' := kX5_isChannel) dX5_dub_1 v_X5_isChannel wm_X5_137 wt_X5_isChannel ⟨Nat.le_of_ble_eq_true rfl, Nat.le_of_ble_eq_true rfl⟩ n_X5_isChannel (Nat.le_of_ble_eq_true rfl) ?_
  refine m_isChannel_t (chIn ha) ?_
  refine ⟨_, rfl, ?_⟩
  refine X.if_eq_f (tgt := 24) dX5_dub_4 (by decide) ((by decide)) ?_
  refine X.iload_n dX5_dub_7 rfl ?_
  refine X.cS1i (k' := kX5_isChannel) dX5_dub_8 v_X5_isChannel wm_X5_137 wt_X5_isChannel ⟨Nat.le_of_ble_eq_true rfl, Nat.le_of_ble_eq_true rfl⟩ n_X5_isChannel (Nat.le_of_ble_eq_true rfl) ?_
  refine m_isChannel_f hd ?_
  refine ⟨_, rfl, ?_⟩
  refine X.if_eq_t (tgt := 24) dX5_dub_11 (by decide) ((by decide)) ?_
  refine X.iconst (v := -1) dX5_dub_24 (by decide) ?_
  refine X.ret dX5_dub_25 ⟨trivial, ?_⟩
  exact hq
set_option maxRecDepth 100000 in
set_option maxHeartbeats 4000000 in
theorem m_dub_o3 {a b : Nat} {k : Int32} {μ : xM} {Q : Option Value → xM → Prop} (ha : a < 16) (hb : b < 16) (hk : rng k 11 = none) (hq : Q (some (.int (-1))) (μ)) : Mt kX5_dub [.ref 44, .int (nI a), .int (nI b), .int (k)] μ Q := by
  refine Mt.enter rfl (Nat.le_of_ble_eq_true rfl) ?_
  refine X.iload_n dX5_dub_0 rfl ?_
  refine X.cS1i (k' := kX5_isChannel) dX5_dub_1 v_X5_isChannel wm_X5_137 wt_X5_isChannel ⟨Nat.le_of_ble_eq_true rfl, Nat.le_of_ble_eq_true rfl⟩ n_X5_isChannel (Nat.le_of_ble_eq_true rfl) ?_
  refine m_isChannel_t (chIn ha) ?_
  refine ⟨_, rfl, ?_⟩
  refine X.if_eq_f (tgt := 24) dX5_dub_4 (by decide) ((by decide)) ?_
  refine X.iload_n dX5_dub_7 rfl ?_
  refine X.cS1i (k' := kX5_isChannel) dX5_dub_8 v_X5_isChannel wm_X5_137 wt_X5_isChannel ⟨Nat.le_of_ble_eq_true rfl, Nat.le_of_ble_eq_true rfl⟩ n_X5_isChannel (Nat.le_of_ble_eq_true rfl) ?_
  refine m_isChannel_t (chIn hb) ?_
  refine ⟨_, rfl, ?_⟩
  refine X.if_eq_f (tgt := 24) dX5_dub_11 (by decide) ((by decide)) ?_
  refine X.iload_n dX5_dub_14 rfl ?_
  refine X.iconst (v := 0) dX5_dub_15 (by decide) ?_
  refine X.bipush (v := 10) dX5_dub_16 (by decide) ?_
  refine X.cS3i (k' := kX5_isIn) dX5_dub_18 v_X5_isIn wm_X5_75 wt_X5_isIn ⟨Nat.le_of_ble_eq_true rfl, Nat.le_of_ble_eq_true rfl⟩ n_X5_isIn (Nat.le_of_ble_eq_true rfl) ?_
  refine m_isIn_f (rng_no hk (by decide) rfl) ?_
  refine ⟨_, rfl, ?_⟩
  refine X.if_ne_f (tgt := 26) dX5_dub_21 (by decide) ((by decide)) ?_
  refine X.iconst (v := -1) dX5_dub_24 (by decide) ?_
  refine X.ret dX5_dub_25 ⟨trivial, ?_⟩
  exact hq
set_option maxRecDepth 100000 in
set_option maxHeartbeats 4000000 in
theorem m_dub_r1 {a b k : Nat} {μ : xM} {Q : Option Value → xM → Prop} (hM : ShM μ) (hw : WFt μ) (ha : a < 16) (hb : b < 16) (hk : k ≤ 10) (h0 : ¬ noTapeM μ b = 0) (hq : Q (some (.int (rR (noTapeM μ b)))) (metM μ (noTapeM μ b))) : Mt kX5_dub [.ref 44, .int (nI a), .int (nI b), .int (nI k)] μ Q := by
  refine Mt.enter rfl (Nat.le_of_ble_eq_true rfl) ?_
  refine X.iload_n dX5_dub_0 rfl ?_
  refine X.cS1i (k' := kX5_isChannel) dX5_dub_1 v_X5_isChannel wm_X5_137 wt_X5_isChannel ⟨Nat.le_of_ble_eq_true rfl, Nat.le_of_ble_eq_true rfl⟩ n_X5_isChannel (Nat.le_of_ble_eq_true rfl) ?_
  refine m_isChannel_t (chIn ha) ?_
  refine ⟨_, rfl, ?_⟩
  refine X.if_eq_f (tgt := 24) dX5_dub_4 (by decide) ((by decide)) ?_
  refine X.iload_n dX5_dub_7 rfl ?_
  refine X.cS1i (k' := kX5_isChannel) dX5_dub_8 v_X5_isChannel wm_X5_137 wt_X5_isChannel ⟨Nat.le_of_ble_eq_true rfl, Nat.le_of_ble_eq_true rfl⟩ n_X5_isChannel (Nat.le_of_ble_eq_true rfl) ?_
  refine m_isChannel_t (chIn hb) ?_
  refine ⟨_, rfl, ?_⟩
  refine X.if_eq_f (tgt := 24) dX5_dub_11 (by decide) ((by decide)) ?_
  refine X.iload_n dX5_dub_14 rfl ?_
  refine X.iconst (v := 0) dX5_dub_15 (by decide) ?_
  refine X.bipush (v := 10) dX5_dub_16 (by decide) ?_
  refine X.cS3i (k' := kX5_isIn) dX5_dub_18 v_X5_isIn wm_X5_75 wt_X5_isIn ⟨Nat.le_of_ble_eq_true rfl, Nat.le_of_ble_eq_true rfl⟩ n_X5_isIn (Nat.le_of_ble_eq_true rfl) ?_
  refine m_isIn_t (rng_in (rng_nI (i := k) (n := 11) (by omega) (by decide)) (by decide) rfl) ?_
  refine ⟨_, rfl, ?_⟩
  refine X.if_ne_t (tgt := 26) dX5_dub_21 (by decide) ((by decide)) ?_
  refine X.aload_n dX5_dub_26 rfl ?_
  refine X.iload_n dX5_dub_27 rfl ?_
  refine X.cV1i (k' := kX5_noTape) dX5_dub_28 (hM.1 44 (by decide) (by decide)) ⟨by decide, rfl⟩ v_X5_noTape wm_X5_102 wi_X5_noTape ws_X5_noTape ⟨Nat.le_of_ble_eq_true rfl, Nat.le_of_ble_eq_true rfl⟩ n_X5_noTape (Nat.le_of_ble_eq_true rfl) ?_
  refine m_noTape hM hb ?_
  refine ⟨_, rfl, ?_⟩
  refine X.istore dX5_dub_31 (Nat.le_of_ble_eq_true rfl) ?_
  refine X.iload dX5_dub_33 rfl ?_
  refine X.if_le_f (tgt := 42) dX5_dub_35 (by decide) (fun q => h0 (nI_le0 q (by have := noTapeM_le μ b; omega))) ?_
  refine X.iconst (v := 0) dX5_dub_38 (by decide) ?_
  refine X.goto (tgt := 53) dX5_dub_39 (by decide) ?_
  refine X.istore dX5_dub_53 (Nat.le_of_ble_eq_true rfl) ?_
  refine X.iconst (v := 0) dX5_dub_55 (by decide) ?_
  refine X.istore dX5_dub_56 (Nat.le_of_ble_eq_true rfl) ?_
  refine X.iload dX5_dub_58 rfl ?_
  refine X.iload dX5_dub_60 rfl ?_
  refine X.icmp_ge_t (tgt := 94) dX5_dub_62 (by decide) ((by decide)) ?_
  refine X.aload_n dX5_dub_94 rfl ?_
  refine X.iload dX5_dub_95 rfl ?_
  refine X.cV1i (k' := kX5_met) dX5_dub_97 (hM.1 44 (by decide) (by decide)) ⟨by decide, rfl⟩ v_X5_met wm_X5_141 wi_X5_met ws_X5_met ⟨Nat.le_of_ble_eq_true rfl, Nat.le_of_ble_eq_true rfl⟩ n_X5_met (Nat.le_of_ble_eq_true rfl) ?_
  refine m_met (r := noTapeM μ b) hM (by have := noTapeM_le μ b; omega) ?_
  refine ⟨_, rfl, ?_⟩
  refine X.if_le_f (tgt := 109) dX5_dub_100 (by decide) (fun q => h0 (nI_le0 q (by have := noTapeM_le μ b; omega))) ?_
  refine X.bipush (v := -10) dX5_dub_103 (by decide) ?_
  refine X.iload dX5_dub_105 rfl ?_
  refine X.isub dX5_dub_107 ?_
  refine X.ret dX5_dub_108 ⟨trivial, ?_⟩
  exact hq
set_option maxRecDepth 100000 in
set_option maxHeartbeats 4000000 in
theorem m_dub_r2 {a b k : Nat} {μ : xM} {Q : Option Value → xM → Prop} (hM : ShM μ) (hw : WFt μ) (ha : a < 16) (hb : b < 16) (hk : k ≤ 10) (h0 : noTapeM μ b = 0) (hz : ¬ dbn μ (tp μ b) k (sz μ (tp μ b)) 0 = 0) (hq : Q (some (.int (rR (dbn μ (tp μ b) k (sz μ (tp μ b)) 0)))) (metM μ (dbn μ (tp μ b) k (sz μ (tp μ b)) 0))) : Mt kX5_dub [.ref 44, .int (nI a), .int (nI b), .int (nI k)] μ Q := by
  obtain ⟨ht, et⟩ := hw.1 _ hb h0
  obtain ⟨⟨ek, lk⟩, es, ls⟩ := hw.2.1 _ ht
  have hend : X kX5_dub none 94 (xl [(0, .ref 44), (1, .int (nI a)), (2, .int (nI b)), (3, .int (nI k)), (4, .int (nI (dbn μ (tp μ b) k (sz μ (tp μ b)) 0))), (5, .int (nI (sz μ (tp μ b))))]) [] μ (fun r μ' => xrok kX5_dub.2.2.2.1 r ∧ Q r μ') := by
    have hdl := dbn_lt μ (tp μ b) k (sz μ (tp μ b)) 0
    refine X.aload_n dX5_dub_94 rfl ?_
    refine X.iload dX5_dub_95 rfl ?_
    refine X.cV1i (k' := kX5_met) dX5_dub_97 (hM.1 44 (by decide) (by decide)) ⟨by decide, rfl⟩ v_X5_met wm_X5_141 wi_X5_met ws_X5_met ⟨Nat.le_of_ble_eq_true rfl, Nat.le_of_ble_eq_true rfl⟩ n_X5_met (Nat.le_of_ble_eq_true rfl) ?_
    refine m_met hM hdl ?_
    refine ⟨_, rfl, ?_⟩
    refine X.if_le_f (tgt := 109) dX5_dub_100 (by decide) (fun q => hz (nI_le0 q (by omega))) ?_
    refine X.bipush (v := -10) dX5_dub_103 (by decide) ?_
    refine X.iload dX5_dub_105 rfl ?_
    refine X.isub dX5_dub_107 ?_
    refine X.ret dX5_dub_108 ⟨trivial, ?_⟩
    exact hq
  refine Mt.enter rfl (Nat.le_of_ble_eq_true rfl) ?_
  refine X.iload_n dX5_dub_0 rfl ?_
  refine X.cS1i (k' := kX5_isChannel) dX5_dub_1 v_X5_isChannel wm_X5_137 wt_X5_isChannel ⟨Nat.le_of_ble_eq_true rfl, Nat.le_of_ble_eq_true rfl⟩ n_X5_isChannel (Nat.le_of_ble_eq_true rfl) ?_
  refine m_isChannel_t (chIn ha) ?_
  refine ⟨_, rfl, ?_⟩
  refine X.if_eq_f (tgt := 24) dX5_dub_4 (by decide) ((by decide)) ?_
  refine X.iload_n dX5_dub_7 rfl ?_
  refine X.cS1i (k' := kX5_isChannel) dX5_dub_8 v_X5_isChannel wm_X5_137 wt_X5_isChannel ⟨Nat.le_of_ble_eq_true rfl, Nat.le_of_ble_eq_true rfl⟩ n_X5_isChannel (Nat.le_of_ble_eq_true rfl) ?_
  refine m_isChannel_t (chIn hb) ?_
  refine ⟨_, rfl, ?_⟩
  refine X.if_eq_f (tgt := 24) dX5_dub_11 (by decide) ((by decide)) ?_
  refine X.iload_n dX5_dub_14 rfl ?_
  refine X.iconst (v := 0) dX5_dub_15 (by decide) ?_
  refine X.bipush (v := 10) dX5_dub_16 (by decide) ?_
  refine X.cS3i (k' := kX5_isIn) dX5_dub_18 v_X5_isIn wm_X5_75 wt_X5_isIn ⟨Nat.le_of_ble_eq_true rfl, Nat.le_of_ble_eq_true rfl⟩ n_X5_isIn (Nat.le_of_ble_eq_true rfl) ?_
  refine m_isIn_t (rng_in (rng_nI (i := k) (n := 11) (by omega) (by decide)) (by decide) rfl) ?_
  refine ⟨_, rfl, ?_⟩
  refine X.if_ne_t (tgt := 26) dX5_dub_21 (by decide) ((by decide)) ?_
  refine X.aload_n dX5_dub_26 rfl ?_
  refine X.iload_n dX5_dub_27 rfl ?_
  refine X.cV1i (k' := kX5_noTape) dX5_dub_28 (hM.1 44 (by decide) (by decide)) ⟨by decide, rfl⟩ v_X5_noTape wm_X5_102 wi_X5_noTape ws_X5_noTape ⟨Nat.le_of_ble_eq_true rfl, Nat.le_of_ble_eq_true rfl⟩ n_X5_noTape (Nat.le_of_ble_eq_true rfl) ?_
  refine m_noTape hM hb ?_
  refine ⟨_, rfl, ?_⟩
  refine X.istore dX5_dub_31 (Nat.le_of_ble_eq_true rfl) ?_
  refine X.iload dX5_dub_33 rfl ?_
  refine X.if_le_t (tgt := 42) dX5_dub_35 (by decide) ((by rw [h0]; decide)) ?_
  refine X.aload_n dX5_dub_42 rfl ?_
  refine X.getR (b := 46) (kf := 1) dX5_dub_43 (hM.1 44 (by decide) (by decide)) (by decide) (by decide) rfl wf_X5_13 (hM.2 1 (by decide)) ?_
  refine X.aload_n dX5_dub_46 rfl ?_
  refine X.getR (b := 50) (kf := 6) dX5_dub_47 (hM.1 44 (by decide) (by decide)) (by decide) (by decide) rfl wf_X5_27 (hM.2 6 (by decide)) ?_
  refine X.iload_n dX5_dub_50 rfl ?_
  refine X.iald dX5_dub_51 (hM.1 50 (by decide) (by decide)) (rfl) (hb) (by decide) ?_
  refine X.iald dX5_dub_52 (hM.1 46 (by decide) (by decide)) (et) (ht) (by decide) ?_
  refine X.istore dX5_dub_53 (Nat.le_of_ble_eq_true rfl) ?_
  refine X.iconst (v := 0) dX5_dub_55 (by decide) ?_
  refine X.istore dX5_dub_56 (Nat.le_of_ble_eq_true rfl) ?_
  exact X.at [(0, .ref 44), (1, .int (nI a)), (2, .int (nI b)), (3, .int (nI k)), (4, .int (nI 0)), (5, .int (nI (sz μ (tp μ b)))), (6, .int (nI 0))] ⟨rfl, rfl, rfl, rfl, congrArg (fun x => some (Value.int (nI x))) h0, congrArg (fun x => some (Value.int x)) es, rfl, trivial⟩ (db1 hM hw hb hk h0 (sz μ (tp μ b)) 0 (Nat.zero_add _) hend)
set_option maxRecDepth 100000 in
set_option maxHeartbeats 4000000 in
theorem m_dub_in {a b k : Nat} {μ : xM} {Q : Option Value → xM → Prop} (hM : ShM μ) (hw : WFt μ) (ha : a < 16) (hb : b < 16) (hk : k ≤ 10) (h0 : noTapeM μ b = 0) (hz : dbn μ (tp μ b) k (sz μ (tp μ b)) 0 = 0) (hq : ∀ u, Q (some (.int (nI (sz μ (tp μ b))))) (dubM μ u a b k)) : Mt kX5_dub [.ref 44, .int (nI a), .int (nI b), .int (nI k)] μ Q := by
  obtain ⟨ht, et⟩ := hw.1 _ hb h0
  obtain ⟨⟨ek, lk⟩, es, ls⟩ := hw.2.1 _ ht
  have hw2 : WFt (metM μ 0) := hw
  obtain ⟨hf1, hf2, -⟩ := freeM_ok hw2
  have hne : freeM (metM μ 0) ≠ tp μ b := fun e => hf2 ⟨b, hb, h0, Or.inl e.symm⟩
  have hend : X kX5_dub none 94 (xl [(0, .ref 44), (1, .int (nI a)), (2, .int (nI b)), (3, .int (nI k)), (4, .int (nI (dbn μ (tp μ b) k (sz μ (tp μ b)) 0))), (5, .int (nI (sz μ (tp μ b))))]) [] μ (fun r μ' => xrok kX5_dub.2.2.2.1 r ∧ Q r μ') := by
    rw [hz]
    refine X.aload_n dX5_dub_94 rfl ?_
    refine X.iload dX5_dub_95 rfl ?_
    refine X.cV1i (k' := kX5_met) dX5_dub_97 (hM.1 44 (by decide) (by decide)) ⟨by decide, rfl⟩ v_X5_met wm_X5_141 wi_X5_met ws_X5_met ⟨Nat.le_of_ble_eq_true rfl, Nat.le_of_ble_eq_true rfl⟩ n_X5_met (Nat.le_of_ble_eq_true rfl) ?_
    refine m_met (r := 0) hM (by decide) ?_
    refine ⟨_, rfl, ?_⟩
    refine X.if_le_t (tgt := 109) dX5_dub_100 (by decide) ((by decide)) ?_
    refine X.aload_n dX5_dub_109 rfl ?_
    refine X.getR (b := 50) (kf := 6) dX5_dub_110 (hM.1 44 (by decide) (by decide)) (by decide) (by decide) rfl wf_X5_27 (hM.2 6 (by decide)) ?_
    refine X.iload_n dX5_dub_113 rfl ?_
    refine X.iald dX5_dub_114 (hM.1 50 (by decide) (by decide)) (rfl) (hb) (by decide) ?_
    refine X.istore dX5_dub_115 (Nat.le_of_ble_eq_true rfl) ?_
    refine X.aload_n dX5_dub_117 rfl ?_
    refine X.iload_n dX5_dub_118 rfl ?_
    refine X.iload dX5_dub_119 rfl ?_
    refine X.cV2i (k' := kX5_newTape) dX5_dub_121 (hM.1 44 (by decide) (by decide)) ⟨by decide, rfl⟩ v_X5_newTape wm_X5_144 wi_X5_newTape ws_X5_newTape ⟨Nat.le_of_ble_eq_true rfl, Nat.le_of_ble_eq_true rfl⟩ n_X5_newTape (Nat.le_of_ble_eq_true rfl) ?_
    refine m_newTape (μ := metM μ 0) hM hw2 ls (fun u => ?_)
    refine ⟨_, rfl, ?_⟩
    refine X.istore dX5_dub_124 (Nat.le_of_ble_eq_true rfl) ?_
    refine X.iconst (v := 0) dX5_dub_126 (by decide) ?_
    refine X.istore dX5_dub_127 (Nat.le_of_ble_eq_true rfl) ?_
    have hfin := dc1 (ν := dubN μ u b k) (t := freeM (metM μ 0)) (old := tp μ b) (Q := Q) hM ha hk hf1 ht hne ls (hq u) (sz μ (tp μ b)) 0 (Nat.zero_add _)
    rw [cpw_0, sB_id] at hfin
    exact X.at [(0, .ref 44), (1, .int (nI a)), (3, .int (nI k)), (5, .int (nI (sz μ (tp μ b)))), (6, .int (nI (tp μ b))), (7, .int (nI (freeM (metM μ 0)))), (8, .int (nI 0))] ⟨rfl, rfl, rfl, rfl, congrArg (fun x => some (Value.int x)) et, rfl, rfl, trivial⟩ hfin
  refine Mt.enter rfl (Nat.le_of_ble_eq_true rfl) ?_
  refine X.iload_n dX5_dub_0 rfl ?_
  refine X.cS1i (k' := kX5_isChannel) dX5_dub_1 v_X5_isChannel wm_X5_137 wt_X5_isChannel ⟨Nat.le_of_ble_eq_true rfl, Nat.le_of_ble_eq_true rfl⟩ n_X5_isChannel (Nat.le_of_ble_eq_true rfl) ?_
  refine m_isChannel_t (chIn ha) ?_
  refine ⟨_, rfl, ?_⟩
  refine X.if_eq_f (tgt := 24) dX5_dub_4 (by decide) ((by decide)) ?_
  refine X.iload_n dX5_dub_7 rfl ?_
  refine X.cS1i (k' := kX5_isChannel) dX5_dub_8 v_X5_isChannel wm_X5_137 wt_X5_isChannel ⟨Nat.le_of_ble_eq_true rfl, Nat.le_of_ble_eq_true rfl⟩ n_X5_isChannel (Nat.le_of_ble_eq_true rfl) ?_
  refine m_isChannel_t (chIn hb) ?_
  refine ⟨_, rfl, ?_⟩
  refine X.if_eq_f (tgt := 24) dX5_dub_11 (by decide) ((by decide)) ?_
  refine X.iload_n dX5_dub_14 rfl ?_
  refine X.iconst (v := 0) dX5_dub_15 (by decide) ?_
  refine X.bipush (v := 10) dX5_dub_16 (by decide) ?_
  refine X.cS3i (k' := kX5_isIn) dX5_dub_18 v_X5_isIn wm_X5_75 wt_X5_isIn ⟨Nat.le_of_ble_eq_true rfl, Nat.le_of_ble_eq_true rfl⟩ n_X5_isIn (Nat.le_of_ble_eq_true rfl) ?_
  refine m_isIn_t (rng_in (rng_nI (i := k) (n := 11) (by omega) (by decide)) (by decide) rfl) ?_
  refine ⟨_, rfl, ?_⟩
  refine X.if_ne_t (tgt := 26) dX5_dub_21 (by decide) ((by decide)) ?_
  refine X.aload_n dX5_dub_26 rfl ?_
  refine X.iload_n dX5_dub_27 rfl ?_
  refine X.cV1i (k' := kX5_noTape) dX5_dub_28 (hM.1 44 (by decide) (by decide)) ⟨by decide, rfl⟩ v_X5_noTape wm_X5_102 wi_X5_noTape ws_X5_noTape ⟨Nat.le_of_ble_eq_true rfl, Nat.le_of_ble_eq_true rfl⟩ n_X5_noTape (Nat.le_of_ble_eq_true rfl) ?_
  refine m_noTape hM hb ?_
  refine ⟨_, rfl, ?_⟩
  refine X.istore dX5_dub_31 (Nat.le_of_ble_eq_true rfl) ?_
  refine X.iload dX5_dub_33 rfl ?_
  refine X.if_le_t (tgt := 42) dX5_dub_35 (by decide) ((by rw [h0]; decide)) ?_
  refine X.aload_n dX5_dub_42 rfl ?_
  refine X.getR (b := 46) (kf := 1) dX5_dub_43 (hM.1 44 (by decide) (by decide)) (by decide) (by decide) rfl wf_X5_13 (hM.2 1 (by decide)) ?_
  refine X.aload_n dX5_dub_46 rfl ?_
  refine X.getR (b := 50) (kf := 6) dX5_dub_47 (hM.1 44 (by decide) (by decide)) (by decide) (by decide) rfl wf_X5_27 (hM.2 6 (by decide)) ?_
  refine X.iload_n dX5_dub_50 rfl ?_
  refine X.iald dX5_dub_51 (hM.1 50 (by decide) (by decide)) (rfl) (hb) (by decide) ?_
  refine X.iald dX5_dub_52 (hM.1 46 (by decide) (by decide)) (et) (ht) (by decide) ?_
  refine X.istore dX5_dub_53 (Nat.le_of_ble_eq_true rfl) ?_
  refine X.iconst (v := 0) dX5_dub_55 (by decide) ?_
  refine X.istore dX5_dub_56 (Nat.le_of_ble_eq_true rfl) ?_
  exact X.at [(0, .ref 44), (1, .int (nI a)), (2, .int (nI b)), (3, .int (nI k)), (4, .int (nI 0)), (5, .int (nI (sz μ (tp μ b)))), (6, .int (nI 0))] ⟨rfl, rfl, rfl, rfl, congrArg (fun x => some (Value.int (nI x))) h0, congrArg (fun x => some (Value.int x)) es, rfl, trivial⟩ (db1 hM hw hb hk h0 (sz μ (tp μ b)) 0 (Nat.zero_add _) hend)
