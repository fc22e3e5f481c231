/-! the reference: splice, sum, match, dub (laid by wip/whole/mkmodeld.py) -/
/-- cells passed one by one: how many, what is against the next, the memory -/
def spl (a b : Nat) (i j : Int32) : Nat → Nat → xM → Nat × Nat × xM
  | 0, d, μ => (d, 0, μ)
  | n + 1, d, μ => if noPassM μ a (i + nI d) b (j + nI d) = 0 then spl a b i j n (d + 1) (passM μ a (i + nI d) b (j + nI d)) else (d, noPassM μ a (i + nI d) b (j + nI d), passM μ a (i + nI d) b (j + nI d))
def sumM (μ : xM) (t : Nat) : Nat → Int64
  | 0 => 0
  | k + 1 => sumM μ t k + numM μ t k
def mtc (μ : xM) (t t' : Nat) : Nat → Nat → Nat
  | 0, k => k
  | n + 1, k => if k < sz μ t ∧ k < sz μ t' ∧ numM μ t k = numM μ t' k then mtc μ t t' n (k + 1) else k
def dbn (μ : xM) (t kk : Nat) : Nat → Nat → Nat
  | 0, _ => 0
  | n + 1, k => if noTakeM kk (cellKindM μ t k) = 0 then dbn μ t kk n (k + 1) else noTakeM kk (cellKindM μ t k)
def cpw (t old kk i : Nat) (f : Nat → Int64) (base : Nat → Int64) : Nat → Int64 := fun x => if 32 * t ≤ x ∧ x < 32 * t + i then fitM kk (f (32 * old + (x - 32 * t))) else base x
theorem spl_lt (a b : Nat) (i j : Int32) : ∀ (n d : Nat) (μ : xM), (spl a b i j n d μ).2.1 < 6
  | 0, d, μ => (show (0 : Nat) < 6 by decide)
  | n + 1, d, μ => by
    unfold spl
    split
    · exact spl_lt a b i j n (d + 1) _
    · exact noPass_le _ _ _ _ _
theorem dbn_lt (μ : xM) (t kk : Nat) : ∀ (n k : Nat), dbn μ t kk n k < 6
  | 0, k => (show (0 : Nat) < 6 by decide)
  | n + 1, k => by
    unfold dbn
    split
    · exact dbn_lt μ t kk n (k + 1)
    · exact noTake_le _ _
set_option maxRecDepth 100000 in
set_option maxHeartbeats 4000000 in
theorem sp1 {a b n : Nat} {i j : Int32} {Q : Option Value → xM → Prop} (ha : a < 16) (hb : b < 16) (hn : n ≤ 32) : ∀ (m d : Nat) (μ : xM), ShM μ → WFt μ → d + m = n → Q (some (.int (nI (spl a b i j m d μ).1))) (metM (spl a b i j m d μ).2.2 (spl a b i j m d μ).2.1) → X kX5_splice none 33 (xl [(0, .ref 44), (1, .int (nI a)), (2, .int i), (3, .int (nI b)), (4, .int j), (5, .int (nI n)), (6, .int (nI d)), (7, .int (nI 0))]) [] μ (fun r μ' => xrok kX5_splice.2.2.2.1 r ∧ Q r μ') := by
  intro m
  induction m with
  | zero =>
    intro d μ hM hw hd hq
    obtain rfl : d = n := by omega
    refine X.iload dX5_splice_33 rfl ?_
    refine X.iload dX5_splice_35 rfl ?_
    refine X.icmp_ge_t (tgt := 81) dX5_splice_37 (by decide) (nI_le (Nat.le_refl _) (by omega)) ?_
    refine X.aload_n dX5_splice_81 rfl ?_
    refine X.iload dX5_splice_82 rfl ?_
    refine X.cV1i (k' := kX5_met) dX5_splice_84 (hM.1 44 (by decide) (by decide)) ⟨by decide, rfl⟩ v_X5_met wm_X5_141 wi_X5_met ws_X5_met ⟨Nat.le_of_ble_eq_true rfl, Nat.le_of_ble_eq_true rfl⟩ n_X5_met (Nat.le_of_ble_eq_true rfl) ?_
    refine m_met (r := 0) hM (by decide) ?_
    refine ⟨_, rfl, ?_⟩
    refine X.istore dX5_splice_87 (Nat.le_of_ble_eq_true rfl) ?_
    refine X.iload dX5_splice_89 rfl ?_
    refine X.ret dX5_splice_91 ⟨trivial, ?_⟩
    exact hq
  | succ m ih =>
    intro d μ hM hw hd hq
    have hle := noPass_le μ a (i + nI d) b (j + nI d)
    have hw2 := hw.pass (i := i + nI d) (j := j + nI d) ha hb
    obtain ⟨w, ew⟩ := pass_form μ a (i + nI d) b (j + nI d)
    unfold spl at hq
    by_cases hz : noPassM μ a (i + nI d) b (j + nI d) = 0
    · rw [if_pos hz, ew] at hq
      rw [ew] at hw2
      refine X.iload dX5_splice_33 rfl ?_
      refine X.iload dX5_splice_35 rfl ?_
      refine X.icmp_ge_f (tgt := 81) dX5_splice_37 (by decide) (nI_ge (a := d) (b := n) (by omega) (by omega)) ?_
      refine X.iload dX5_splice_40 rfl ?_
      refine X.if_ne_f (tgt := 81) dX5_splice_42 (by decide) ((by decide)) ?_
      refine X.aload_n dX5_splice_45 rfl ?_
      refine X.iload_n dX5_splice_46 rfl ?_
      refine X.iload_n dX5_splice_47 rfl ?_
      refine X.iload dX5_splice_48 rfl ?_
      refine X.iadd dX5_splice_50 ?_
      refine X.iload_n dX5_splice_51 rfl ?_
      refine X.iload dX5_splice_52 rfl ?_
      refine X.iload dX5_splice_54 rfl ?_
      refine X.iadd dX5_splice_56 ?_
      refine X.cV4i (k' := kX5_passes) dX5_splice_57 (hM.1 44 (by decide) (by decide)) ⟨by decide, rfl⟩ v_X5_passes wm_X5_169 wi_X5_passes ws_X5_passes ⟨Nat.le_of_ble_eq_true rfl, Nat.le_of_ble_eq_true rfl⟩ n_X5_passes (Nat.le_of_ble_eq_true rfl) ?_
      refine m_passes hM hw ha hb ?_
      rw [ew, hz]
      refine ⟨_, rfl, ?_⟩
      refine X.istore dX5_splice_60 (Nat.le_of_ble_eq_true rfl) ?_
      refine X.iload dX5_splice_62 rfl ?_
      refine X.if_ne_f (tgt := 74) dX5_splice_64 (by decide) ((by decide)) ?_
      refine X.iload dX5_splice_67 rfl ?_
      refine X.iconst (v := 1) dX5_splice_69 (by decide) ?_
      refine X.iadd dX5_splice_70 ?_
      refine X.goto (tgt := 76) dX5_splice_71 (by decide) ?_
      refine X.istore dX5_splice_76 (Nat.le_of_ble_eq_true rfl) ?_
      refine X.goto (tgt := 33) dX5_splice_78 (by decide) ?_
      exact X.at [(0, .ref 44), (1, .int (nI a)), (2, .int i), (3, .int (nI b)), (4, .int j), (5, .int (nI n)), (6, .int (nI (d + 1))), (7, .int (nI 0))] ⟨rfl, rfl, rfl, rfl, rfl, rfl, iN d, rfl, trivial⟩ (ih (d + 1) (sB μ w) hM hw2 (by omega) hq)
    · rw [if_neg hz, ew] at hq
      have hz3 := hz
      generalize hr : noPassM μ a (i + nI d) b (j + nI d) = r at hz3 hq hle
      refine X.iload dX5_splice_33 rfl ?_
      refine X.iload dX5_splice_35 rfl ?_
      refine X.icmp_ge_f (tgt := 81) dX5_splice_37 (by decide) (nI_ge (a := d) (b := n) (by omega) (by omega)) ?_
      refine X.iload dX5_splice_40 rfl ?_
      refine X.if_ne_f (tgt := 81) dX5_splice_42 (by decide) ((by decide)) ?_
      refine X.aload_n dX5_splice_45 rfl ?_
      refine X.iload_n dX5_splice_46 rfl ?_
      refine X.iload_n dX5_splice_47 rfl ?_
      refine X.iload dX5_splice_48 rfl ?_
      refine X.iadd dX5_splice_50 ?_
      refine X.iload_n dX5_splice_51 rfl ?_
      refine X.iload dX5_splice_52 rfl ?_
      refine X.iload dX5_splice_54 rfl ?_
      refine X.iadd dX5_splice_56 ?_
      refine X.cV4i (k' := kX5_passes) dX5_splice_57 (hM.1 44 (by decide) (by decide)) ⟨by decide, rfl⟩ v_X5_passes wm_X5_169 wi_X5_passes ws_X5_passes ⟨Nat.le_of_ble_eq_true rfl, Nat.le_of_ble_eq_true rfl⟩ n_X5_passes (Nat.le_of_ble_eq_true rfl) ?_
      refine m_passes hM hw ha hb ?_
      rw [ew, hr]
      refine ⟨_, rfl, ?_⟩
      refine X.istore dX5_splice_60 (Nat.le_of_ble_eq_true rfl) ?_
      refine X.iload dX5_splice_62 rfl ?_
      refine X.if_ne_t (tgt := 74) dX5_splice_64 (by decide) (nI_neq (b := 0) hz3 (by omega) (by decide)) ?_
      refine X.iload dX5_splice_74 rfl ?_
      refine X.istore dX5_splice_76 (Nat.le_of_ble_eq_true rfl) ?_
      refine X.goto (tgt := 33) dX5_splice_78 (by decide) ?_
      refine X.iload dX5_splice_33 rfl ?_
      refine X.iload dX5_splice_35 rfl ?_
      refine X.icmp_ge_f (tgt := 81) dX5_splice_37 (by decide) (nI_ge (a := d) (b := n) (by omega) (by omega)) ?_
      refine X.iload dX5_splice_40 rfl ?_
      refine X.if_ne_t (tgt := 81) dX5_splice_42 (by decide) (nI_neq (b := 0) hz3 (by omega) (by decide)) ?_
      refine X.aload_n dX5_splice_81 rfl ?_
      refine X.iload dX5_splice_82 rfl ?_
      refine X.cV1i (k' := kX5_met) dX5_splice_84 (hM.1 44 (by decide) (by decide)) ⟨by decide, rfl⟩ v_X5_met wm_X5_141 wi_X5_met ws_X5_met ⟨Nat.le_of_ble_eq_true rfl, Nat.le_of_ble_eq_true rfl⟩ n_X5_met (Nat.le_of_ble_eq_true rfl) ?_
      refine m_met (μ := sB μ w) (r := r) hM hle ?_
      refine ⟨_, rfl, ?_⟩
      refine X.istore dX5_splice_87 (Nat.le_of_ble_eq_true rfl) ?_
      refine X.iload dX5_splice_89 rfl ?_
      refine X.ret dX5_splice_91 ⟨trivial, ?_⟩
      exact hq
set_option maxRecDepth 100000 in
set_option maxHeartbeats 4000000 in
theorem m_splice_o1 {c i d j n : Int32} {μ : xM} {Q : Option Value → xM → Prop} (hc : rng c 16 = none) (hq : Q (some (.int (-1))) (μ)) : Mt kX5_splice [.ref 44, .int (c), .int (i), .int (d), .int (j), .int (n)] μ Q := by
  refine Mt.enter rfl (Nat.le_of_ble_eq_true rfl) ?_
  refine X.iload_n dX5_splice_0 rfl ?_
  refine X.cS1i (k' := kX5_isChannel) dX5_splice_1 v_X5_isChannel wm_X5_137 wt_X5_isChannel ⟨Nat.le_of_ble_eq_true rfl, Nat.le_of_ble_eq_true rfl⟩ n_X5_isChannel (Nat.le_of_ble_eq_true rfl) ?_
  refine m_isChannel_f hc ?_
  refine ⟨_, rfl, ?_⟩
  refine X.if_eq_t (tgt := 25) dX5_splice_4 (by decide) ((by decide)) ?_
  refine X.iconst (v := -1) dX5_splice_25 (by decide) ?_
  refine X.ret dX5_splice_26 ⟨trivial, ?_⟩
  exact hq
set_option maxRecDepth 100000 in
set_option maxHeartbeats 4000000 in
theorem m_splice_o2 {a : Nat} {i d j n : Int32} {μ : xM} {Q : Option Value → xM → Prop} (ha : a < 16) (hd : rng d 16 = none) (hq : Q (some (.int (-1))) (μ)) : Mt kX5_splice [.ref 44, .int (nI a), .int (i), .int (d), .int (j), .int (n)] μ Q := by
  refine Mt.enter rfl (Nat.le_of_ble_eq_true rfl) ?_
  refine X.iload_n dX5_splice_0 rfl ?_
  refine X.cS1i (k' := kX5_isChannel) dX5_splice_1 v_X5_isChannel wm_X5_137 wt_X5_isChannel ⟨Nat.le_of_ble_eq_true rfl, Nat.le_of_ble_eq_true rfl⟩ n_X5_isChannel (Nat.le_of_ble_eq_true rfl) ?_
  refine m_isChannel_t (chIn ha) ?_
  refine ⟨_, rfl, ?_⟩
  refine X.if_eq_f (tgt := 25) dX5_splice_4 (by decide) ((by decide)) ?_
  refine X.iload_n dX5_splice_7 rfl ?_
  refine X.cS1i (k' := kX5_isChannel) dX5_splice_8 v_X5_isChannel wm_X5_137 wt_X5_isChannel ⟨Nat.le_of_ble_eq_true rfl, Nat.le_of_ble_eq_true rfl⟩ n_X5_isChannel (Nat.le_of_ble_eq_true rfl) ?_
  refine m_isChannel_f hd ?_
  refine ⟨_, rfl, ?_⟩
  refine X.if_eq_t (tgt := 25) dX5_splice_11 (by decide) ((by decide)) ?_
  refine X.iconst (v := -1) dX5_splice_25 (by decide) ?_
  refine X.ret dX5_splice_26 ⟨trivial, ?_⟩
  exact hq
set_option maxRecDepth 100000 in
set_option maxHeartbeats 4000000 in
theorem m_splice_o3 {a b : Nat} {i j n : Int32} {μ : xM} {Q : Option Value → xM → Prop} (ha : a < 16) (hb : b < 16) (hn : rng n 33 = none) (hq : Q (some (.int (-1))) (μ)) : Mt kX5_splice [.ref 44, .int (nI a), .int (i), .int (nI b), .int (j), .int (n)] μ Q := by
  refine Mt.enter rfl (Nat.le_of_ble_eq_true rfl) ?_
  refine X.iload_n dX5_splice_0 rfl ?_
  refine X.cS1i (k' := kX5_isChannel) dX5_splice_1 v_X5_isChannel wm_X5_137 wt_X5_isChannel ⟨Nat.le_of_ble_eq_true rfl, Nat.le_of_ble_eq_true rfl⟩ n_X5_isChannel (Nat.le_of_ble_eq_true rfl) ?_
  refine m_isChannel_t (chIn ha) ?_
  refine ⟨_, rfl, ?_⟩
  refine X.if_eq_f (tgt := 25) dX5_splice_4 (by decide) ((by decide)) ?_
  refine X.iload_n dX5_splice_7 rfl ?_
  refine X.cS1i (k' := kX5_isChannel) dX5_splice_8 v_X5_isChannel wm_X5_137 wt_X5_isChannel ⟨Nat.le_of_ble_eq_true rfl, Nat.le_of_ble_eq_true rfl⟩ n_X5_isChannel (Nat.le_of_ble_eq_true rfl) ?_
  refine m_isChannel_t (chIn hb) ?_
  refine ⟨_, rfl, ?_⟩
  refine X.if_eq_f (tgt := 25) dX5_splice_11 (by decide) ((by decide)) ?_
  refine X.iload dX5_splice_14 rfl ?_
  refine X.iconst (v := 0) dX5_splice_16 (by decide) ?_
  refine X.bipush (v := 32) dX5_splice_17 (by decide) ?_
  refine X.cS3i (k' := kX5_isIn) dX5_splice_19 v_X5_isIn wm_X5_75 wt_X5_isIn ⟨Nat.le_of_ble_eq_true rfl, Nat.le_of_ble_eq_true rfl⟩ n_X5_isIn (Nat.le_of_ble_eq_true rfl) ?_
  refine m_isIn_f (rng_no hn (by decide) rfl) ?_
  refine ⟨_, rfl, ?_⟩
  refine X.if_ne_f (tgt := 27) dX5_splice_22 (by decide) ((by decide)) ?_
  refine X.iconst (v := -1) dX5_splice_25 (by decide) ?_
  refine X.ret dX5_splice_26 ⟨trivial, ?_⟩
  exact hq
set_option maxRecDepth 100000 in
set_option maxHeartbeats 4000000 in
theorem m_splice_in {a b n : Nat} {i j : Int32} {μ : xM} {Q : Option Value → xM → Prop} (hM : ShM μ) (hw : WFt μ) (ha : a < 16) (hb : b < 16) (hn : n ≤ 32) (hq : Q (some (.int (nI (spl a b i j n 0 μ).1))) (metM (spl a b i j n 0 μ).2.2 (spl a b i j n 0 μ).2.1)) : Mt kX5_splice [.ref 44, .int (nI a), .int i, .int (nI b), .int j, .int (nI n)] μ Q := by
  refine Mt.enter rfl (Nat.le_of_ble_eq_true rfl) ?_
  refine X.iload_n dX5_splice_0 rfl ?_
  refine X.cS1i (k' := kX5_isChannel) dX5_splice_1 v_X5_isChannel wm_X5_137 wt_X5_isChannel ⟨Nat.le_of_ble_eq_true rfl, Nat.le_of_ble_eq_true rfl⟩ n_X5_isChannel (Nat.le_of_ble_eq_true rfl) ?_
  refine m_isChannel_t (chIn ha) ?_
  refine ⟨_, rfl, ?_⟩
  refine X.if_eq_f (tgt := 25) dX5_splice_4 (by decide) ((by decide)) ?_
  refine X.iload_n dX5_splice_7 rfl ?_
  refine X.cS1i (k' := kX5_isChannel) dX5_splice_8 v_X5_isChannel wm_X5_137 wt_X5_isChannel ⟨Nat.le_of_ble_eq_true rfl, Nat.le_of_ble_eq_true rfl⟩ n_X5_isChannel (Nat.le_of_ble_eq_true rfl) ?_
  refine m_isChannel_t (chIn hb) ?_
  refine ⟨_, rfl, ?_⟩
  refine X.if_eq_f (tgt := 25) dX5_splice_11 (by decide) ((by decide)) ?_
  refine X.iload dX5_splice_14 rfl ?_
  refine X.iconst (v := 0) dX5_splice_16 (by decide) ?_
  refine X.bipush (v := 32) dX5_splice_17 (by decide) ?_
  refine X.cS3i (k' := kX5_isIn) dX5_splice_19 v_X5_isIn wm_X5_75 wt_X5_isIn ⟨Nat.le_of_ble_eq_true rfl, Nat.le_of_ble_eq_true rfl⟩ n_X5_isIn (Nat.le_of_ble_eq_true rfl) ?_
  refine m_isIn_t (rng_in (rng_nI (i := n) (n := 33) (by omega) (by decide)) (by decide) rfl) ?_
  refine ⟨_, rfl, ?_⟩
  refine X.if_ne_t (tgt := 27) dX5_splice_22 (by decide) ((by decide)) ?_
  refine X.iconst (v := 0) dX5_splice_27 (by decide) ?_
  refine X.istore dX5_splice_28 (Nat.le_of_ble_eq_true rfl) ?_
  refine X.iconst (v := 0) dX5_splice_30 (by decide) ?_
  refine X.istore dX5_splice_31 (Nat.le_of_ble_eq_true rfl) ?_
  exact X.at [(0, .ref 44), (1, .int (nI a)), (2, .int i), (3, .int (nI b)), (4, .int j), (5, .int (nI n)), (6, .int (nI 0)), (7, .int (nI 0))] ⟨rfl, rfl, rfl, rfl, rfl, rfl, rfl, rfl, trivial⟩ (sp1 ha hb hn n 0 μ hM hw (by omega) hq)
set_option maxRecDepth 100000 in
set_option maxHeartbeats 4000000 in
theorem su1 {a : Nat} {μ : xM} {Q : Option Value → xM → Prop} (hM : ShM μ) (hw : WFt μ) (ha : a < 16) (h0 : noTapeM μ a = 0) (hq : Q (some (.long (sumM μ (tp μ a) (sz μ (tp μ a))))) μ) : ∀ (m k : Nat), k + m = sz μ (tp μ a) → X kX5_sum none 26 (xl [(0, .ref 44), (1, .int (nI a)), (2, .long (sumM μ (tp μ a) k)), (4, .int (nI k))]) [] μ (fun r μ' => xrok kX5_sum.2.2.2.1 r ∧ Q r μ') := by
  obtain ⟨ht, et⟩ := hw.1 _ ha h0
  obtain ⟨⟨ek, lk⟩, es, ls⟩ := hw.2.1 _ ht
  intro m
  induction m with
  | zero =>
    intro k hk
    obtain rfl : k = sz μ (tp μ a) := by omega
    refine X.iload dX5_sum_26 rfl ?_
    refine X.aload_n dX5_sum_28 rfl ?_
    refine X.getR (b := 46) (kf := 1) dX5_sum_29 (hM.1 44 (by decide) (by decide)) (by decide) (by decide) rfl wf_X5_13 (hM.2 1 (by decide)) ?_
    refine X.aload_n dX5_sum_32 rfl ?_
    refine X.getR (b := 50) (kf := 6) dX5_sum_33 (hM.1 44 (by decide) (by decide)) (by decide) (by decide) rfl wf_X5_27 (hM.2 6 (by decide)) ?_
    refine X.iload_n dX5_sum_36 rfl ?_
    refine X.iald dX5_sum_37 (hM.1 50 (by decide) (by decide)) (rfl) (ha) (by decide) ?_
    refine X.iald dX5_sum_38 (hM.1 46 (by decide) (by decide)) (et) (ht) (by decide) ?_
    refine X.icmp_ge_t (tgt := 63) dX5_sum_39 (by decide) ((by rw [es]; exact nI_le (Nat.le_refl _) (by omega))) ?_
    refine X.lload_n dX5_sum_63 rfl ?_
    refine X.ret dX5_sum_64 ⟨trivial, ?_⟩
    exact hq
  | succ m ih =>
    intro k hk
    have hi : k < sz μ (tp μ a) := by omega
    refine X.iload dX5_sum_26 rfl ?_
    refine X.aload_n dX5_sum_28 rfl ?_
    refine X.getR (b := 46) (kf := 1) dX5_sum_29 (hM.1 44 (by decide) (by decide)) (by decide) (by decide) rfl wf_X5_13 (hM.2 1 (by decide)) ?_
    refine X.aload_n dX5_sum_32 rfl ?_
    refine X.getR (b := 50) (kf := 6) dX5_sum_33 (hM.1 44 (by decide) (by decide)) (by decide) (by decide) rfl wf_X5_27 (hM.2 6 (by decide)) ?_
    refine X.iload_n dX5_sum_36 rfl ?_
    refine X.iald dX5_sum_37 (hM.1 50 (by decide) (by decide)) (rfl) (ha) (by decide) ?_
    refine X.iald dX5_sum_38 (hM.1 46 (by decide) (by decide)) (et) (ht) (by decide) ?_
    refine X.icmp_ge_f (tgt := 63) dX5_sum_39 (by decide) ((by rw [es]; exact nI_ge (a := k) (by omega) (by omega))) ?_
    refine X.lload_n dX5_sum_42 rfl ?_
    refine X.aload_n dX5_sum_43 rfl ?_
    refine X.aload_n dX5_sum_44 rfl ?_
    refine X.getR (b := 50) (kf := 6) dX5_sum_45 (hM.1 44 (by decide) (by decide)) (by decide) (by decide) rfl wf_X5_27 (hM.2 6 (by decide)) ?_
    refine X.iload_n dX5_sum_48 rfl ?_
    refine X.iald dX5_sum_49 (hM.1 50 (by decide) (by decide)) (rfl) (ha) (by decide) ?_
    refine X.iload dX5_sum_50 rfl ?_
    refine X.cV2l (k' := kX5_numberOf) dX5_sum_52 (hM.1 44 (by decide) (by decide)) ⟨by decide, rfl⟩ v_X5_numberOf wm_X5_165 wi_X5_numberOf ws_X5_numberOf ⟨Nat.le_of_ble_eq_true rfl, Nat.le_of_ble_eq_true rfl⟩ n_X5_numberOf (Nat.le_of_ble_eq_true rfl) ?_
    rw [et]
    refine m_numberOf hM hw ht hi ?_
    refine ⟨_, rfl, ?_⟩
    refine X.ladd dX5_sum_55 ?_
    refine X.lstore_n dX5_sum_56 (Nat.le_of_ble_eq_true rfl) ?_
    refine X.iinc1 dX5_sum_57 rfl (Nat.le_of_ble_eq_true rfl) ?_
    refine X.goto (tgt := 26) dX5_sum_60 (by decide) ?_
    exact X.at [(0, .ref 44), (1, .int (nI a)), (2, .long (sumM μ (tp μ a) (k + 1))), (4, .int (nI (k + 1)))] ⟨rfl, rfl, rfl, iN k, trivial⟩ (ih (k + 1) (by omega))
set_option maxRecDepth 100000 in
set_option maxHeartbeats 4000000 in
theorem m_sum_o {c : Int32} {μ : xM} {Q : Option Value → xM → Prop} (hc : rng c 16 = none) (hq : Q (some (.long (0))) (μ)) : Mt kX5_sum [.ref 44, .int (c)] μ Q := by
  refine Mt.enter rfl (Nat.le_of_ble_eq_true rfl) ?_
  refine X.iload_n dX5_sum_0 rfl ?_
  refine X.cS1i (k' := kX5_isChannel) dX5_sum_1 v_X5_isChannel wm_X5_137 wt_X5_isChannel ⟨Nat.le_of_ble_eq_true rfl, Nat.le_of_ble_eq_true rfl⟩ n_X5_isChannel (Nat.le_of_ble_eq_true rfl) ?_
  refine m_isChannel_f hc ?_
  refine ⟨_, rfl, ?_⟩
  refine X.if_eq_t (tgt := 19) dX5_sum_4 (by decide) ((by decide)) ?_
  refine X.lconst (v := 0) dX5_sum_19 (by decide) ?_
  refine X.ret dX5_sum_20 ⟨trivial, ?_⟩
  exact hq
set_option maxRecDepth 100000 in
set_option maxHeartbeats 4000000 in
theorem m_sum_r {a : Nat} {μ : xM} {Q : Option Value → xM → Prop} (hM : ShM μ) (hw : WFt μ) (ha : a < 16) (h0 : ¬ noTapeM μ a = 0) (hq : Q (some (.long (0))) (metM μ (noTapeM μ a))) : Mt kX5_sum [.ref 44, .int (nI a)] μ Q := by
  refine Mt.enter rfl (Nat.le_of_ble_eq_true rfl) ?_
  refine X.iload_n dX5_sum_0 rfl ?_
  refine X.cS1i (k' := kX5_isChannel) dX5_sum_1 v_X5_isChannel wm_X5_137 wt_X5_isChannel ⟨Nat.le_of_ble_eq_true rfl, Nat.le_of_ble_eq_true rfl⟩ n_X5_isChannel (Nat.le_of_ble_eq_true rfl) ?_
  refine m_isChannel_t (chIn ha) ?_
  refine ⟨_, rfl, ?_⟩
  refine X.if_eq_f (tgt := 19) dX5_sum_4 (by decide) ((by decide)) ?_
  refine X.aload_n dX5_sum_7 rfl ?_
  refine X.aload_n dX5_sum_8 rfl ?_
  refine X.iload_n dX5_sum_9 rfl ?_
  refine X.cV1i (k' := kX5_noTape) dX5_sum_10 (hM.1 44 (by decide) (by decide)) ⟨by decide, rfl⟩ v_X5_noTape wm_X5_102 wi_X5_noTape ws_X5_noTape ⟨Nat.le_of_ble_eq_true rfl, Nat.le_of_ble_eq_true rfl⟩ n_X5_noTape (Nat.le_of_ble_eq_true rfl) ?_
  refine m_noTape hM ha ?_
  refine ⟨_, rfl, ?_⟩
  refine X.cV1i (k' := kX5_met) dX5_sum_13 (hM.1 44 (by decide) (by decide)) ⟨by decide, rfl⟩ v_X5_met wm_X5_141 wi_X5_met ws_X5_met ⟨Nat.le_of_ble_eq_true rfl, Nat.le_of_ble_eq_true rfl⟩ n_X5_met (Nat.le_of_ble_eq_true rfl) ?_
  refine m_met (r := noTapeM μ a) hM (by have := noTapeM_le μ a; omega) ?_
  refine ⟨_, rfl, ?_⟩
  refine X.if_le_f (tgt := 21) dX5_sum_16 (by decide) (fun q => h0 (nI_le0 q (by have := noTapeM_le μ a; omega))) ?_
  refine X.lconst (v := 0) dX5_sum_19 (by decide) ?_
  refine X.ret dX5_sum_20 ⟨trivial, ?_⟩
  exact hq
theorem sumM_met (μ : xM) (r t : Nat) : ∀ n, sumM (metM μ r) t n = sumM μ t n
  | 0 => rfl
  | n + 1 => by rw [sumM, sumM, sumM_met μ r t n]; rfl
set_option maxRecDepth 100000 in
set_option maxHeartbeats 4000000 in
theorem m_sum_in {a : Nat} {μ : xM} {Q : Option Value → xM → Prop} (hM : ShM μ) (hw : WFt μ) (ha : a < 16) (h0 : noTapeM μ a = 0) (hq : Q (some (.long (sumM μ (tp μ a) (sz μ (tp μ a))))) (metM μ 0)) : Mt kX5_sum [.ref 44, .int (nI a)] μ Q := by
  refine Mt.enter rfl (Nat.le_of_ble_eq_true rfl) ?_
  refine X.iload_n dX5_sum_0 rfl ?_
  refine X.cS1i (k' := kX5_isChannel) dX5_sum_1 v_X5_isChannel wm_X5_137 wt_X5_isChannel ⟨Nat.le_of_ble_eq_true rfl, Nat.le_of_ble_eq_true rfl⟩ n_X5_isChannel (Nat.le_of_ble_eq_true rfl) ?_
  refine m_isChannel_t (chIn ha) ?_
  refine ⟨_, rfl, ?_⟩
  refine X.if_eq_f (tgt := 19) dX5_sum_4 (by decide) ((by decide)) ?_
  refine X.aload_n dX5_sum_7 rfl ?_
  refine X.aload_n dX5_sum_8 rfl ?_
  refine X.iload_n dX5_sum_9 rfl ?_
  refine X.cV1i (k' := kX5_noTape) dX5_sum_10 (hM.1 44 (by decide) (by decide)) ⟨by decide, rfl⟩ v_X5_noTape wm_X5_102 wi_X5_noTape ws_X5_noTape ⟨Nat.le_of_ble_eq_true rfl, Nat.le_of_ble_eq_true rfl⟩ n_X5_noTape (Nat.le_of_ble_eq_true rfl) ?_
  refine m_noTape hM ha ?_
  refine ⟨_, rfl, ?_⟩
  refine X.cV1i (k' := kX5_met) dX5_sum_13 (hM.1 44 (by decide) (by decide)) ⟨by decide, rfl⟩ v_X5_met wm_X5_141 wi_X5_met ws_X5_met ⟨Nat.le_of_ble_eq_true rfl, Nat.le_of_ble_eq_true rfl⟩ n_X5_met (Nat.le_of_ble_eq_true rfl) ?_
  refine m_met (r := noTapeM μ a) hM (by have := noTapeM_le μ a; omega) ?_
  rw [h0]
  refine ⟨_, rfl, ?_⟩
  refine X.if_le_t (tgt := 21) dX5_sum_16 (by decide) ((by decide)) ?_
  refine X.lconst (v := 0) dX5_sum_21 (by decide) ?_
  refine X.lstore_n dX5_sum_22 (Nat.le_of_ble_eq_true rfl) ?_
  refine X.iconst (v := 0) dX5_sum_23 (by decide) ?_
  refine X.istore dX5_sum_24 (Nat.le_of_ble_eq_true rfl) ?_
  exact X.at [(0, .ref 44), (1, .int (nI a)), (2, .long 0), (4, .int (nI 0))] ⟨rfl, rfl, rfl, rfl, trivial⟩ (su1 (μ := metM μ 0) hM hw ha h0 (by rw [sumM_met]; exact hq) (sz μ (tp μ a)) 0 (Nat.zero_add _))
set_option maxRecDepth 100000 in
set_option maxHeartbeats 4000000 in
theorem m_match_o1 {c d : Int32} {μ : xM} {Q : Option Value → xM → Prop} (hc : rng c 16 = none) (hq : Q (some (.int (-101))) (μ)) : Mt kX5_match [.ref 44, .int (c), .int (d)] μ Q := by
  refine Mt.enter rfl (Nat.le_of_ble_eq_true rfl) ?_
  refine X.iload_n dX5_match_0 rfl ?_
  refine X.cS1i (k' := kX5_isChannel) dX5_match_1 v_X5_isChannel wm_X5_137 wt_X5_isChannel ⟨Nat.le_of_ble_eq_true rfl, Nat.le_of_ble_eq_true rfl⟩ n_X5_isChannel (Nat.le_of_ble_eq_true rfl) ?_
  refine m_isChannel_f hc ?_
  refine ⟨_, rfl, ?_⟩
  refine X.if_eq_t (tgt := 14) dX5_match_4 (by decide) ((by decide)) ?_
  refine X.bipush (v := -101) dX5_match_14 (by decide) ?_
  refine X.ret dX5_match_16 ⟨trivial, ?_⟩
  exact hq
set_option maxRecDepth 100000 in
set_option maxHeartbeats 4000000 in
theorem m_match_o2 {a : Nat} {d : Int32} {μ : xM} {Q : Option Value → xM → Prop} (ha : a < 16) (hd : rng d 16 = none) (hq : Q (some (.int (-101))) (μ)) : Mt kX5_match [.ref 44, .int (nI a), .int (d)] μ Q := by
  refine Mt.enter rfl (Nat.le_of_ble_eq_true rfl) ?_
  refine X.iload_n dX5_match_0 rfl ?_
  refine X.cS1i (k' := kX5_isChannel) dX5_match_1 v_X5_isChannel wm_X5_137 wt_X5_isChannel ⟨Nat.le_of_ble_eq_true rfl, Nat.le_of_ble_eq_true rfl⟩ n_X5_isChannel (Nat.le_of_ble_eq_true rfl) ?_
  refine m_isChannel_t (chIn ha) ?_
  refine ⟨_, rfl, ?_⟩
  refine X.if_eq_f (tgt := 14) dX5_match_4 (by decide) ((by decide)) ?_
  refine X.iload_n dX5_match_7 rfl ?_
  refine X.cS1i (k' := kX5_isChannel) dX5_match_8 v_X5_isChannel wm_X5_137 wt_X5_isChannel ⟨Nat.le_of_ble_eq_true rfl, Nat.le_of_ble_eq_true rfl⟩ n_X5_isChannel (Nat.le_of_ble_eq_true rfl) ?_
  refine m_isChannel_f hd ?_
  refine ⟨_, rfl, ?_⟩
  refine X.if_ne_f (tgt := 17) dX5_match_11 (by decide) ((by decide)) ?_
  refine X.bipush (v := -101) dX5_match_14 (by decide) ?_
  refine X.ret dX5_match_16 ⟨trivial, ?_⟩
  exact hq
set_option maxRecDepth 100000 in
set_option maxHeartbeats 4000000 in
theorem m_match_r1 {a b : Nat} {μ : xM} {Q : Option Value → xM → Prop} (hM : ShM μ) (hw : WFt μ) (ha : a < 16) (hb : b < 16) (h0 : ¬ noTapeM μ a = 0) (hq : Q (some (.int (-110 - nI (noTapeM μ a)))) (metM μ (noTapeM μ a))) : Mt kX5_match [.ref 44, .int (nI a), .int (nI b)] μ Q := by
  refine Mt.enter rfl (Nat.le_of_ble_eq_true rfl) ?_
  refine X.iload_n dX5_match_0 rfl ?_
  refine X.cS1i (k' := kX5_isChannel) dX5_match_1 v_X5_isChannel wm_X5_137 wt_X5_isChannel ⟨Nat.le_of_ble_eq_true rfl, Nat.le_of_ble_eq_true rfl⟩ n_X5_isChannel (Nat.le_of_ble_eq_true rfl) ?_
  refine m_isChannel_t (chIn ha) ?_
  refine ⟨_, rfl, ?_⟩
  refine X.if_eq_f (tgt := 14) dX5_match_4 (by decide) ((by decide)) ?_
  refine X.iload_n dX5_match_7 rfl ?_
  refine X.cS1i (k' := kX5_isChannel) dX5_match_8 v_X5_isChannel wm_X5_137 wt_X5_isChannel ⟨Nat.le_of_ble_eq_true rfl, Nat.le_of_ble_eq_true rfl⟩ n_X5_isChannel (Nat.le_of_ble_eq_true rfl) ?_
  refine m_isChannel_t (chIn hb) ?_
  refine ⟨_, rfl, ?_⟩
  refine X.if_ne_t (tgt := 17) dX5_match_11 (by decide) ((by decide)) ?_
  refine X.aload_n dX5_match_17 rfl ?_
  refine X.iload_n dX5_match_18 rfl ?_
  refine X.cV1i (k' := kX5_noTape) dX5_match_19 (hM.1 44 (by decide) (by decide)) ⟨by decide, rfl⟩ v_X5_noTape wm_X5_102 wi_X5_noTape ws_X5_noTape ⟨Nat.le_of_ble_eq_true rfl, Nat.le_of_ble_eq_true rfl⟩ n_X5_noTape (Nat.le_of_ble_eq_true rfl) ?_
  refine m_noTape hM ha ?_
  refine ⟨_, rfl, ?_⟩
  refine X.istore_n dX5_match_22 (Nat.le_of_ble_eq_true rfl) ?_
  refine X.aload_n dX5_match_23 rfl ?_
  refine X.iload_n dX5_match_24 rfl ?_
  refine X.if_le_f (tgt := 32) dX5_match_25 (by decide) (fun q => h0 (nI_le0 q (by have := noTapeM_le μ a; omega))) ?_
  refine X.iload_n dX5_match_28 rfl ?_
  refine X.goto (tgt := 37) dX5_match_29 (by decide) ?_
  refine X.cV1i (k' := kX5_met) dX5_match_37 (hM.1 44 (by decide) (by decide)) ⟨by decide, rfl⟩ v_X5_met wm_X5_141 wi_X5_met ws_X5_met ⟨Nat.le_of_ble_eq_true rfl, Nat.le_of_ble_eq_true rfl⟩ n_X5_met (Nat.le_of_ble_eq_true rfl) ?_
  refine m_met (r := noTapeM μ a) hM (by have := noTapeM_le μ a; omega) ?_
  refine ⟨_, rfl, ?_⟩
  refine X.istore_n dX5_match_40 (Nat.le_of_ble_eq_true rfl) ?_
  refine X.iload_n dX5_match_41 rfl ?_
  refine X.if_le_f (tgt := 50) dX5_match_42 (by decide) (fun q => h0 (nI_le0 q (by have := noTapeM_le μ a; omega))) ?_
  refine X.bipush (v := -110) dX5_match_45 (by decide) ?_
  refine X.iload_n dX5_match_47 rfl ?_
  refine X.isub dX5_match_48 ?_
  refine X.ret dX5_match_49 ⟨trivial, ?_⟩
  exact hq
set_option maxRecDepth 100000 in
set_option maxHeartbeats 4000000 in
theorem m_match_r2 {a b : Nat} {μ : xM} {Q : Option Value → xM → Prop} (hM : ShM μ) (hw : WFt μ) (ha : a < 16) (hb : b < 16) (h0 : noTapeM μ a = 0) (h1 : ¬ noTapeM μ b = 0) (hq : Q (some (.int (-110 - nI (noTapeM μ b)))) (metM μ (noTapeM μ b))) : Mt kX5_match [.ref 44, .int (nI a), .int (nI b)] μ Q := by
  refine Mt.enter rfl (Nat.le_of_ble_eq_true rfl) ?_
  refine X.iload_n dX5_match_0 rfl ?_
  refine X.cS1i (k' := kX5_isChannel) dX5_match_1 v_X5_isChannel wm_X5_137 wt_X5_isChannel ⟨Nat.le_of_ble_eq_true rfl, Nat.le_of_ble_eq_true rfl⟩ n_X5_isChannel (Nat.le_of_ble_eq_true rfl) ?_
  refine m_isChannel_t (chIn ha) ?_
  refine ⟨_, rfl, ?_⟩
  refine X.if_eq_f (tgt := 14) dX5_match_4 (by decide) ((by decide)) ?_
  refine X.iload_n dX5_match_7 rfl ?_
  refine X.cS1i (k' := kX5_isChannel) dX5_match_8 v_X5_isChannel wm_X5_137 wt_X5_isChannel ⟨Nat.le_of_ble_eq_true rfl, Nat.le_of_ble_eq_true rfl⟩ n_X5_isChannel (Nat.le_of_ble_eq_true rfl) ?_
  refine m_isChannel_t (chIn hb) ?_
  refine ⟨_, rfl, ?_⟩
  refine X.if_ne_t (tgt := 17) dX5_match_11 (by decide) ((by decide)) ?_
  refine X.aload_n dX5_match_17 rfl ?_
  refine X.iload_n dX5_match_18 rfl ?_
  refine X.cV1i (k' := kX5_noTape) dX5_match_19 (hM.1 44 (by decide) (by decide)) ⟨by decide, rfl⟩ v_X5_noTape wm_X5_102 wi_X5_noTape ws_X5_noTape ⟨Nat.le_of_ble_eq_true rfl, Nat.le_of_ble_eq_true rfl⟩ n_X5_noTape (Nat.le_of_ble_eq_true rfl) ?_
  refine m_noTape hM ha ?_
  refine ⟨_, rfl, ?_⟩
  refine X.istore_n dX5_match_22 (Nat.le_of_ble_eq_true rfl) ?_
  refine X.aload_n dX5_match_23 rfl ?_
  refine X.iload_n dX5_match_24 rfl ?_
  refine X.if_le_t (tgt := 32) dX5_match_25 (by decide) ((by rw [h0]; decide)) ?_
  refine X.aload_n dX5_match_32 rfl ?_
  refine X.iload_n dX5_match_33 rfl ?_
  refine X.cV1i (k' := kX5_noTape) dX5_match_34 (hM.1 44 (by decide) (by decide)) ⟨by decide, rfl⟩ v_X5_noTape wm_X5_102 wi_X5_noTape ws_X5_noTape ⟨Nat.le_of_ble_eq_true rfl, Nat.le_of_ble_eq_true rfl⟩ n_X5_noTape (Nat.le_of_ble_eq_true rfl) ?_
  refine m_noTape hM hb ?_
  refine ⟨_, rfl, ?_⟩
  refine X.cV1i (k' := kX5_met) dX5_match_37 (hM.1 44 (by decide) (by decide)) ⟨by decide, rfl⟩ v_X5_met wm_X5_141 wi_X5_met ws_X5_met ⟨Nat.le_of_ble_eq_true rfl, Nat.le_of_ble_eq_true rfl⟩ n_X5_met (Nat.le_of_ble_eq_true rfl) ?_
  refine m_met (r := noTapeM μ b) hM (by have := noTapeM_le μ b; omega) ?_
  refine ⟨_, rfl, ?_⟩
  refine X.istore_n dX5_match_40 (Nat.le_of_ble_eq_true rfl) ?_
  refine X.iload_n dX5_match_41 rfl ?_
  refine X.if_le_f (tgt := 50) dX5_match_42 (by decide) (fun q => h1 (nI_le0 q (by have := noTapeM_le μ b; omega))) ?_
  refine X.bipush (v := -110) dX5_match_45 (by decide) ?_
  refine X.iload_n dX5_match_47 rfl ?_
  refine X.isub dX5_match_48 ?_
  refine X.ret dX5_match_49 ⟨trivial, ?_⟩
  exact hq
def mtR (μ : xM) (t t' k : Nat) : Int32 := if k = sz μ t ∧ k = sz μ t' then -1 - nI (sz μ t) else nI k
theorem numM_met (μ : xM) (r t k : Nat) : numM (metM μ r) t k = numM μ t k := rfl
theorem mtc_met (μ : xM) (r t t' : Nat) : ∀ n k, mtc (metM μ r) t t' n k = mtc μ t t' n k
  | 0, k => rfl
  | n + 1, k => by
    unfold mtc
    rw [mtc_met μ r t t' n (k + 1)]
    rfl
set_option maxRecDepth 100000 in
set_option maxHeartbeats 4000000 in
theorem ma1 {a b : Nat} {μ : xM} {Q : Option Value → xM → Prop} (hM : ShM μ) (hw : WFt μ) (ha : a < 16) (hb : b < 16) (h0 : noTapeM μ a = 0) (h1 : noTapeM μ b = 0) : ∀ (m k : Nat), k + m = 33 → k ≤ sz μ (tp μ a) → k ≤ sz μ (tp μ b) → Q (some (.int (mtR μ (tp μ a) (tp μ b) (mtc μ (tp μ a) (tp μ b) m k)))) μ → X kX5_match none 79 (xl [(0, .ref 44), (1, .int (nI a)), (2, .int (nI b)), (4, .int (nI (sz μ (tp μ a)))), (5, .int (nI (sz μ (tp μ b)))), (6, .int (nI k))]) [] μ (fun r μ' => xrok kX5_match.2.2.2.1 r ∧ Q r μ') := by
  obtain ⟨ht, et⟩ := hw.1 _ ha h0
  obtain ⟨⟨ek, lk⟩, es, ls⟩ := hw.2.1 _ ht
  obtain ⟨hu, eu⟩ := hw.1 _ hb h1
  obtain ⟨⟨ek2, lk2⟩, es2, ls2⟩ := hw.2.1 _ hu
  intro m
  induction m with
  | zero => intro k hk; omega
  | succ m ih =>
    intro k hk hka hkb hq
    unfold mtc at hq
    by_cases hc : k < sz μ (tp μ a) ∧ k < sz μ (tp μ b) ∧ numM μ (tp μ a) k = numM μ (tp μ b) k
    · rw [if_pos hc] at hq
      obtain ⟨ca, cb, cn⟩ := hc
      refine X.iload dX5_match_79 rfl ?_
      refine X.iload dX5_match_81 rfl ?_
      refine X.icmp_ge_f (tgt := 127) dX5_match_83 (by decide) (nI_ge ca (by omega)) ?_
      refine X.iload dX5_match_86 rfl ?_
      refine X.iload dX5_match_88 rfl ?_
      refine X.icmp_ge_f (tgt := 127) dX5_match_90 (by decide) (nI_ge cb (by omega)) ?_
      refine X.aload_n dX5_match_93 rfl ?_
      refine X.aload_n dX5_match_94 rfl ?_
      refine X.getR (b := 50) (kf := 6) dX5_match_95 (hM.1 44 (by decide) (by decide)) (by decide) (by decide) rfl wf_X5_27 (hM.2 6 (by decide)) ?_
      refine X.iload_n dX5_match_98 rfl ?_
      refine X.iald dX5_match_99 (hM.1 50 (by decide) (by decide)) (rfl) (ha) (by decide) ?_
      refine X.iload dX5_match_100 rfl ?_
      refine X.cV2l (k' := kX5_numberOf) dX5_match_102 (hM.1 44 (by decide) (by decide)) ⟨by decide, rfl⟩ v_X5_numberOf wm_X5_165 wi_X5_numberOf ws_X5_numberOf ⟨Nat.le_of_ble_eq_true rfl, Nat.le_of_ble_eq_true rfl⟩ n_X5_numberOf (Nat.le_of_ble_eq_true rfl) ?_
      rw [et]
      refine m_numberOf hM hw ht ca ?_
      refine ⟨_, rfl, ?_⟩
      refine X.aload_n dX5_match_105 rfl ?_
      refine X.aload_n dX5_match_106 rfl ?_
      refine X.getR (b := 50) (kf := 6) dX5_match_107 (hM.1 44 (by decide) (by decide)) (by decide) (by decide) rfl wf_X5_27 (hM.2 6 (by decide)) ?_
      refine X.iload_n dX5_match_110 rfl ?_
      refine X.iald dX5_match_111 (hM.1 50 (by decide) (by decide)) (rfl) (hb) (by decide) ?_
      refine X.iload dX5_match_112 rfl ?_
      refine X.cV2l (k' := kX5_numberOf) dX5_match_114 (hM.1 44 (by decide) (by decide)) ⟨by decide, rfl⟩ v_X5_numberOf wm_X5_165 wi_X5_numberOf ws_X5_numberOf ⟨Nat.le_of_ble_eq_true rfl, Nat.le_of_ble_eq_true rfl⟩ n_X5_numberOf (Nat.le_of_ble_eq_true rfl) ?_
      rw [eu]
      refine m_numberOf hM hw hu cb ?_
      refine ⟨_, rfl, ?_⟩
      refine X.lcmp dX5_match_117 ?_
      refine X.if_ne_f (tgt := 127) dX5_match_118 (by decide) (lgc_eq cn) ?_
      refine X.iinc1 dX5_match_121 rfl (Nat.le_of_ble_eq_true rfl) ?_
      refine X.goto (tgt := 79) dX5_match_124 (by decide) ?_
      exact X.at [(0, .ref 44), (1, .int (nI a)), (2, .int (nI b)), (4, .int (nI (sz μ (tp μ a)))), (5, .int (nI (sz μ (tp μ b)))), (6, .int (nI (k + 1)))] ⟨rfl, rfl, rfl, rfl, rfl, iN k, trivial⟩ (ih (k + 1) (by omega) (by omega) (by omega) hq)
    · rw [if_neg hc] at hq
      have hend : X kX5_match none 127 (xl [(4, .int (nI (sz μ (tp μ a)))), (5, .int (nI (sz μ (tp μ b)))), (6, .int (nI k))]) [] μ (fun r μ' => xrok kX5_match.2.2.2.1 r ∧ Q r μ') := by
        unfold mtR at hq
        refine X.iload dX5_match_127 rfl ?_
        refine X.iload dX5_match_129 rfl ?_
        refine X.icmp_ne (tgt := 148) dX5_match_131 (by decide) (fun c131 => ?_) (fun c131 => ?_)
        · refine X.iload dX5_match_148 rfl ?_
          refine X.ret dX5_match_150 ⟨trivial, ?_⟩
          by_cases e : k = sz μ (tp μ a) ∧ k = sz μ (tp μ b)
          · rw [if_pos e] at hq
            first
              | exact absurd (congrArg nI e.1) c131
              | exact absurd (congrArg nI e.2) c138
              | exact hq
          · rw [if_neg e] at hq
            first
              | exact absurd (And.intro ((nI_eq (by omega) (by omega)).mp c131) ((nI_eq (by omega) (by omega)).mp c138)) e
              | exact hq
        · refine X.iload dX5_match_134 rfl ?_
          refine X.iload dX5_match_136 rfl ?_
          refine X.icmp_ne (tgt := 148) dX5_match_138 (by decide) (fun c138 => ?_) (fun c138 => ?_)
          · refine X.iload dX5_match_148 rfl ?_
            refine X.ret dX5_match_150 ⟨trivial, ?_⟩
            by_cases e : k = sz μ (tp μ a) ∧ k = sz μ (tp μ b)
            · rw [if_pos e] at hq
              first
                | exact absurd (congrArg nI e.1) c131
                | exact absurd (congrArg nI e.2) c138
                | exact hq
            · rw [if_neg e] at hq
              first
                | exact absurd (And.intro ((nI_eq (by omega) (by omega)).mp c131) ((nI_eq (by omega) (by omega)).mp c138)) e
                | exact hq
          · refine X.iconst (v := -1) dX5_match_141 (by decide) ?_
            refine X.iload dX5_match_142 rfl ?_
            refine X.isub dX5_match_144 ?_
            refine X.goto (tgt := 150) dX5_match_145 (by decide) ?_
            refine X.ret dX5_match_150 ⟨trivial, ?_⟩
            by_cases e : k = sz μ (tp μ a) ∧ k = sz μ (tp μ b)
            · rw [if_pos e] at hq
              first
                | exact absurd (congrArg nI e.1) c131
                | exact absurd (congrArg nI e.2) c138
                | exact hq
            · rw [if_neg e] at hq
              first
                | exact absurd (And.intro ((nI_eq (by omega) (by omega)).mp c131) ((nI_eq (by omega) (by omega)).mp c138)) e
                | exact hq
      by_cases ca : k < sz μ (tp μ a)
      · by_cases cb : k < sz μ (tp μ b)
        · refine X.iload dX5_match_79 rfl ?_
          refine X.iload dX5_match_81 rfl ?_
          refine X.icmp_ge_f (tgt := 127) dX5_match_83 (by decide) (nI_ge ca (by omega)) ?_
          refine X.iload dX5_match_86 rfl ?_
          refine X.iload dX5_match_88 rfl ?_
          refine X.icmp_ge_f (tgt := 127) dX5_match_90 (by decide) (nI_ge cb (by omega)) ?_
          refine X.aload_n dX5_match_93 rfl ?_
          refine X.aload_n dX5_match_94 rfl ?_
          refine X.getR (b := 50) (kf := 6) dX5_match_95 (hM.1 44 (by decide) (by decide)) (by decide) (by decide) rfl wf_X5_27 (hM.2 6 (by decide)) ?_
          refine X.iload_n dX5_match_98 rfl ?_
          refine X.iald dX5_match_99 (hM.1 50 (by decide) (by decide)) (rfl) (ha) (by decide) ?_
          refine X.iload dX5_match_100 rfl ?_
          refine X.cV2l (k' := kX5_numberOf) dX5_match_102 (hM.1 44 (by decide) (by decide)) ⟨by decide, rfl⟩ v_X5_numberOf wm_X5_165 wi_X5_numberOf ws_X5_numberOf ⟨Nat.le_of_ble_eq_true rfl, Nat.le_of_ble_eq_true rfl⟩ n_X5_numberOf (Nat.le_of_ble_eq_true rfl) ?_
          rw [et]
          refine m_numberOf hM hw ht ca ?_
          refine ⟨_, rfl, ?_⟩
          refine X.aload_n dX5_match_105 rfl ?_
          refine X.aload_n dX5_match_106 rfl ?_
          refine X.getR (b := 50) (kf := 6) dX5_match_107 (hM.1 44 (by decide) (by decide)) (by decide) (by decide) rfl wf_X5_27 (hM.2 6 (by decide)) ?_
          refine X.iload_n dX5_match_110 rfl ?_
          refine X.iald dX5_match_111 (hM.1 50 (by decide) (by decide)) (rfl) (hb) (by decide) ?_
          refine X.iload dX5_match_112 rfl ?_
          refine X.cV2l (k' := kX5_numberOf) dX5_match_114 (hM.1 44 (by decide) (by decide)) ⟨by decide, rfl⟩ v_X5_numberOf wm_X5_165 wi_X5_numberOf ws_X5_numberOf ⟨Nat.le_of_ble_eq_true rfl, Nat.le_of_ble_eq_true rfl⟩ n_X5_numberOf (Nat.le_of_ble_eq_true rfl) ?_
          rw [eu]
          refine m_numberOf hM hw hu cb ?_
          refine ⟨_, rfl, ?_⟩
          refine X.lcmp dX5_match_117 ?_
          refine X.if_ne_t (tgt := 127) dX5_match_118 (by decide) (lgc_ne (fun e => hc ⟨ca, cb, e⟩)) ?_
          exact X.at [(4, .int (nI (sz μ (tp μ a)))), (5, .int (nI (sz μ (tp μ b)))), (6, .int (nI k))] ⟨rfl, rfl, rfl, trivial⟩ hend
        · refine X.iload dX5_match_79 rfl ?_
          refine X.iload dX5_match_81 rfl ?_
          refine X.icmp_ge_f (tgt := 127) dX5_match_83 (by decide) (nI_ge ca (by omega)) ?_
          refine X.iload dX5_match_86 rfl ?_
          refine X.iload dX5_match_88 rfl ?_
          refine X.icmp_ge_t (tgt := 127) dX5_match_90 (by decide) (nI_le (by omega) (by omega)) ?_
          exact X.at [(4, .int (nI (sz μ (tp μ a)))), (5, .int (nI (sz μ (tp μ b)))), (6, .int (nI k))] ⟨rfl, rfl, rfl, trivial⟩ hend
      · refine X.iload dX5_match_79 rfl ?_
        refine X.iload dX5_match_81 rfl ?_
        refine X.icmp_ge_t (tgt := 127) dX5_match_83 (by decide) (nI_le (by omega) (by omega)) ?_
        exact X.at [(4, .int (nI (sz μ (tp μ a)))), (5, .int (nI (sz μ (tp μ b)))), (6, .int (nI k))] ⟨rfl, rfl, rfl, trivial⟩ hend
set_option maxRecDepth 100000 in
set_option maxHeartbeats 4000000 in
theorem m_match_in {a b : Nat} {μ : xM} {Q : Option Value → xM → Prop} (hM : ShM μ) (hw : WFt μ) (ha : a < 16) (hb : b < 16) (h0 : noTapeM μ a = 0) (h1 : noTapeM μ b = 0) (hq : Q (some (.int (mtR μ (tp μ a) (tp μ b) (mtc μ (tp μ a) (tp μ b) 33 0)))) (metM μ 0)) : Mt kX5_match [.ref 44, .int (nI a), .int (nI b)] μ Q := by
  obtain ⟨ht, et⟩ := hw.1 _ ha h0
  obtain ⟨⟨ek, lk⟩, es, ls⟩ := hw.2.1 _ ht
  obtain ⟨hu, eu⟩ := hw.1 _ hb h1
  obtain ⟨⟨ek2, lk2⟩, es2, ls2⟩ := hw.2.1 _ hu
  refine Mt.enter rfl (Nat.le_of_ble_eq_true rfl) ?_
  refine X.iload_n dX5_match_0 rfl ?_
  refine X.cS1i (k' := kX5_isChannel) dX5_match_1 v_X5_isChannel wm_X5_137 wt_X5_isChannel ⟨Nat.le_of_ble_eq_true rfl, Nat.le_of_ble_eq_true rfl⟩ n_X5_isChannel (Nat.le_of_ble_eq_true rfl) ?_
  refine m_isChannel_t (chIn ha) ?_
  refine ⟨_, rfl, ?_⟩
  refine X.if_eq_f (tgt := 14) dX5_match_4 (by decide) ((by decide)) ?_
  refine X.iload_n dX5_match_7 rfl ?_
  refine X.cS1i (k' := kX5_isChannel) dX5_match_8 v_X5_isChannel wm_X5_137 wt_X5_isChannel ⟨Nat.le_of_ble_eq_true rfl, Nat.le_of_ble_eq_true rfl⟩ n_X5_isChannel (Nat.le_of_ble_eq_true rfl) ?_
  refine m_isChannel_t (chIn hb) ?_
  refine ⟨_, rfl, ?_⟩
  refine X.if_ne_t (tgt := 17) dX5_match_11 (by decide) ((by decide)) ?_
  refine X.aload_n dX5_match_17 rfl ?_
  refine X.iload_n dX5_match_18 rfl ?_
  refine X.cV1i (k' := kX5_noTape) dX5_match_19 (hM.1 44 (by decide) (by decide)) ⟨by decide, rfl⟩ v_X5_noTape wm_X5_102 wi_X5_noTape ws_X5_noTape ⟨Nat.le_of_ble_eq_true rfl, Nat.le_of_ble_eq_true rfl⟩ n_X5_noTape (Nat.le_of_ble_eq_true rfl) ?_
  refine m_noTape hM ha ?_
  refine ⟨_, rfl, ?_⟩
  refine X.istore_n dX5_match_22 (Nat.le_of_ble_eq_true rfl) ?_
  refine X.aload_n dX5_match_23 rfl ?_
  refine X.iload_n dX5_match_24 rfl ?_
  refine X.if_le_t (tgt := 32) dX5_match_25 (by decide) ((by rw [h0]; decide)) ?_
  refine X.aload_n dX5_match_32 rfl ?_
  refine X.iload_n dX5_match_33 rfl ?_
  refine X.cV1i (k' := kX5_noTape) dX5_match_34 (hM.1 44 (by decide) (by decide)) ⟨by decide, rfl⟩ v_X5_noTape wm_X5_102 wi_X5_noTape ws_X5_noTape ⟨Nat.le_of_ble_eq_true rfl, Nat.le_of_ble_eq_true rfl⟩ n_X5_noTape (Nat.le_of_ble_eq_true rfl) ?_
  refine m_noTape hM hb ?_
  refine ⟨_, rfl, ?_⟩
  refine X.cV1i (k' := kX5_met) dX5_match_37 (hM.1 44 (by decide) (by decide)) ⟨by decide, rfl⟩ v_X5_met wm_X5_141 wi_X5_met ws_X5_met ⟨Nat.le_of_ble_eq_true rfl, Nat.le_of_ble_eq_true rfl⟩ n_X5_met (Nat.le_of_ble_eq_true rfl) ?_
  refine m_met (r := noTapeM μ b) hM (by have := noTapeM_le μ b; omega) ?_
  rw [h1]
  refine ⟨_, rfl, ?_⟩
  refine X.istore_n dX5_match_40 (Nat.le_of_ble_eq_true rfl) ?_
  refine X.iload_n dX5_match_41 rfl ?_
  refine X.if_le_t (tgt := 50) dX5_match_42 (by decide) ((by decide)) ?_
  refine X.aload_n dX5_match_50 rfl ?_
  refine X.getR (b := 46) (kf := 1) dX5_match_51 (hM.1 44 (by decide) (by decide)) (by decide) (by decide) rfl wf_X5_13 (hM.2 1 (by decide)) ?_
  refine X.aload_n dX5_match_54 rfl ?_
  refine X.getR (b := 50) (kf := 6) dX5_match_55 (hM.1 44 (by decide) (by decide)) (by decide) (by decide) rfl wf_X5_27 (hM.2 6 (by decide)) ?_
  refine X.iload_n dX5_match_58 rfl ?_
  refine X.iald dX5_match_59 (hM.1 50 (by decide) (by decide)) (rfl) (ha) (by decide) ?_
  refine X.iald dX5_match_60 (hM.1 46 (by decide) (by decide)) (et) (ht) (by decide) ?_
  refine X.istore dX5_match_61 (Nat.le_of_ble_eq_true rfl) ?_
  refine X.aload_n dX5_match_63 rfl ?_
  refine X.getR (b := 46) (kf := 1) dX5_match_64 (hM.1 44 (by decide) (by decide)) (by decide) (by decide) rfl wf_X5_13 (hM.2 1 (by decide)) ?_
  refine X.aload_n dX5_match_67 rfl ?_
  refine X.getR (b := 50) (kf := 6) dX5_match_68 (hM.1 44 (by decide) (by decide)) (by decide) (by decide) rfl wf_X5_27 (hM.2 6 (by decide)) ?_
  refine X.iload_n dX5_match_71 rfl ?_
  refine X.iald dX5_match_72 (hM.1 50 (by decide) (by decide)) (rfl) (hb) (by decide) ?_
  refine X.iald dX5_match_73 (hM.1 46 (by decide) (by decide)) (eu) (hu) (by decide) ?_
  refine X.istore dX5_match_74 (Nat.le_of_ble_eq_true rfl) ?_
  refine X.iconst (v := 0) dX5_match_76 (by decide) ?_
  refine X.istore dX5_match_77 (Nat.le_of_ble_eq_true rfl) ?_
  exact X.at [(0, .ref 44), (1, .int (nI a)), (2, .int (nI b)), (4, .int (nI (sz μ (tp μ a)))), (5, .int (nI (sz μ (tp μ b)))), (6, .int (nI 0))] ⟨rfl, rfl, rfl, congrArg (fun x => some (Value.int x)) es, congrArg (fun x => some (Value.int x)) es2, rfl, trivial⟩ (ma1 (μ := metM μ 0) hM hw ha hb h0 h1 33 0 (by omega) (Nat.zero_le _) (Nat.zero_le _) (by rw [mtc_met]; exact hq))
