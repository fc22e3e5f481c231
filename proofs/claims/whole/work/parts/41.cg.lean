/-! the class: dub and cable (laid by wip/whole/mkpb12.py) -/
theorem dbW_cv {ν : xM} {u : Nat → Int32} {kk old n j : Nat} (hn : n ≤ 32) (ho : old ≠ freeM ν) (hj : j < n) : cv (dbW ν u kk old n n) (freeM ν) j = fitM kk (cv ν old j) := by
  have e : cv ν old j = mJ (newTM ν u kk n) 48 (32 * old + j) := (zr_off hn (mJ ν 48) old ho j (by omega)).symm
  show (if 32 * freeM ν ≤ 32 * freeM ν + j ∧ 32 * freeM ν + j < 32 * freeM ν + n then fitM kk (mJ (newTM ν u kk n) 48 (32 * old + (32 * freeM ν + j - 32 * freeM ν))) else _) = _
  rw [if_pos (by omega), Nat.add_sub_cancel_left, e]
theorem Rel.dubbed {ρ ν μ : xM} {φ κ : Nat → Nat} {B : Nat × Nat × Nat × (Nat → Prop)} {kk b p0 : Nat} {u : Nat → Int32} (h : Rel ρ ν μ φ κ B) (hE : ∀ t, ¬ B.2.2.2 t) (hb : b < 16) (h0 : noTapeM ν b = 0) (hk : kk ≤ 10) (hU : Und ν φ κ B.2.2.2 p0) (hT : TR (dbW ν u kk (tp ν b) (sz ν (tp ν b)) (sz ν (tp ν b))) μ (phN φ (freeM ν) p0) (freeM ν)) (hd : dbn ν (tp ν b) kk (sz ν (tp ν b)) 0 = 0) :
    Rel ρ (dbW ν u kk (tp ν b) (sz ν (tp ν b)) (sz ν (tp ν b))) μ (phN φ (freeM ν) p0) κ B ∧ HoldOK (dbW ν u kk (tp ν b) (sz ν (tp ν b)) (sz ν (tp ν b))) μ (phN φ (freeM ν) p0) B.2.2.2 (freeM ν) := by
  have hfr := freeM_ok h.wt
  have ho : tp ν b ≠ freeM ν := fun q => hfr.2.1 (q ▸ live_c hb h0)
  have hot := tp_lt h.wt hb h0
  have ls := sz_le h.wt hot
  have hks := dbW_ks (ν := ν) (u := u) (old := tp ν b) (i := sz ν (tp ν b)) hk ls
  refine Rel.born h hE hfr.1 hfr.2.1 (dbW_at ls (Nat.le_refl _)) (fun t ht => if_neg ht) (fun t ht => ?_) (by rw [hks.2.1]; exact ⟨hks.1.1, hk⟩) (by rw [hks.2.2]; exact ⟨hks.1.2, ls⟩) (fun j hj => ?_) hT
  · rw [show phN φ (freeM ν) p0 (freeM ν) = p0 from if_pos rfl]; have := hU.2.1 t ht; omega
  · rw [hks.2.2] at hj
    have et := dbn_all _ _ hd j (Nat.zero_le _) (by omega)
    have hC := h.cellR hb h0 hj
    rw [hks.2.1, dbW_cv ls ho hj]
    refine ⟨hC.okc et, fun k8 => write_ok et (hC.ok h) k8, fun k10 hx => ?_⟩
    rw [fit_id (by omega)] at hx ⊢
    have hK := takes_8 (by omega) et
    rcases hC with ⟨a, -⟩ | ⟨a, -⟩ | ⟨-, -, -, -, -, -, a, b⟩ | ⟨-, a, -⟩
    · omega
    · omega
    · exact ⟨a.elim id (fun q => absurd q.1 (hE _)), b⟩
    · rw [a, lx_0] at hx; exact absurd rfl hx
theorem dub_eq {ν : xM} {u : Nat → Int32} {a b kk : Nat} : metM (sI (dbW ν u kk (tp ν b) (sz ν (tp ν b)) (sz ν (tp ν b))) 50 a (nI (freeM ν))) 0 = dubM ν u a b kk := by
  rw [met_50]
  unfold dubM dubN
  rw [← met_new]
  rfl
set_option maxRecDepth 100000 in
set_option maxHeartbeats 4000000 in
theorem c_dub_o3 {a b : Nat} {k : Int32} {ρ ν μ : xM} {φ κ : Nat → Nat} {B : Nat × Nat × Nat × (Nat → Prop)} {Q : Option Value → xM → Prop} (hR : Rel ρ ν μ φ κ B) (ha : a < 16) (hb : b < 16) (hk : rng k 11 = none) (hq : ∀ μ1, Rel ρ (ν) μ1 φ κ B → Q (some (.int (-1))) μ1) : Mt kX4_dub [.ref 1, .int (nI a), .int (nI b), .int (k)] μ Q := by
  have hB := hR.2.1
  refine Mt.enter rfl (Nat.le_of_ble_eq_true rfl) ?_
  refine X.aload_n dX4_dub_0 rfl ?_
  refine X.iload_n dX4_dub_1 rfl ?_
  refine X.cV1a (k' := kX4_channelAt) dX4_dub_2 (hB.1 1 (by decide) (by decide)) ⟨by decide, rfl⟩ v_X4_channelAt wm_X4_59 wi_X4_channelAt ws_X4_channelAt ⟨Nat.le_of_ble_eq_true rfl, Nat.le_of_ble_eq_true rfl⟩ n_X4_channelAt (Nat.le_of_ble_eq_true rfl) ?_
  refine x_channelAt hB ha ?_
  refine ⟨_, rfl, ?_⟩
  refine X.astore dX4_dub_5 (Nat.le_of_ble_eq_true rfl) ?_
  refine X.aload_n dX4_dub_7 rfl ?_
  refine X.iload_n dX4_dub_8 rfl ?_
  refine X.cV1a (k' := kX4_channelAt) dX4_dub_9 (hB.1 1 (by decide) (by decide)) ⟨by decide, rfl⟩ v_X4_channelAt wm_X4_59 wi_X4_channelAt ws_X4_channelAt ⟨Nat.le_of_ble_eq_true rfl, Nat.le_of_ble_eq_true rfl⟩ n_X4_channelAt (Nat.le_of_ble_eq_true rfl) ?_
  refine x_channelAt hB hb ?_
  refine ⟨_, rfl, ?_⟩
  refine X.astore dX4_dub_12 (Nat.le_of_ble_eq_true rfl) ?_
  refine X.aload dX4_dub_14 rfl ?_
  refine X.ifnull_r dX4_dub_16 ?_
  refine X.aload dX4_dub_19 rfl ?_
  refine X.ifnull_r dX4_dub_21 ?_
  refine X.iload_n dX4_dub_24 rfl ?_
  refine X.cS1i (k' := kX4_isTapeKind) dX4_dub_25 v_X4_isTapeKind wm_X4_63 wt_X4_isTapeKind ⟨Nat.le_of_ble_eq_true rfl, Nat.le_of_ble_eq_true rfl⟩ n_X4_isTapeKind (Nat.le_of_ble_eq_true rfl) ?_
  refine x_isTapeKind_f hk ?_
  refine ⟨_, rfl, ?_⟩
  refine X.if_ne_f (tgt := 33) dX4_dub_28 (by decide) ((by decide)) ?_
  refine X.iconst (v := -1) dX4_dub_31 (by decide) ?_
  refine X.ret dX4_dub_32 ⟨trivial, ?_⟩
  exact hq _ hR
set_option maxRecDepth 100000 in
set_option maxHeartbeats 4000000 in
theorem c_dub_r1 {a b k : Nat} {ρ ν μ : xM} {φ κ : Nat → Nat} {B : Nat × Nat × Nat × (Nat → Prop)} {Q : Option Value → xM → Prop} (hR : Rel ρ ν μ φ κ B) (ha : a < 16) (hb : b < 16) (hk : k ≤ 10) (h0 : ¬ noTapeM ν b = 0) (hq : ∀ μ1, Rel ρ (metM ν (noTapeM ν b)) μ1 φ κ B → Q (some (.int (rR (noTapeM ν b)))) μ1) : Mt kX4_dub [.ref 1, .int (nI a), .int (nI b), .int (nI k)] μ Q := by
  have hB := hR.2.1
  refine Mt.enter rfl (Nat.le_of_ble_eq_true rfl) ?_
  refine X.aload_n dX4_dub_0 rfl ?_
  refine X.iload_n dX4_dub_1 rfl ?_
  refine X.cV1a (k' := kX4_channelAt) dX4_dub_2 (hB.1 1 (by decide) (by decide)) ⟨by decide, rfl⟩ v_X4_channelAt wm_X4_59 wi_X4_channelAt ws_X4_channelAt ⟨Nat.le_of_ble_eq_true rfl, Nat.le_of_ble_eq_true rfl⟩ n_X4_channelAt (Nat.le_of_ble_eq_true rfl) ?_
  refine x_channelAt hB ha ?_
  refine ⟨_, rfl, ?_⟩
  refine X.astore dX4_dub_5 (Nat.le_of_ble_eq_true rfl) ?_
  refine X.aload_n dX4_dub_7 rfl ?_
  refine X.iload_n dX4_dub_8 rfl ?_
  refine X.cV1a (k' := kX4_channelAt) dX4_dub_9 (hB.1 1 (by decide) (by decide)) ⟨by decide, rfl⟩ v_X4_channelAt wm_X4_59 wi_X4_channelAt ws_X4_channelAt ⟨Nat.le_of_ble_eq_true rfl, Nat.le_of_ble_eq_true rfl⟩ n_X4_channelAt (Nat.le_of_ble_eq_true rfl) ?_
  refine x_channelAt hB hb ?_
  refine ⟨_, rfl, ?_⟩
  refine X.astore dX4_dub_12 (Nat.le_of_ble_eq_true rfl) ?_
  refine X.aload dX4_dub_14 rfl ?_
  refine X.ifnull_r dX4_dub_16 ?_
  refine X.aload dX4_dub_19 rfl ?_
  refine X.ifnull_r dX4_dub_21 ?_
  refine X.iload_n dX4_dub_24 rfl ?_
  refine X.cS1i (k' := kX4_isTapeKind) dX4_dub_25 v_X4_isTapeKind wm_X4_63 wt_X4_isTapeKind ⟨Nat.le_of_ble_eq_true rfl, Nat.le_of_ble_eq_true rfl⟩ n_X4_isTapeKind (Nat.le_of_ble_eq_true rfl) ?_
  refine x_isTapeKind_t (rng_nI (by omega) (by decide)) ?_
  refine ⟨_, rfl, ?_⟩
  refine X.if_ne_t (tgt := 33) dX4_dub_28 (by decide) ((by decide)) ?_
  refine X.aload dX4_dub_33 rfl ?_
  refine X.getN (kf := 1) dX4_dub_35 ((hB.2.2.1 b hb).1) (by decide) (by decide) rfl wf_X4_84 (hR.chN hb h0) ?_
  refine X.astoreN dX4_dub_38 (Nat.le_of_ble_eq_true rfl) ?_
  refine X.aloadN dX4_dub_40 rfl ?_
  refine X.ifnonnull_n dX4_dub_42 ?_
  refine X.aload_n dX4_dub_45 rfl ?_
  refine X.aload dX4_dub_46 rfl ?_
  refine X.cV0i (k' := kX2_refusalWithoutTape) dX4_dub_48 ((hB.2.2.1 b hb).1) ⟨by decide, rfl⟩ v_X2_refusalWithoutTape wm_X4_180 wi_X2_refusalWithoutTape ws_X2_refusalWithoutTape ⟨Nat.le_of_ble_eq_true rfl, Nat.le_of_ble_eq_true rfl⟩ n_X2_refusalWithoutTape (Nat.le_of_ble_eq_true rfl) ?_
  refine c_refusal hR hb h0 ?_
  refine ⟨_, rfl, ?_⟩
  refine X.iconst (v := 0) dX4_dub_51 (by decide) ?_
  refine X.cV2i (k' := kX4_answer) dX4_dub_52 (hB.1 1 (by decide) (by decide)) ⟨by decide, rfl⟩ v_X4_answer wm_X4_67 wi_X4_answer ws_X4_answer ⟨Nat.le_of_ble_eq_true rfl, Nat.le_of_ble_eq_true rfl⟩ n_X4_answer (Nat.le_of_ble_eq_true rfl) ?_
  refine c_answer_r hR (r := noTapeM ν b) (by have := noTapeM_le ν b; omega) h0 (fun μ1 hR => ?_)
  refine ⟨_, rfl, ?_⟩
  refine X.ret dX4_dub_55 ⟨trivial, ?_⟩
  exact hq _ hR
set_option maxRecDepth 100000 in
set_option maxHeartbeats 4000000 in
theorem c_dub_t {a b k : Nat} {u : Nat → Int32} {ρ ν μ : xM} {φ κ : Nat → Nat} {B : Nat × Nat × Nat × (Nat → Prop)} {Q : Option Value → xM → Prop} (hR : Rel ρ ν μ φ κ B) (hE : ∀ t, ¬ B.2.2.2 t) (ha : a < 16) (hb : b < 16) (hk : k ≤ 10) (h0 : noTapeM ν b = 0) (hq0 : dbn ν (tp ν b) k (sz ν (tp ν b)) 0 = 0 → ∀ μ1 φ1, Rel ρ (dubM ν u a b k) μ1 φ1 κ (B.1, B.2.1 + 4, B.2.2.1 + (5 + sz ν (tp ν b) + sz ν (tp ν b) + sz ν (tp ν b)), B.2.2.2) → Q (some (.int (nI (sz ν (tp ν b))))) μ1) (hq2 : dbn ν (tp ν b) k (sz ν (tp ν b)) 0 = 2 → ∀ μ1, Rel ρ (metM ν 2) μ1 φ κ (B.1, B.2.1 + 4, B.2.2.1 + (5 + sz ν (tp ν b) + sz ν (tp ν b) + sz ν (tp ν b)), B.2.2.2) → Q (some (.int (rR 2))) μ1) : Mt kX4_dub [.ref 1, .int (nI a), .int (nI b), .int (nI k)] μ Q := by
  have hB := hR.2.1
  have hU := hR.und
  have hT5 := hR.tr (live_c hb h0)
  have hO := hT5.ts
  have hlt : φ (tp ν b) < mN μ := by have := hT5.1.2; omega
  have ls := sz_le hR.wt (tp_lt hR.wt hb h0)
  have hOs := hO.1.1
  refine Mt.enter rfl (Nat.le_of_ble_eq_true rfl) ?_
  refine X.aload_n dX4_dub_0 rfl ?_
  refine X.iload_n dX4_dub_1 rfl ?_
  refine X.cV1a (k' := kX4_channelAt) dX4_dub_2 (hB.1 1 (by decide) (by decide)) ⟨by decide, rfl⟩ v_X4_channelAt wm_X4_59 wi_X4_channelAt ws_X4_channelAt ⟨Nat.le_of_ble_eq_true rfl, Nat.le_of_ble_eq_true rfl⟩ n_X4_channelAt (Nat.le_of_ble_eq_true rfl) ?_
  refine x_channelAt hB ha ?_
  refine ⟨_, rfl, ?_⟩
  refine X.astore dX4_dub_5 (Nat.le_of_ble_eq_true rfl) ?_
  refine X.aload_n dX4_dub_7 rfl ?_
  refine X.iload_n dX4_dub_8 rfl ?_
  refine X.cV1a (k' := kX4_channelAt) dX4_dub_9 (hB.1 1 (by decide) (by decide)) ⟨by decide, rfl⟩ v_X4_channelAt wm_X4_59 wi_X4_channelAt ws_X4_channelAt ⟨Nat.le_of_ble_eq_true rfl, Nat.le_of_ble_eq_true rfl⟩ n_X4_channelAt (Nat.le_of_ble_eq_true rfl) ?_
  refine x_channelAt hB hb ?_
  refine ⟨_, rfl, ?_⟩
  refine X.astore dX4_dub_12 (Nat.le_of_ble_eq_true rfl) ?_
  refine X.aload dX4_dub_14 rfl ?_
  refine X.ifnull_r dX4_dub_16 ?_
  refine X.aload dX4_dub_19 rfl ?_
  refine X.ifnull_r dX4_dub_21 ?_
  refine X.iload_n dX4_dub_24 rfl ?_
  refine X.cS1i (k' := kX4_isTapeKind) dX4_dub_25 v_X4_isTapeKind wm_X4_63 wt_X4_isTapeKind ⟨Nat.le_of_ble_eq_true rfl, Nat.le_of_ble_eq_true rfl⟩ n_X4_isTapeKind (Nat.le_of_ble_eq_true rfl) ?_
  refine x_isTapeKind_t (rng_nI (by omega) (by decide)) ?_
  refine ⟨_, rfl, ?_⟩
  refine X.if_ne_t (tgt := 33) dX4_dub_28 (by decide) ((by decide)) ?_
  refine X.aload dX4_dub_33 rfl ?_
  refine X.getR (b := (φ (tp ν b))) (kf := 1) dX4_dub_35 ((hB.2.2.1 b hb).1) (by decide) (by decide) rfl wf_X4_84 (hR.chT hb h0) ?_
  refine X.astore dX4_dub_38 (Nat.le_of_ble_eq_true rfl) ?_
  refine X.aload dX4_dub_40 rfl ?_
  refine X.ifnonnull_r (tgt := 56) dX4_dub_42 (by decide) ?_
  refine X.new (c := 3) dX4_dub_56 (by decide) wc_X4_71 wins_RX3 wini_RX3 ?_
  refine X.dup dX4_dub_59 ?_
  refine X.iload_n dX4_dub_60 rfl ?_
  have hOs := sh_new (c := 3) (n := 0) (w := 5) hOs (show φ (tp ν b) ≠ mN μ by omega)
  refine X.aload dX4_dub_61 rfl ?_
  refine X.getI (kf := 1) dX4_dub_63 (hOs) (by decide) (by decide) rfl wf_X4_145 ?_
  refine X.cI2v (k' := kX3_init) dX4_dub_66 ⟨rfl, rfl⟩ v_X3_init wm_X4_73 wi_X3_init ⟨Nat.le_of_ble_eq_true rfl, Nat.le_of_ble_eq_true rfl⟩ n_X3_init (Nat.le_of_ble_eq_true rfl) ?_
  rw [show mI (sNew μ 3 0 (xnf 3)) (φ (tp ν b)) 1 = nI (sz ν (tp ν b)) by
      show (if φ (tp ν b) = mN μ then (0 : Int32) else mI μ (φ (tp ν b)) 1) = _
      rw [if_neg (by omega)]
      exact hO.2.1.2]
  refine x_tapeInit (xT_new _ _ _ _) rfl hk ls (fun μ2 hN => ?_)
  refine ⟨rfl, ?_⟩
  refine X.astore dX4_dub_69 (Nat.le_of_ble_eq_true rfl) ?_
  refine X.iconst (v := 0) dX4_dub_71 (by decide) ?_
  refine X.istore dX4_dub_72 (Nat.le_of_ble_eq_true rfl) ?_
  refine X.iconst (v := 0) dX4_dub_74 (by decide) ?_
  refine X.istore dX4_dub_75 (Nat.le_of_ble_eq_true rfl) ?_
  have hR2 := hR.newP hN.p
  have hTn := (hR.tapeNew hE hk ls hN.p u).2.2.1
  refine X.at [(0, .ref 1), (4, .ref (28 + a)), (6, .ref (φ (tp ν b))), (7, .ref (mN μ)), (8, .int (nI 0)), (9, .int (nI 0))] ⟨rfl, rfl, rfl, rfl, rfl, rfl, trivial⟩ ?_
  refine cdb (B := (B.1, B.2.1 + 4, B.2.2.1 + (5 + sz ν (tp ν b) + sz ν (tp ν b) + sz ν (tp ν b)), B.2.2.2)) (p0 := mN μ) (u := u) ha hb h0 hk hE hU (fun μ3 hR hI hd => ?_) hq2 (sz ν (tp ν b)) 0 μ2 (by omega) hR2 (by rw [dbW_0]; exact hTn) rfl
  have hks := dbW_ks (ν := ν) (u := u) (old := tp ν b) (i := sz ν (tp ν b)) hk ls
  have hP : TS μ3 (mN μ) k (sz ν (tp ν b)) := by
    have w := hI.ts
    rw [hks.2.1, hks.2.2, show phN φ (freeM ν) (mN μ) (freeM ν) = mN μ from if_pos rfl] at w
    exact w
  obtain ⟨hR, hO⟩ := hR.dubbed hE hb h0 hk hU hI hd
  have hB := hR.2.1
  refine X.iload dX4_dub_129 rfl ?_
  refine X.if_ne_f (tgt := 142) dX4_dub_131 (by decide) ((by decide)) ?_
  refine X.aload dX4_dub_134 rfl ?_
  refine X.aload dX4_dub_136 rfl ?_
  refine X.iconst (v := 0) dX4_dub_138 (by decide) ?_
  refine X.cV2v (k' := kX2_hold) dX4_dub_139 ((hB.2.2.1 a ha).1) ⟨by decide, rfl⟩ v_X2_hold wm_X4_76 wi_X2_hold ws_X2_hold ⟨Nat.le_of_ble_eq_true rfl, Nat.le_of_ble_eq_true rfl⟩ n_X2_hold (Nat.le_of_ble_eq_true rfl) ?_
  refine x_hold (r := some (mN μ)) hB ha (Or.inl rfl) ?_
  refine ⟨rfl, ?_⟩
  have hR := hR.hold ha (x := nI (freeM ν)) (r := some (mN μ)) (b := 0) (Or.inr (Or.inr ⟨freeM ν, rfl, by rw [show phN φ (freeM ν) (mN μ) (freeM ν) = mN μ from if_pos rfl], rfl, hO⟩))
  have hB := hR.2.1
  refine X.aload_n dX4_dub_142 rfl ?_
  refine X.iload dX4_dub_143 rfl ?_
  refine X.aload dX4_dub_145 rfl ?_
  refine X.getI (kf := 1) dX4_dub_147 (hP.1.1) (by decide) (by decide) rfl wf_X4_145 ?_
  refine X.cV2i (k' := kX4_answer) dX4_dub_150 (hB.1 1 (by decide) (by decide)) ⟨by decide, rfl⟩ v_X4_answer wm_X4_67 wi_X4_answer ws_X4_answer ⟨Nat.le_of_ble_eq_true rfl, Nat.le_of_ble_eq_true rfl⟩ n_X4_answer (Nat.le_of_ble_eq_true rfl) ?_
  rw [mI_at (by have := hU.1; omega)]
  rw [show mI (sR μ3 (28 + a) 1 (some (mN μ))) (mN μ) 1 = nI (sz ν (tp ν b)) from hP.2.1.2]
  refine c_answer_0 hR (fun μ1 hR => ?_)
  refine ⟨_, rfl, ?_⟩
  refine X.ret dX4_dub_153 ⟨trivial, ?_⟩
  rw [dub_eq] at hR
  exact hq0 hd _ _ hR
set_option maxRecDepth 100000 in
set_option maxHeartbeats 4000000 in
theorem c_cable_o1a {k : Int32} {c d : Int32} {ρ ν μ : xM} {φ κ : Nat → Nat} {B : Nat × Nat × Nat × (Nat → Prop)} {Q : Option Value → xM → Prop} (hR : Rel ρ ν μ φ κ B) (hk : rng k 4 = none) (hc : rng c 16 = none) (hd : rng d 16 = none) (hq : ∀ μ1, Rel ρ (ν) μ1 φ κ B → Q (some (.int (-1))) μ1) : Mt kX4_cable [.ref 1, .int (k), .int (c), .int (d)] μ Q := by
  have hB := hR.2.1
  refine Mt.enter rfl (Nat.le_of_ble_eq_true rfl) ?_
  refine X.aload_n dX4_cable_0 rfl ?_
  refine X.iload_n dX4_cable_1 rfl ?_
  refine X.cV1n (k' := kX4_channelAt) dX4_cable_2 (hB.1 1 (by decide) (by decide)) ⟨by decide, rfl⟩ v_X4_channelAt wm_X4_59 wi_X4_channelAt ws_X4_channelAt ⟨Nat.le_of_ble_eq_true rfl, Nat.le_of_ble_eq_true rfl⟩ n_X4_channelAt (Nat.le_of_ble_eq_true rfl) ?_
  refine x_channelAt_o hB hc ?_
  refine ⟨rfl, ?_⟩
  refine X.astoreN dX4_cable_5 (Nat.le_of_ble_eq_true rfl) ?_
  refine X.aload_n dX4_cable_7 rfl ?_
  refine X.iload_n dX4_cable_8 rfl ?_
  refine X.cV1n (k' := kX4_channelAt) dX4_cable_9 (hB.1 1 (by decide) (by decide)) ⟨by decide, rfl⟩ v_X4_channelAt wm_X4_59 wi_X4_channelAt ws_X4_channelAt ⟨Nat.le_of_ble_eq_true rfl, Nat.le_of_ble_eq_true rfl⟩ n_X4_channelAt (Nat.le_of_ble_eq_true rfl) ?_
  refine x_channelAt_o hB hd ?_
  refine ⟨rfl, ?_⟩
  refine X.astoreN dX4_cable_12 (Nat.le_of_ble_eq_true rfl) ?_
  refine X.iload_n dX4_cable_14 rfl ?_
  refine X.if_lt (tgt := 33) dX4_cable_15 (by decide) (fun c15 => ?_) (fun c15 => ?_)
  · refine X.iconst (v := -1) dX4_cable_33 (by decide) ?_
    refine X.ret dX4_cable_34 ⟨trivial, ?_⟩
    exact hq _ hR
  · refine X.iload_n dX4_cable_18 rfl ?_
    refine X.iconst (v := 3) dX4_cable_19 (by decide) ?_
    refine X.icmp_gt (tgt := 33) dX4_cable_20 (by decide) (fun c20 => ?_) (fun c20 => ?_)
    · refine X.iconst (v := -1) dX4_cable_33 (by decide) ?_
      refine X.ret dX4_cable_34 ⟨trivial, ?_⟩
      exact hq _ hR
    · exact absurd ⟨Int32.not_lt.mp c15, Int32.not_lt.mp c20⟩ (rng_no (hi := 3) hk (by decide) rfl)
set_option maxRecDepth 100000 in
set_option maxHeartbeats 4000000 in
theorem c_cable_o1b {k : Int32} {c : Int32} {b : Nat} {ρ ν μ : xM} {φ κ : Nat → Nat} {B : Nat × Nat × Nat × (Nat → Prop)} {Q : Option Value → xM → Prop} (hR : Rel ρ ν μ φ κ B) (hk : rng k 4 = none) (hc : rng c 16 = none) (hb : b < 16) (hq : ∀ μ1, Rel ρ (ν) μ1 φ κ B → Q (some (.int (-1))) μ1) : Mt kX4_cable [.ref 1, .int (k), .int (c), .int (nI b)] μ Q := by
  have hB := hR.2.1
  refine Mt.enter rfl (Nat.le_of_ble_eq_true rfl) ?_
  refine X.aload_n dX4_cable_0 rfl ?_
  refine X.iload_n dX4_cable_1 rfl ?_
  refine X.cV1n (k' := kX4_channelAt) dX4_cable_2 (hB.1 1 (by decide) (by decide)) ⟨by decide, rfl⟩ v_X4_channelAt wm_X4_59 wi_X4_channelAt ws_X4_channelAt ⟨Nat.le_of_ble_eq_true rfl, Nat.le_of_ble_eq_true rfl⟩ n_X4_channelAt (Nat.le_of_ble_eq_true rfl) ?_
  refine x_channelAt_o hB hc ?_
  refine ⟨rfl, ?_⟩
  refine X.astoreN dX4_cable_5 (Nat.le_of_ble_eq_true rfl) ?_
  refine X.aload_n dX4_cable_7 rfl ?_
  refine X.iload_n dX4_cable_8 rfl ?_
  refine X.cV1a (k' := kX4_channelAt) dX4_cable_9 (hB.1 1 (by decide) (by decide)) ⟨by decide, rfl⟩ v_X4_channelAt wm_X4_59 wi_X4_channelAt ws_X4_channelAt ⟨Nat.le_of_ble_eq_true rfl, Nat.le_of_ble_eq_true rfl⟩ n_X4_channelAt (Nat.le_of_ble_eq_true rfl) ?_
  refine x_channelAt hB hb ?_
  refine ⟨_, rfl, ?_⟩
  refine X.astore dX4_cable_12 (Nat.le_of_ble_eq_true rfl) ?_
  refine X.iload_n dX4_cable_14 rfl ?_
  refine X.if_lt (tgt := 33) dX4_cable_15 (by decide) (fun c15 => ?_) (fun c15 => ?_)
  · refine X.iconst (v := -1) dX4_cable_33 (by decide) ?_
    refine X.ret dX4_cable_34 ⟨trivial, ?_⟩
    exact hq _ hR
  · refine X.iload_n dX4_cable_18 rfl ?_
    refine X.iconst (v := 3) dX4_cable_19 (by decide) ?_
    refine X.icmp_gt (tgt := 33) dX4_cable_20 (by decide) (fun c20 => ?_) (fun c20 => ?_)
    · refine X.iconst (v := -1) dX4_cable_33 (by decide) ?_
      refine X.ret dX4_cable_34 ⟨trivial, ?_⟩
      exact hq _ hR
    · exact absurd ⟨Int32.not_lt.mp c15, Int32.not_lt.mp c20⟩ (rng_no (hi := 3) hk (by decide) rfl)
set_option maxRecDepth 100000 in
set_option maxHeartbeats 4000000 in
theorem c_cable_o1c {k : Int32} {a : Nat} {d : Int32} {ρ ν μ : xM} {φ κ : Nat → Nat} {B : Nat × Nat × Nat × (Nat → Prop)} {Q : Option Value → xM → Prop} (hR : Rel ρ ν μ φ κ B) (hk : rng k 4 = none) (ha : a < 16) (hd : rng d 16 = none) (hq : ∀ μ1, Rel ρ (ν) μ1 φ κ B → Q (some (.int (-1))) μ1) : Mt kX4_cable [.ref 1, .int (k), .int (nI a), .int (d)] μ Q := by
  have hB := hR.2.1
  refine Mt.enter rfl (Nat.le_of_ble_eq_true rfl) ?_
  refine X.aload_n dX4_cable_0 rfl ?_
  refine X.iload_n dX4_cable_1 rfl ?_
  refine X.cV1a (k' := kX4_channelAt) dX4_cable_2 (hB.1 1 (by decide) (by decide)) ⟨by decide, rfl⟩ v_X4_channelAt wm_X4_59 wi_X4_channelAt ws_X4_channelAt ⟨Nat.le_of_ble_eq_true rfl, Nat.le_of_ble_eq_true rfl⟩ n_X4_channelAt (Nat.le_of_ble_eq_true rfl) ?_
  refine x_channelAt hB ha ?_
  refine ⟨_, rfl, ?_⟩
  refine X.astore dX4_cable_5 (Nat.le_of_ble_eq_true rfl) ?_
  refine X.aload_n dX4_cable_7 rfl ?_
  refine X.iload_n dX4_cable_8 rfl ?_
  refine X.cV1n (k' := kX4_channelAt) dX4_cable_9 (hB.1 1 (by decide) (by decide)) ⟨by decide, rfl⟩ v_X4_channelAt wm_X4_59 wi_X4_channelAt ws_X4_channelAt ⟨Nat.le_of_ble_eq_true rfl, Nat.le_of_ble_eq_true rfl⟩ n_X4_channelAt (Nat.le_of_ble_eq_true rfl) ?_
  refine x_channelAt_o hB hd ?_
  refine ⟨rfl, ?_⟩
  refine X.astoreN dX4_cable_12 (Nat.le_of_ble_eq_true rfl) ?_
  refine X.iload_n dX4_cable_14 rfl ?_
  refine X.if_lt (tgt := 33) dX4_cable_15 (by decide) (fun c15 => ?_) (fun c15 => ?_)
  · refine X.iconst (v := -1) dX4_cable_33 (by decide) ?_
    refine X.ret dX4_cable_34 ⟨trivial, ?_⟩
    exact hq _ hR
  · refine X.iload_n dX4_cable_18 rfl ?_
    refine X.iconst (v := 3) dX4_cable_19 (by decide) ?_
    refine X.icmp_gt (tgt := 33) dX4_cable_20 (by decide) (fun c20 => ?_) (fun c20 => ?_)
    · refine X.iconst (v := -1) dX4_cable_33 (by decide) ?_
      refine X.ret dX4_cable_34 ⟨trivial, ?_⟩
      exact hq _ hR
    · exact absurd ⟨Int32.not_lt.mp c15, Int32.not_lt.mp c20⟩ (rng_no (hi := 3) hk (by decide) rfl)
set_option maxRecDepth 100000 in
set_option maxHeartbeats 4000000 in
theorem c_cable_o1d {k : Int32} {a b : Nat} {ρ ν μ : xM} {φ κ : Nat → Nat} {B : Nat × Nat × Nat × (Nat → Prop)} {Q : Option Value → xM → Prop} (hR : Rel ρ ν μ φ κ B) (hk : rng k 4 = none) (ha : a < 16) (hb : b < 16) (hq : ∀ μ1, Rel ρ (ν) μ1 φ κ B → Q (some (.int (-1))) μ1) : Mt kX4_cable [.ref 1, .int (k), .int (nI a), .int (nI b)] μ Q := by
  have hB := hR.2.1
  refine Mt.enter rfl (Nat.le_of_ble_eq_true rfl) ?_
  refine X.aload_n dX4_cable_0 rfl ?_
  refine X.iload_n dX4_cable_1 rfl ?_
  refine X.cV1a (k' := kX4_channelAt) dX4_cable_2 (hB.1 1 (by decide) (by decide)) ⟨by decide, rfl⟩ v_X4_channelAt wm_X4_59 wi_X4_channelAt ws_X4_channelAt ⟨Nat.le_of_ble_eq_true rfl, Nat.le_of_ble_eq_true rfl⟩ n_X4_channelAt (Nat.le_of_ble_eq_true rfl) ?_
  refine x_channelAt hB ha ?_
  refine ⟨_, rfl, ?_⟩
  refine X.astore dX4_cable_5 (Nat.le_of_ble_eq_true rfl) ?_
  refine X.aload_n dX4_cable_7 rfl ?_
  refine X.iload_n dX4_cable_8 rfl ?_
  refine X.cV1a (k' := kX4_channelAt) dX4_cable_9 (hB.1 1 (by decide) (by decide)) ⟨by decide, rfl⟩ v_X4_channelAt wm_X4_59 wi_X4_channelAt ws_X4_channelAt ⟨Nat.le_of_ble_eq_true rfl, Nat.le_of_ble_eq_true rfl⟩ n_X4_channelAt (Nat.le_of_ble_eq_true rfl) ?_
  refine x_channelAt hB hb ?_
  refine ⟨_, rfl, ?_⟩
  refine X.astore dX4_cable_12 (Nat.le_of_ble_eq_true rfl) ?_
  refine X.iload_n dX4_cable_14 rfl ?_
  refine X.if_lt (tgt := 33) dX4_cable_15 (by decide) (fun c15 => ?_) (fun c15 => ?_)
  · refine X.iconst (v := -1) dX4_cable_33 (by decide) ?_
    refine X.ret dX4_cable_34 ⟨trivial, ?_⟩
    exact hq _ hR
  · refine X.iload_n dX4_cable_18 rfl ?_
    refine X.iconst (v := 3) dX4_cable_19 (by decide) ?_
    refine X.icmp_gt (tgt := 33) dX4_cable_20 (by decide) (fun c20 => ?_) (fun c20 => ?_)
    · refine X.iconst (v := -1) dX4_cable_33 (by decide) ?_
      refine X.ret dX4_cable_34 ⟨trivial, ?_⟩
      exact hq _ hR
    · exact absurd ⟨Int32.not_lt.mp c15, Int32.not_lt.mp c20⟩ (rng_no (hi := 3) hk (by decide) rfl)
set_option maxRecDepth 100000 in
set_option maxHeartbeats 4000000 in
theorem c_cable_o2a {k : Nat} {c d : Int32} {ρ ν μ : xM} {φ κ : Nat → Nat} {B : Nat × Nat × Nat × (Nat → Prop)} {Q : Option Value → xM → Prop} (hR : Rel ρ ν μ φ κ B) (hk : k < 4) (hc : rng c 16 = none) (hd : rng d 16 = none) (hq : ∀ μ1, Rel ρ (ν) μ1 φ κ B → Q (some (.int (-1))) μ1) : Mt kX4_cable [.ref 1, .int (nI k), .int (c), .int (d)] μ Q := by
  have hB := hR.2.1
  refine Mt.enter rfl (Nat.le_of_ble_eq_true rfl) ?_
  refine X.aload_n dX4_cable_0 rfl ?_
  refine X.iload_n dX4_cable_1 rfl ?_
  refine X.cV1n (k' := kX4_channelAt) dX4_cable_2 (hB.1 1 (by decide) (by decide)) ⟨by decide, rfl⟩ v_X4_channelAt wm_X4_59 wi_X4_channelAt ws_X4_channelAt ⟨Nat.le_of_ble_eq_true rfl, Nat.le_of_ble_eq_true rfl⟩ n_X4_channelAt (Nat.le_of_ble_eq_true rfl) ?_
  refine x_channelAt_o hB hc ?_
  refine ⟨rfl, ?_⟩
  refine X.astoreN dX4_cable_5 (Nat.le_of_ble_eq_true rfl) ?_
  refine X.aload_n dX4_cable_7 rfl ?_
  refine X.iload_n dX4_cable_8 rfl ?_
  refine X.cV1n (k' := kX4_channelAt) dX4_cable_9 (hB.1 1 (by decide) (by decide)) ⟨by decide, rfl⟩ v_X4_channelAt wm_X4_59 wi_X4_channelAt ws_X4_channelAt ⟨Nat.le_of_ble_eq_true rfl, Nat.le_of_ble_eq_true rfl⟩ n_X4_channelAt (Nat.le_of_ble_eq_true rfl) ?_
  refine x_channelAt_o hB hd ?_
  refine ⟨rfl, ?_⟩
  refine X.astoreN dX4_cable_12 (Nat.le_of_ble_eq_true rfl) ?_
  refine X.iload_n dX4_cable_14 rfl ?_
  refine X.if_lt_f (tgt := 33) dX4_cable_15 (by decide) (nI_pos (by omega)) ?_
  refine X.iload_n dX4_cable_18 rfl ?_
  refine X.iconst (v := 3) dX4_cable_19 (by decide) ?_
  refine X.icmp_gt_f (tgt := 33) dX4_cable_20 (by decide) ((fun q => absurd q (Int32.not_lt.mpr (nI_le (b := 3) (by omega) (by decide))))) ?_
  refine X.aloadN dX4_cable_23 rfl ?_
  refine X.ifnull_n (tgt := 33) dX4_cable_25 (by decide) ?_
  refine X.iconst (v := -1) dX4_cable_33 (by decide) ?_
  refine X.ret dX4_cable_34 ⟨trivial, ?_⟩
  exact hq _ hR
set_option maxRecDepth 100000 in
set_option maxHeartbeats 4000000 in
theorem c_cable_o2b {k : Nat} {c : Int32} {b : Nat} {ρ ν μ : xM} {φ κ : Nat → Nat} {B : Nat × Nat × Nat × (Nat → Prop)} {Q : Option Value → xM → Prop} (hR : Rel ρ ν μ φ κ B) (hk : k < 4) (hc : rng c 16 = none) (hb : b < 16) (hq : ∀ μ1, Rel ρ (ν) μ1 φ κ B → Q (some (.int (-1))) μ1) : Mt kX4_cable [.ref 1, .int (nI k), .int (c), .int (nI b)] μ Q := by
  have hB := hR.2.1
  refine Mt.enter rfl (Nat.le_of_ble_eq_true rfl) ?_
  refine X.aload_n dX4_cable_0 rfl ?_
  refine X.iload_n dX4_cable_1 rfl ?_
  refine X.cV1n (k' := kX4_channelAt) dX4_cable_2 (hB.1 1 (by decide) (by decide)) ⟨by decide, rfl⟩ v_X4_channelAt wm_X4_59 wi_X4_channelAt ws_X4_channelAt ⟨Nat.le_of_ble_eq_true rfl, Nat.le_of_ble_eq_true rfl⟩ n_X4_channelAt (Nat.le_of_ble_eq_true rfl) ?_
  refine x_channelAt_o hB hc ?_
  refine ⟨rfl, ?_⟩
  refine X.astoreN dX4_cable_5 (Nat.le_of_ble_eq_true rfl) ?_
  refine X.aload_n dX4_cable_7 rfl ?_
  refine X.iload_n dX4_cable_8 rfl ?_
  refine X.cV1a (k' := kX4_channelAt) dX4_cable_9 (hB.1 1 (by decide) (by decide)) ⟨by decide, rfl⟩ v_X4_channelAt wm_X4_59 wi_X4_channelAt ws_X4_channelAt ⟨Nat.le_of_ble_eq_true rfl, Nat.le_of_ble_eq_true rfl⟩ n_X4_channelAt (Nat.le_of_ble_eq_true rfl) ?_
  refine x_channelAt hB hb ?_
  refine ⟨_, rfl, ?_⟩
  refine X.astore dX4_cable_12 (Nat.le_of_ble_eq_true rfl) ?_
  refine X.iload_n dX4_cable_14 rfl ?_
  refine X.if_lt_f (tgt := 33) dX4_cable_15 (by decide) (nI_pos (by omega)) ?_
  refine X.iload_n dX4_cable_18 rfl ?_
  refine X.iconst (v := 3) dX4_cable_19 (by decide) ?_
  refine X.icmp_gt_f (tgt := 33) dX4_cable_20 (by decide) ((fun q => absurd q (Int32.not_lt.mpr (nI_le (b := 3) (by omega) (by decide))))) ?_
  refine X.aloadN dX4_cable_23 rfl ?_
  refine X.ifnull_n (tgt := 33) dX4_cable_25 (by decide) ?_
  refine X.iconst (v := -1) dX4_cable_33 (by decide) ?_
  refine X.ret dX4_cable_34 ⟨trivial, ?_⟩
  exact hq _ hR
set_option maxRecDepth 100000 in
set_option maxHeartbeats 4000000 in
theorem c_cable_o3 {k a : Nat} {d : Int32} {ρ ν μ : xM} {φ κ : Nat → Nat} {B : Nat × Nat × Nat × (Nat → Prop)} {Q : Option Value → xM → Prop} (hR : Rel ρ ν μ φ κ B) (hk : k < 4) (ha : a < 16) (hd : rng d 16 = none) (hq : ∀ μ1, Rel ρ (ν) μ1 φ κ B → Q (some (.int (-1))) μ1) : Mt kX4_cable [.ref 1, .int (nI k), .int (nI a), .int (d)] μ Q := by
  have hB := hR.2.1
  refine Mt.enter rfl (Nat.le_of_ble_eq_true rfl) ?_
  refine X.aload_n dX4_cable_0 rfl ?_
  refine X.iload_n dX4_cable_1 rfl ?_
  refine X.cV1a (k' := kX4_channelAt) dX4_cable_2 (hB.1 1 (by decide) (by decide)) ⟨by decide, rfl⟩ v_X4_channelAt wm_X4_59 wi_X4_channelAt ws_X4_channelAt ⟨Nat.le_of_ble_eq_true rfl, Nat.le_of_ble_eq_true rfl⟩ n_X4_channelAt (Nat.le_of_ble_eq_true rfl) ?_
  refine x_channelAt hB ha ?_
  refine ⟨_, rfl, ?_⟩
  refine X.astore dX4_cable_5 (Nat.le_of_ble_eq_true rfl) ?_
  refine X.aload_n dX4_cable_7 rfl ?_
  refine X.iload_n dX4_cable_8 rfl ?_
  refine X.cV1n (k' := kX4_channelAt) dX4_cable_9 (hB.1 1 (by decide) (by decide)) ⟨by decide, rfl⟩ v_X4_channelAt wm_X4_59 wi_X4_channelAt ws_X4_channelAt ⟨Nat.le_of_ble_eq_true rfl, Nat.le_of_ble_eq_true rfl⟩ n_X4_channelAt (Nat.le_of_ble_eq_true rfl) ?_
  refine x_channelAt_o hB hd ?_
  refine ⟨rfl, ?_⟩
  refine X.astoreN dX4_cable_12 (Nat.le_of_ble_eq_true rfl) ?_
  refine X.iload_n dX4_cable_14 rfl ?_
  refine X.if_lt_f (tgt := 33) dX4_cable_15 (by decide) (nI_pos (by omega)) ?_
  refine X.iload_n dX4_cable_18 rfl ?_
  refine X.iconst (v := 3) dX4_cable_19 (by decide) ?_
  refine X.icmp_gt_f (tgt := 33) dX4_cable_20 (by decide) ((fun q => absurd q (Int32.not_lt.mpr (nI_le (b := 3) (by omega) (by decide))))) ?_
  refine X.aload dX4_cable_23 rfl ?_
  refine X.ifnull_r dX4_cable_25 ?_
  refine X.aloadN dX4_cable_28 rfl ?_
  refine X.ifnonnull_n dX4_cable_30 ?_
  refine X.iconst (v := -1) dX4_cable_33 (by decide) ?_
  refine X.ret dX4_cable_34 ⟨trivial, ?_⟩
  exact hq _ hR
