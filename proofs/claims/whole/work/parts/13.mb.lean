/-! the reference: tapes and cells (laid by wip/whole/mkmodel2.py) -/
def kd (μ : xM) (t : Nat) : Nat := (mI μ 45 t).toNatClampNeg
def sz (μ : xM) (t : Nat) : Nat := (mI μ 46 t).toNatClampNeg
def tp (μ : xM) (c : Nat) : Nat := (mI μ 50 c).toNatClampNeg
def cv (μ : xM) (t j : Nat) : Int64 := mJ μ 48 (32 * t + j)
def ix (i : Int32) : Nat := i.toInt.toNat
def lx (v : Int64) : Nat := v.toInt.toNat
def qM (μ : xM) : Nat := (mI μ 44 10).toNatClampNeg
def gM (μ : xM) : Nat := (mI μ 44 4).toNatClampNeg
def fM (μ : xM) : Nat := (mI μ 44 20).toNatClampNeg
/-- channels and tapes of the reference stand well -/
def WFt (μ : xM) : Prop := (∀ c, c < 16 → noTapeM μ c = 0 → tp μ c < 560 ∧ mI μ 50 c = nI (tp μ c)) ∧
  (∀ t, t < 560 → (mI μ 45 t = nI (kd μ t) ∧ kd μ t ≤ 10) ∧ mI μ 46 t = nI (sz μ t) ∧ sz μ t ≤ 32) ∧
  ∀ t, t < 560 → 8 ≤ kd μ t → ∀ j, j < sz μ t → cv μ t j = lN (lx (cv μ t j)) ∧ lx (cv μ t j) ≤ 560 ∧ (kd μ t < 10 → lx (cv μ t j) ≤ 200)
def noPlaceM (μ : xM) (c : Nat) (i : Int32) : Nat := if noTapeM μ c = 0 then (match rng i (sz μ (tp μ c)) with
  | none => 3
  | some _ => 0) else noTapeM μ c
def cellKindM (μ : xM) (t j : Nat) : Nat := if kd μ t < 8 then kd μ t else if cv μ t j = 0 then 11 else if kd μ t = 10 then 10 else if mI μ 49 (lx (cv μ t j)) = 0 then 8 else 9
def numM (μ : xM) (t j : Nat) : Int64 := if kd μ t = 10 then (if 0 < cv μ t j then (mI μ 46 (lx (cv μ t j) - 1)).toInt64 else cv μ t j) else cv μ t j
def takesM (k o : Nat) : Bool := if 7 < k then (o == 11 || o == k || (k == 8 && o == 9)) else if k = o then true else if k = 2 then o == 1 else (decide (3 < k) && decide (0 < o) && decide (o < k))
def noTakeM (k o : Nat) : Nat := if takesM k o then 0 else 2
def fitM (k : Nat) (v : Int64) : Int64 := match k with
  | 0 => if v = 0 then 0 else 1
  | 1 => v.toInt32.toInt8.toInt32.toInt64
  | 2 => v.toInt32.toInt16.toInt32.toInt64
  | 3 => v &&& 65535
  | 4 => v.toInt32.toInt64
  | 5 => v
  | 6 => FP.f2l (FP.l2f v)
  | 7 => FP.d2l (FP.l2d v)
  | _ => v
def noWriteM (μ : xM) (c : Nat) (i : Int32) (K : Nat) : Nat := if noTapeM μ c = 0 then (if kd μ (tp μ c) < 8 ∧ K = 11 then 2 else if noPlaceM μ c i = 0 then noTakeM (kd μ (tp μ c)) K else noPlaceM μ c i) else noTapeM μ c
def writesM (μ : xM) (c : Nat) (i : Int32) (K : Nat) (v : Int64) : xM := if noWriteM μ c i K = 0 then sJ μ 48 (32 * tp μ c + ix i) (fitM (kd μ (tp μ c)) v) else μ
theorem nI_32 : (32 : Int32) = nI 32 := rfl
theorem at_eq {μ : xM} {c j : Nat} (e : mI μ 50 c = nI (tp μ c)) : 32 * mI μ 50 c + nI j = nI (32 * tp μ c + j) := by rw [e, nI_32, pk_mul, nI_add]
theorem at_eq2 (t j : Nat) : 32 * nI t + nI j = nI (32 * t + j) := by rw [nI_32, pk_mul, nI_add]
theorem ix_nI {j : Nat} (h : j < 2 ^ 31) : ix (nI j) = j := by
  unfold ix
  rw [nI_toInt h]
  rfl
theorem noPlace_le (μ : xM) (c : Nat) (i : Int32) : noPlaceM μ c i < 6 := by
  unfold noPlaceM
  have := noTapeM_le μ c
  split
  · split <;> omega
  · omega
theorem noPlace_0 {μ : xM} {c : Nat} {i : Int32} (h : noPlaceM μ c i = 0) : noTapeM μ c = 0 ∧ rng i (sz μ (tp μ c)) = some (ix i) ∧ i = nI (ix i) ∧ ix i < sz μ (tp μ c) := by
  unfold noPlaceM at h
  by_cases h0 : noTapeM μ c = 0
  · rw [if_pos h0] at h
    cases hr : rng i (sz μ (tp μ c)) with
    | none => rw [hr] at h; cases h
    | some j =>
      obtain ⟨rfl, hj⟩ := rng_some hr
      have hz : sz μ (tp μ c) < 2 ^ 31 ∨ 2 ^ 31 ≤ sz μ (tp μ c) := by omega
      unfold rng at hr
      by_cases hq : 0 ≤ (nI j).toInt ∧ (nI j).toInt < sz μ (tp μ c)
      · rw [if_pos hq] at hr
        have e : ix (nI j) = j := Option.some.inj hr
        rw [e]
        exact ⟨h0, rfl, rfl, hj⟩
      · rw [if_neg hq] at hr; cases hr
  · rw [if_neg h0] at h
    exact absurd h h0
theorem noTake_le (k o : Nat) : noTakeM k o < 6 := by unfold noTakeM; split <;> omega
theorem noWrite_le (μ : xM) (c : Nat) (i : Int32) (K : Nat) : noWriteM μ c i K < 6 := by
  unfold noWriteM
  have h1 := noTapeM_le μ c
  have h2 := noPlace_le μ c i
  have h3 := noTake_le (kd μ (tp μ c)) K
  split
  · split
    · omega
    · split <;> omega
  · omega
theorem nI_gt0 {r : Nat} (h : ¬ nI r ≤ 0) : r ≠ 0 := fun e => h (by rw [e]; decide)
set_option maxRecDepth 100000 in
set_option maxHeartbeats 4000000 in
theorem m_kindOf {c : Nat} {μ : xM} {Q : Option Value → xM → Prop} (hM : ShM μ) (hw : WFt μ) (hc : c < 16) (h0 : noTapeM μ c = 0) (hq : Q (some (.int (nI (kd μ (tp μ c))))) μ) : Mt kX5_kindOf [.ref 44, .int (nI c)] μ Q := by
  obtain ⟨ht, et⟩ := hw.1 c hc h0
  obtain ⟨⟨ek, lk⟩, es, ls⟩ := hw.2.1 _ ht
  refine Mt.enter rfl (Nat.le_of_ble_eq_true rfl) ?_
  refine X.aload_n dX5_kindOf_0 rfl ?_
  refine X.getR (b := 45) (kf := 0) dX5_kindOf_1 (hM.1 44 (by decide) (by decide)) (by decide) (by decide) rfl wf_X5_7 (hM.2 0 (by decide)) ?_
  refine X.aload_n dX5_kindOf_4 rfl ?_
  refine X.getR (b := 50) (kf := 6) dX5_kindOf_5 (hM.1 44 (by decide) (by decide)) (by decide) (by decide) rfl wf_X5_27 (hM.2 6 (by decide)) ?_
  refine X.iload_n dX5_kindOf_8 rfl ?_
  refine X.iald dX5_kindOf_9 (hM.1 50 (by decide) (by decide)) (rfl) (hc) (by decide) ?_
  refine X.iald dX5_kindOf_10 (hM.1 45 (by decide) (by decide)) (et) (ht) (by decide) ?_
  refine X.ret dX5_kindOf_11 ⟨trivial, ?_⟩
  rw [ek]
  exact hq
set_option maxRecDepth 100000 in
set_option maxHeartbeats 4000000 in
theorem m_at {c j : Nat} {μ : xM} {Q : Option Value → xM → Prop} (hM : ShM μ) (hw : WFt μ) (hc : c < 16) (h0 : noTapeM μ c = 0) (hq : Q (some (.int (nI (32 * tp μ c + j)))) μ) : Mt kX5_at [.ref 44, .int (nI c), .int (nI j)] μ Q := by
  obtain ⟨ht, et⟩ := hw.1 c hc h0
  obtain ⟨⟨ek, lk⟩, es, ls⟩ := hw.2.1 _ ht
  refine Mt.enter rfl (Nat.le_of_ble_eq_true rfl) ?_
  refine X.bipush (v := 32) dX5_at_0 (by decide) ?_
  refine X.aload_n dX5_at_2 rfl ?_
  refine X.getR (b := 50) (kf := 6) dX5_at_3 (hM.1 44 (by decide) (by decide)) (by decide) (by decide) rfl wf_X5_27 (hM.2 6 (by decide)) ?_
  refine X.iload_n dX5_at_6 rfl ?_
  refine X.iald dX5_at_7 (hM.1 50 (by decide) (by decide)) (rfl) (hc) (by decide) ?_
  refine X.imul dX5_at_8 ?_
  refine X.iload_n dX5_at_9 rfl ?_
  refine X.iadd dX5_at_10 ?_
  refine X.ret dX5_at_11 ⟨trivial, ?_⟩
  rw [at_eq et]
  exact hq
set_option maxRecDepth 100000 in
set_option maxHeartbeats 4000000 in
theorem np_out {c : Nat} {i : Int32} {μ : xM} {Q : Option Value → xM → Prop} (hM : ShM μ) (hw : WFt μ) (hc : c < 16) (h0 : noTapeM μ c = 0) (hr : rng i (sz μ (tp μ c)) = none) (hq : Q (some (.int (nI 3))) μ) : Mt kX5_noPlace [.ref 44, .int (nI c), .int i] μ Q := by
  obtain ⟨ht, et⟩ := hw.1 c hc h0
  obtain ⟨⟨ek, lk⟩, es, ls⟩ := hw.2.1 _ ht
  refine Mt.enter rfl (Nat.le_of_ble_eq_true rfl) ?_
  refine X.aload_n dX5_noPlace_0 rfl ?_
  refine X.iload_n dX5_noPlace_1 rfl ?_
  refine X.cV1i (k' := kX5_noTape) dX5_noPlace_2 (hM.1 44 (by decide) (by decide)) ⟨by decide, rfl⟩ v_X5_noTape wm_X5_102 wi_X5_noTape ws_X5_noTape ⟨Nat.le_of_ble_eq_true rfl, Nat.le_of_ble_eq_true rfl⟩ n_X5_noTape (Nat.le_of_ble_eq_true rfl) ?_
  refine m_noTape hM hc ?_
  refine ⟨_, rfl, ?_⟩
  refine X.istore_n dX5_noPlace_5 (Nat.le_of_ble_eq_true rfl) ?_
  refine X.iload_n dX5_noPlace_6 rfl ?_
  refine X.if_le_t (tgt := 14) dX5_noPlace_7 (by decide) ((by rw [h0]; decide)) ?_
  refine X.iload_n dX5_noPlace_14 rfl ?_
  refine X.iconst (v := 0) dX5_noPlace_15 (by decide) ?_
  refine X.aload_n dX5_noPlace_16 rfl ?_
  refine X.getR (b := 46) (kf := 1) dX5_noPlace_17 (hM.1 44 (by decide) (by decide)) (by decide) (by decide) rfl wf_X5_13 (hM.2 1 (by decide)) ?_
  refine X.aload_n dX5_noPlace_20 rfl ?_
  refine X.getR (b := 50) (kf := 6) dX5_noPlace_21 (hM.1 44 (by decide) (by decide)) (by decide) (by decide) rfl wf_X5_27 (hM.2 6 (by decide)) ?_
  refine X.iload_n dX5_noPlace_24 rfl ?_
  refine X.iald dX5_noPlace_25 (hM.1 50 (by decide) (by decide)) (rfl) (hc) (by decide) ?_
  refine X.iald dX5_noPlace_26 (hM.1 46 (by decide) (by decide)) (et) (ht) (by decide) ?_
  refine X.iconst (v := 1) dX5_noPlace_27 (by decide) ?_
  refine X.isub dX5_noPlace_28 ?_
  refine X.cS3i (k' := kX5_isIn) dX5_noPlace_29 v_X5_isIn wm_X5_75 wt_X5_isIn ⟨Nat.le_of_ble_eq_true rfl, Nat.le_of_ble_eq_true rfl⟩ n_X5_isIn (Nat.le_of_ble_eq_true rfl) ?_
  refine m_isIn_f (rng_no hr (by omega) (by rw [es])) ?_
  refine ⟨_, rfl, ?_⟩
  refine X.if_eq_t (tgt := 39) dX5_noPlace_32 (by decide) (by decide) ?_
  refine X.iconst (v := 3) dX5_noPlace_39 (by decide) ?_
  refine X.ret dX5_noPlace_40 ⟨trivial, ?_⟩
  exact hq
set_option maxRecDepth 100000 in
set_option maxHeartbeats 4000000 in
theorem np_in {c j : Nat} {i : Int32} {μ : xM} {Q : Option Value → xM → Prop} (hM : ShM μ) (hw : WFt μ) (hc : c < 16) (h0 : noTapeM μ c = 0) (hr : rng i (sz μ (tp μ c)) = some j) (hq : Q (some (.int (nI 0))) μ) : Mt kX5_noPlace [.ref 44, .int (nI c), .int i] μ Q := by
  obtain ⟨ht, et⟩ := hw.1 c hc h0
  obtain ⟨⟨ek, lk⟩, es, ls⟩ := hw.2.1 _ ht
  refine Mt.enter rfl (Nat.le_of_ble_eq_true rfl) ?_
  refine X.aload_n dX5_noPlace_0 rfl ?_
  refine X.iload_n dX5_noPlace_1 rfl ?_
  refine X.cV1i (k' := kX5_noTape) dX5_noPlace_2 (hM.1 44 (by decide) (by decide)) ⟨by decide, rfl⟩ v_X5_noTape wm_X5_102 wi_X5_noTape ws_X5_noTape ⟨Nat.le_of_ble_eq_true rfl, Nat.le_of_ble_eq_true rfl⟩ n_X5_noTape (Nat.le_of_ble_eq_true rfl) ?_
  refine m_noTape hM hc ?_
  refine ⟨_, rfl, ?_⟩
  refine X.istore_n dX5_noPlace_5 (Nat.le_of_ble_eq_true rfl) ?_
  refine X.iload_n dX5_noPlace_6 rfl ?_
  refine X.if_le_t (tgt := 14) dX5_noPlace_7 (by decide) ((by rw [h0]; decide)) ?_
  refine X.iload_n dX5_noPlace_14 rfl ?_
  refine X.iconst (v := 0) dX5_noPlace_15 (by decide) ?_
  refine X.aload_n dX5_noPlace_16 rfl ?_
  refine X.getR (b := 46) (kf := 1) dX5_noPlace_17 (hM.1 44 (by decide) (by decide)) (by decide) (by decide) rfl wf_X5_13 (hM.2 1 (by decide)) ?_
  refine X.aload_n dX5_noPlace_20 rfl ?_
  refine X.getR (b := 50) (kf := 6) dX5_noPlace_21 (hM.1 44 (by decide) (by decide)) (by decide) (by decide) rfl wf_X5_27 (hM.2 6 (by decide)) ?_
  refine X.iload_n dX5_noPlace_24 rfl ?_
  refine X.iald dX5_noPlace_25 (hM.1 50 (by decide) (by decide)) (rfl) (hc) (by decide) ?_
  refine X.iald dX5_noPlace_26 (hM.1 46 (by decide) (by decide)) (et) (ht) (by decide) ?_
  refine X.iconst (v := 1) dX5_noPlace_27 (by decide) ?_
  refine X.isub dX5_noPlace_28 ?_
  refine X.cS3i (k' := kX5_isIn) dX5_noPlace_29 v_X5_isIn wm_X5_75 wt_X5_isIn ⟨Nat.le_of_ble_eq_true rfl, Nat.le_of_ble_eq_true rfl⟩ n_X5_isIn (Nat.le_of_ble_eq_true rfl) ?_
  refine m_isIn_t (rng_in hr (by omega) (by rw [es])) ?_
  refine ⟨_, rfl, ?_⟩
  refine X.if_eq_f (tgt := 39) dX5_noPlace_32 (by decide) (by decide) ?_
  refine X.iconst (v := 0) dX5_noPlace_35 (by decide) ?_
  refine X.goto (tgt := 40) dX5_noPlace_36 (by decide) ?_
  refine X.ret dX5_noPlace_40 ⟨trivial, ?_⟩
  exact hq
set_option maxRecDepth 100000 in
set_option maxHeartbeats 4000000 in
theorem m_noPlace {c : Nat} {i : Int32} {μ : xM} {Q : Option Value → xM → Prop} (hM : ShM μ) (hw : WFt μ) (hc : c < 16) (hq : Q (some (.int (nI (noPlaceM μ c i)))) μ) : Mt kX5_noPlace [.ref 44, .int (nI c), .int i] μ Q := by
  by_cases h0 : ¬ noTapeM μ c = 0
  · have e1 : noPlaceM μ c i = noTapeM μ c := by unfold noPlaceM; rw [if_neg h0]
    rw [e1] at hq
    refine Mt.enter rfl (Nat.le_of_ble_eq_true rfl) ?_
    refine X.aload_n dX5_noPlace_0 rfl ?_
    refine X.iload_n dX5_noPlace_1 rfl ?_
    refine X.cV1i (k' := kX5_noTape) dX5_noPlace_2 (hM.1 44 (by decide) (by decide)) ⟨by decide, rfl⟩ v_X5_noTape wm_X5_102 wi_X5_noTape ws_X5_noTape ⟨Nat.le_of_ble_eq_true rfl, Nat.le_of_ble_eq_true rfl⟩ n_X5_noTape (Nat.le_of_ble_eq_true rfl) ?_
    refine m_noTape hM hc ?_
    refine ⟨_, rfl, ?_⟩
    refine X.istore_n dX5_noPlace_5 (Nat.le_of_ble_eq_true rfl) ?_
    refine X.iload_n dX5_noPlace_6 rfl ?_
    refine X.if_le_f (tgt := 14) dX5_noPlace_7 (by decide) (fun q => h0 (nI_le0 q (by have := noTapeM_le μ c; omega))) ?_
    refine X.iload_n dX5_noPlace_10 rfl ?_
    refine X.goto (tgt := 40) dX5_noPlace_11 (by decide) ?_
    refine X.ret dX5_noPlace_40 ⟨trivial, ?_⟩
    exact hq
  · have h0 : noTapeM μ c = 0 := Decidable.not_not.mp h0
    cases hr : rng i (sz μ (tp μ c)) with
    | none =>
      have e1 : noPlaceM μ c i = 3 := by unfold noPlaceM; rw [if_pos h0, hr]
      rw [e1] at hq
      exact np_out hM hw hc h0 hr hq
    | some j =>
      have e1 : noPlaceM μ c i = 0 := by unfold noPlaceM; rw [if_pos h0, hr]
      rw [e1] at hq
      exact np_in hM hw hc h0 hr hq
set_option maxRecDepth 100000 in
set_option maxHeartbeats 4000000 in
theorem m_takesF {k : Fin 11} {o : Fin 13} {μ : xM} {Q : Option Value → xM → Prop} (hq : Q (some (.int (if takesM k.val o.val then 1 else 0))) μ) : Mt kX5_takes [.int (nI k.val), .int (nI o.val)] μ Q := by
  refine Mt.enter rfl (Nat.le_of_ble_eq_true rfl) ?_
  refine X.iload_n dX5_takes_0 rfl ?_
  refine X.bipush (v := 7) dX5_takes_1 (by decide) ?_
  refine X.icmp_le (tgt := 35) dX5_takes_3 (by decide) (fun c3 => ?_) (fun c3 => ?_)
  · refine X.iload_n dX5_takes_35 rfl ?_
    refine X.iload_n dX5_takes_36 rfl ?_
    refine X.icmp_ne (tgt := 42) dX5_takes_37 (by decide) (fun c37 => ?_) (fun c37 => ?_)
    · refine X.iload_n dX5_takes_42 rfl ?_
      refine X.iconst (v := 2) dX5_takes_43 (by decide) ?_
      refine X.icmp_ne (tgt := 58) dX5_takes_44 (by decide) (fun c44 => ?_) (fun c44 => ?_)
      · refine X.iload_n dX5_takes_58 rfl ?_
        refine X.iconst (v := 3) dX5_takes_59 (by decide) ?_
        refine X.icmp_le (tgt := 76) dX5_takes_60 (by decide) (fun c60 => ?_) (fun c60 => ?_)
        · refine X.iconst (v := 0) dX5_takes_76 (by decide) ?_
          refine X.ret dX5_takes_77 ⟨(by first | exact Or.inl rfl | exact Or.inr rfl), ?_⟩
          first
            | (have e : takesM k.val o.val = true := by clear hq; revert k o; decide +kernel
               rw [e] at hq; exact hq)
            | (have e : takesM k.val o.val = false := by clear hq; revert k o; decide +kernel
               rw [e] at hq; exact hq)
        · refine X.iload_n dX5_takes_63 rfl ?_
          refine X.if_le (tgt := 76) dX5_takes_64 (by decide) (fun c64 => ?_) (fun c64 => ?_)
          · refine X.iconst (v := 0) dX5_takes_76 (by decide) ?_
            refine X.ret dX5_takes_77 ⟨(by first | exact Or.inl rfl | exact Or.inr rfl), ?_⟩
            first
              | (have e : takesM k.val o.val = true := by clear hq; revert k o; decide +kernel
                 rw [e] at hq; exact hq)
              | (have e : takesM k.val o.val = false := by clear hq; revert k o; decide +kernel
                 rw [e] at hq; exact hq)
          · refine X.iload_n dX5_takes_67 rfl ?_
            refine X.iload_n dX5_takes_68 rfl ?_
            refine X.icmp_ge (tgt := 76) dX5_takes_69 (by decide) (fun c69 => ?_) (fun c69 => ?_)
            · refine X.iconst (v := 0) dX5_takes_76 (by decide) ?_
              refine X.ret dX5_takes_77 ⟨(by first | exact Or.inl rfl | exact Or.inr rfl), ?_⟩
              first
                | (have e : takesM k.val o.val = true := by clear hq; revert k o; decide +kernel
                   rw [e] at hq; exact hq)
                | (have e : takesM k.val o.val = false := by clear hq; revert k o; decide +kernel
                   rw [e] at hq; exact hq)
            · refine X.iconst (v := 1) dX5_takes_72 (by decide) ?_
              refine X.goto (tgt := 77) dX5_takes_73 (by decide) ?_
              refine X.ret dX5_takes_77 ⟨(by first | exact Or.inl rfl | exact Or.inr rfl), ?_⟩
              first
                | (have e : takesM k.val o.val = true := by clear hq; revert k o; decide +kernel
                   rw [e] at hq; exact hq)
                | (have e : takesM k.val o.val = false := by clear hq; revert k o; decide +kernel
                   rw [e] at hq; exact hq)
      · refine X.iload_n dX5_takes_47 rfl ?_
        refine X.iconst (v := 1) dX5_takes_48 (by decide) ?_
        refine X.icmp_ne (tgt := 56) dX5_takes_49 (by decide) (fun c49 => ?_) (fun c49 => ?_)
        · refine X.iconst (v := 0) dX5_takes_56 (by decide) ?_
          refine X.ret dX5_takes_57 ⟨(by first | exact Or.inl rfl | exact Or.inr rfl), ?_⟩
          first
            | (have e : takesM k.val o.val = true := by clear hq; revert k o; decide +kernel
               rw [e] at hq; exact hq)
            | (have e : takesM k.val o.val = false := by clear hq; revert k o; decide +kernel
               rw [e] at hq; exact hq)
        · refine X.iconst (v := 1) dX5_takes_52 (by decide) ?_
          refine X.goto (tgt := 57) dX5_takes_53 (by decide) ?_
          refine X.ret dX5_takes_57 ⟨(by first | exact Or.inl rfl | exact Or.inr rfl), ?_⟩
          first
            | (have e : takesM k.val o.val = true := by clear hq; revert k o; decide +kernel
               rw [e] at hq; exact hq)
            | (have e : takesM k.val o.val = false := by clear hq; revert k o; decide +kernel
               rw [e] at hq; exact hq)
    · refine X.iconst (v := 1) dX5_takes_40 (by decide) ?_
      refine X.ret dX5_takes_41 ⟨(by first | exact Or.inl rfl | exact Or.inr rfl), ?_⟩
      first
        | (have e : takesM k.val o.val = true := by clear hq; revert k o; decide +kernel
           rw [e] at hq; exact hq)
        | (have e : takesM k.val o.val = false := by clear hq; revert k o; decide +kernel
           rw [e] at hq; exact hq)
  · refine X.iload_n dX5_takes_6 rfl ?_
    refine X.bipush (v := 11) dX5_takes_7 (by decide) ?_
    refine X.icmp_eq (tgt := 29) dX5_takes_9 (by decide) (fun c9 => ?_) (fun c9 => ?_)
    · refine X.iconst (v := 1) dX5_takes_29 (by decide) ?_
      refine X.goto (tgt := 34) dX5_takes_30 (by decide) ?_
      refine X.ret dX5_takes_34 ⟨(by first | exact Or.inl rfl | exact Or.inr rfl), ?_⟩
      first
        | (have e : takesM k.val o.val = true := by clear hq; revert k o; decide +kernel
           rw [e] at hq; exact hq)
        | (have e : takesM k.val o.val = false := by clear hq; revert k o; decide +kernel
           rw [e] at hq; exact hq)
    · refine X.iload_n dX5_takes_12 rfl ?_
      refine X.iload_n dX5_takes_13 rfl ?_
      refine X.icmp_eq (tgt := 29) dX5_takes_14 (by decide) (fun c14 => ?_) (fun c14 => ?_)
      · refine X.iconst (v := 1) dX5_takes_29 (by decide) ?_
        refine X.goto (tgt := 34) dX5_takes_30 (by decide) ?_
        refine X.ret dX5_takes_34 ⟨(by first | exact Or.inl rfl | exact Or.inr rfl), ?_⟩
        first
          | (have e : takesM k.val o.val = true := by clear hq; revert k o; decide +kernel
             rw [e] at hq; exact hq)
          | (have e : takesM k.val o.val = false := by clear hq; revert k o; decide +kernel
             rw [e] at hq; exact hq)
      · refine X.iload_n dX5_takes_17 rfl ?_
        refine X.bipush (v := 8) dX5_takes_18 (by decide) ?_
        refine X.icmp_ne (tgt := 33) dX5_takes_20 (by decide) (fun c20 => ?_) (fun c20 => ?_)
        · refine X.iconst (v := 0) dX5_takes_33 (by decide) ?_
          refine X.ret dX5_takes_34 ⟨(by first | exact Or.inl rfl | exact Or.inr rfl), ?_⟩
          first
            | (have e : takesM k.val o.val = true := by clear hq; revert k o; decide +kernel
               rw [e] at hq; exact hq)
            | (have e : takesM k.val o.val = false := by clear hq; revert k o; decide +kernel
               rw [e] at hq; exact hq)
        · refine X.iload_n dX5_takes_23 rfl ?_
          refine X.bipush (v := 9) dX5_takes_24 (by decide) ?_
          refine X.icmp_ne (tgt := 33) dX5_takes_26 (by decide) (fun c26 => ?_) (fun c26 => ?_)
          · refine X.iconst (v := 0) dX5_takes_33 (by decide) ?_
            refine X.ret dX5_takes_34 ⟨(by first | exact Or.inl rfl | exact Or.inr rfl), ?_⟩
            first
              | (have e : takesM k.val o.val = true := by clear hq; revert k o; decide +kernel
                 rw [e] at hq; exact hq)
              | (have e : takesM k.val o.val = false := by clear hq; revert k o; decide +kernel
                 rw [e] at hq; exact hq)
          · refine X.iconst (v := 1) dX5_takes_29 (by decide) ?_
            refine X.goto (tgt := 34) dX5_takes_30 (by decide) ?_
            refine X.ret dX5_takes_34 ⟨(by first | exact Or.inl rfl | exact Or.inr rfl), ?_⟩
            first
              | (have e : takesM k.val o.val = true := by clear hq; revert k o; decide +kernel
                 rw [e] at hq; exact hq)
              | (have e : takesM k.val o.val = false := by clear hq; revert k o; decide +kernel
                 rw [e] at hq; exact hq)
theorem m_takes {k o : Nat} {μ : xM} {Q : Option Value → xM → Prop} (hk : k ≤ 10) (ho : o ≤ 12) (hq : Q (some (.int (if takesM k o then 1 else 0))) μ) : Mt kX5_takes [.int (nI k), .int (nI o)] μ Q :=
  m_takesF (k := ⟨k, by omega⟩) (o := ⟨o, by omega⟩) hq
