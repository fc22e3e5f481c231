/-! the class: cells and tapes (laid by wip/whole/mkpb2.py) -/
/-! references that may be null -/
def rv : Option Nat → Value := fun o => match o with
  | none => .null
  | some b => .ref b
section XO
variable {k : xk} {sc : xsc} {pc : Nat} {lv : Nat → Option Value} {st : List Value} {μ : xM} {Q : Option Value → xM → Prop} {a c n kf idx i : Nat} {j : Int32} {r : Option Nat}
theorem X.getO (d : decode k.2.1 pc = .ok (.getfield idx, 3)) (hT : mT μ a = (c, n)) (hc : c < 6) (hk : kf < xnf c) (hf : xft c kf = 2) (w : Cond.fieldLink k.1.cls idx (xT c kf).1 (xT c kf).2.1 (xT c kf).2.2.1 ∈ xtbl)
    (kk : X k sc (pc + 3) lv (rv (mR μ a kf) :: st) μ Q) : X k sc pc lv (.ref a :: st) μ Q := by
  cases h : mR μ a kf with
  | none => rw [h] at kk; exact X.getN d hT hc hk hf w h kk
  | some b => rw [h] at kk; exact X.getR d hT hc hk hf w h kk
theorem X.putO (d : decode k.2.1 pc = .ok (.putfield idx, 3)) (hT : mT μ a = (c, n)) (hc : c < 6) (hk : kf < xnf c) (hf : xft c kf = 2) (hfin : xfin k c kf) (hn : (∀ b : Nat, narrow (xty c kf) (.ref b) = .ref b ∧ fits (xty c kf) (.ref b) = true) ∧ narrow (xty c kf) .null = .null ∧ fits (xty c kf) .null = true)
    (w : Cond.fieldLink k.1.cls idx (xT c kf).1 (xT c kf).2.1 (xT c kf).2.2.1 ∈ xtbl) (kk : X k sc (pc + 3) lv st (sR μ a kf r) Q) : X k sc pc lv (rv r :: .ref a :: st) μ Q := by
  cases r with
  | none => exact X.putN d hT hc hk hf hfin hn.2 w kk
  | some b => exact X.putR d hT hc hk hf hfin hn.1 w kk
theorem X.aaldO (d : decode k.2.1 pc = .ok (.aaload, 1)) (hT : mT μ a = (c, n)) (h9 : 9 ≤ c ∧ c < 13) (hj : j = nI i) (hi : i < n) (hn : n < 2 ^ 31) (kk : X k sc (pc + 1) lv (rv (mR μ a i) :: st) μ Q) : X k sc pc lv (.int j :: .ref a :: st) μ Q := by
  cases h : mR μ a i with
  | none => rw [h] at kk; exact X.aaldN d hT h9 hj hi hn h kk
  | some b => rw [h] at kk; exact X.aald d hT h9 hj hi hn h kk
theorem X.aastO (d : decode k.2.1 pc = .ok (.aastore, 1)) (hT : mT μ a = (c, n)) (h9 : 9 ≤ c ∧ c < 12) (hb : ∀ b, r = some b → mT μ b = (xac c, 0)) (hj : j = nI i) (hi : i < n) (hn : n < 2 ^ 31) (kk : X k sc (pc + 1) lv st (sR μ a i r) Q) : X k sc pc lv (rv r :: .int j :: .ref a :: st) μ Q := by
  cases r with
  | none => exact X.aastN d hT h9 hj hi hn kk
  | some b => exact X.aast d hT h9 (hb b rfl) hj hi hn kk
theorem X.aload_nO {m : Fin 4} (d : decode k.2.1 pc = .ok (.aload_n m, 1)) (h : lv (m : Nat) = some (rv r)) (kk : X k sc (pc + 1) lv (rv r :: st) μ Q) : X k sc pc lv st μ Q := by
  cases r with
  | none => exact X.aload_nN d h kk
  | some b => exact X.aload_n d h kk
theorem X.aloadO {m : Nat} (d : decode k.2.1 pc = .ok (.aload m, 2)) (h : lv m = some (rv r)) (kk : X k sc (pc + 2) lv (rv r :: st) μ Q) : X k sc pc lv st μ Q := by
  cases r with
  | none => exact X.aloadN d h kk
  | some b => exact X.aload d h kk
end XO
set_option maxRecDepth 100000 in
set_option maxHeartbeats 4000000 in
theorem x_become {h : Nat} {K : Int32} {num : Int64} {r : Option Nat} {μ : xM} {Q : Option Value → xM → Prop} (hh : mT μ h = (1, 0)) (hq : Q none (cellP μ h K num r)) : Mt kX1_become [.ref h, .int K, .long num, rv r] μ Q := by
  cases r
  · skip
    refine Mt.enter rfl (Nat.le_of_ble_eq_true rfl) ?_
    refine X.aload_n dX1_become_0 rfl ?_
    refine X.iload_n dX1_become_1 rfl ?_
    refine X.putI (kf := 0) dX1_become_2 (hh) (by decide) (by decide) rfl (Or.inl rfl) ⟨rfl, rfl⟩ wf_X1_9 ?_
    refine X.aload_n dX1_become_5 rfl ?_
    refine X.lload_n dX1_become_6 rfl ?_
    refine X.putJ (kf := 1) dX1_become_7 (hh) (by decide) (by decide) rfl (Or.inl rfl) ⟨rfl, rfl⟩ wf_X1_15 ?_
    refine X.aload_n dX1_become_10 rfl ?_
    refine X.aloadN dX1_become_11 rfl ?_
    refine X.putN (kf := 2) dX1_become_13 (hh) (by decide) (by decide) rfl (Or.inl rfl) ⟨rfl, rfl⟩ wf_X1_19 ?_
    refine X.retv dX1_become_16 ⟨trivial, ?_⟩
    exact hq
  · skip
    refine Mt.enter rfl (Nat.le_of_ble_eq_true rfl) ?_
    refine X.aload_n dX1_become_0 rfl ?_
    refine X.iload_n dX1_become_1 rfl ?_
    refine X.putI (kf := 0) dX1_become_2 (hh) (by decide) (by decide) rfl (Or.inl rfl) ⟨rfl, rfl⟩ wf_X1_9 ?_
    refine X.aload_n dX1_become_5 rfl ?_
    refine X.lload_n dX1_become_6 rfl ?_
    refine X.putJ (kf := 1) dX1_become_7 (hh) (by decide) (by decide) rfl (Or.inl rfl) ⟨rfl, rfl⟩ wf_X1_15 ?_
    refine X.aload_n dX1_become_10 rfl ?_
    refine X.aload dX1_become_11 rfl ?_
    refine X.putR (kf := 2) dX1_become_13 (hh) (by decide) (by decide) rfl (Or.inl rfl) (fun _ => ⟨rfl, rfl⟩) wf_X1_19 ?_
    refine X.retv dX1_become_16 ⟨trivial, ?_⟩
    exact hq
set_option maxRecDepth 100000 in
set_option maxHeartbeats 4000000 in
theorem x_hold {c : Nat} {r : Option Nat} {b : Int32} {μ : xM} {Q : Option Value → xM → Prop} (hB : ShP μ) (hc : c < 16) (hb : b = 0 ∨ b = 1) (hq : Q none (sI (sR μ (28 + c) 1 r) (28 + c) 2 b)) : Mt kX2_hold [.ref (28 + c), rv r, .int b] μ Q := by
  cases r
  · skip
    refine Mt.enter rfl (Nat.le_of_ble_eq_true rfl) ?_
    refine X.aload_n dX2_hold_0 rfl ?_
    refine X.aload_nN dX2_hold_1 rfl ?_
    refine X.putN (kf := 1) dX2_hold_2 ((hB.2.2.1 c hc).1) (by decide) (by decide) rfl (Or.inl rfl) ⟨rfl, rfl⟩ wf_X2_9 ?_
    refine X.aload_n dX2_hold_5 rfl ?_
    refine X.iload_n dX2_hold_6 rfl ?_
    refine X.putI (kf := 2) dX2_hold_7 ((hB.2.2.1 c hc).1) (by decide) (by decide) rfl (Or.inl rfl) (by rcases hb with rfl | rfl <;> exact ⟨rfl, rfl⟩) wf_X2_15 ?_
    refine X.retv dX2_hold_10 ⟨trivial, ?_⟩
    exact hq
  · skip
    refine Mt.enter rfl (Nat.le_of_ble_eq_true rfl) ?_
    refine X.aload_n dX2_hold_0 rfl ?_
    refine X.aload_n dX2_hold_1 rfl ?_
    refine X.putR (kf := 1) dX2_hold_2 ((hB.2.2.1 c hc).1) (by decide) (by decide) rfl (Or.inl rfl) (fun _ => ⟨rfl, rfl⟩) wf_X2_9 ?_
    refine X.aload_n dX2_hold_5 rfl ?_
    refine X.iload_n dX2_hold_6 rfl ?_
    refine X.putI (kf := 2) dX2_hold_7 ((hB.2.2.1 c hc).1) (by decide) (by decide) rfl (Or.inl rfl) (by rcases hb with rfl | rfl <;> exact ⟨rfl, rfl⟩) wf_X2_15 ?_
    refine X.retv dX2_hold_10 ⟨trivial, ?_⟩
    exact hq
set_option maxRecDepth 100000 in
set_option maxHeartbeats 4000000 in
theorem x_has_t {c b : Nat} {μ : xM} {Q : Option Value → xM → Prop} (hB : ShP μ) (hc : c < 16) (h0 : mR μ (28 + c) 1 = some b) (hq : Q (some (.int 1)) μ) : Mt kX2_has [.ref (28 + c)] μ Q := by
  refine Mt.enter rfl (Nat.le_of_ble_eq_true rfl) ?_
  refine X.aload_n dX2_has_0 rfl ?_
  refine X.getR (b := b) (kf := 1) dX2_has_1 ((hB.2.2.1 c hc).1) (by decide) (by decide) rfl wf_X2_9 (h0) ?_
  refine X.ifnull_r dX2_has_4 ?_
  refine X.iconst (v := 1) dX2_has_7 (by decide) ?_
  refine X.ret dX2_has_8 ⟨trivial, ?_⟩
  exact hq
set_option maxRecDepth 100000 in
set_option maxHeartbeats 4000000 in
theorem x_has_n {c : Nat} {μ : xM} {Q : Option Value → xM → Prop} (hB : ShP μ) (hc : c < 16) (h0 : mR μ (28 + c) 1 = none) (hq : Q (some (.int (if mI μ (28 + c) 2 = 0 then 0 else 2))) μ) : Mt kX2_has [.ref (28 + c)] μ Q := by
  refine Mt.enter rfl (Nat.le_of_ble_eq_true rfl) ?_
  refine X.aload_n dX2_has_0 rfl ?_
  refine X.getN (kf := 1) dX2_has_1 ((hB.2.2.1 c hc).1) (by decide) (by decide) rfl wf_X2_9 (h0) ?_
  refine X.ifnull_n (tgt := 9) dX2_has_4 (by decide) ?_
  refine X.aload_n dX2_has_9 rfl ?_
  refine X.getI (kf := 2) dX2_has_10 ((hB.2.2.1 c hc).1) (by decide) (by decide) rfl wf_X2_15 ?_
  refine X.if_eq (tgt := 20) dX2_has_13 (by decide) (fun c13 => ?_) (fun c13 => ?_)
  · refine X.iconst (v := 0) dX2_has_20 (by decide) ?_
    refine X.ret dX2_has_21 ⟨trivial, ?_⟩
    first
      | (rw [if_pos c13] at hq; exact hq)
      | (rw [if_neg c13] at hq; exact hq)
  · refine X.iconst (v := 2) dX2_has_16 (by decide) ?_
    refine X.goto (tgt := 21) dX2_has_17 (by decide) ?_
    refine X.ret dX2_has_21 ⟨trivial, ?_⟩
    first
      | (rw [if_pos c13] at hq; exact hq)
      | (rw [if_neg c13] at hq; exact hq)
set_option maxRecDepth 100000 in
set_option maxHeartbeats 4000000 in
theorem x_refusal {c : Nat} {μ : xM} {Q : Option Value → xM → Prop} (hB : ShP μ) (hc : c < 16) (hq : Q (some (.int (if mI μ (28 + c) 2 = 0 then 1 else 2))) μ) : Mt kX2_refusalWithoutTape [.ref (28 + c)] μ Q := by
  refine Mt.enter rfl (Nat.le_of_ble_eq_true rfl) ?_
  refine X.aload_n dX2_refusalWithoutTape_0 rfl ?_
  refine X.getI (kf := 2) dX2_refusalWithoutTape_1 ((hB.2.2.1 c hc).1) (by decide) (by decide) rfl wf_X2_15 ?_
  refine X.if_eq (tgt := 11) dX2_refusalWithoutTape_4 (by decide) (fun c4 => ?_) (fun c4 => ?_)
  · refine X.iconst (v := 1) dX2_refusalWithoutTape_11 (by decide) ?_
    refine X.ret dX2_refusalWithoutTape_12 ⟨trivial, ?_⟩
    first
      | (rw [if_pos c4] at hq; exact hq)
      | (rw [if_neg c4] at hq; exact hq)
  · refine X.iconst (v := 2) dX2_refusalWithoutTape_7 (by decide) ?_
    refine X.goto (tgt := 12) dX2_refusalWithoutTape_8 (by decide) ?_
    refine X.ret dX2_refusalWithoutTape_12 ⟨trivial, ?_⟩
    first
      | (rw [if_pos c4] at hq; exact hq)
      | (rw [if_neg c4] at hq; exact hq)
def TS (μ : xM) (a k n : Nat) : Prop := (mT μ a = (3, 0) ∧ mT μ (a + 1) = (6, n) ∧ mT μ (a + 2) = (7, n) ∧ mT μ (a + 3) = (11, n)) ∧ (mI μ a 0 = nI k ∧ mI μ a 1 = nI n) ∧ (mR μ a 2 = some (a + 1) ∧ mR μ a 3 = some (a + 2) ∧ mR μ a 4 = some (a + 3))
theorem TR.ts {ν μ : xM} {φ : Nat → Nat} {t : Nat} (h : TR ν μ φ t) : TS μ (φ t) (kd ν t) (sz ν t) := ⟨h.2.1, h.2.2.1, h.2.2.2.1⟩
def wrP (μ : xM) (a j : Nat) (x : Int32) (y : Int64) (r : Option Nat) : xM := sR (sJ (sI μ (a + 1) j x) (a + 2) j y) (a + 3) j r
theorem rng_ge0 {n i : Nat} {x : Int32} (h : rng x n = some i) : ¬ x < 0 := by
  intro q
  unfold rng at h
  rw [Int32.lt_iff_toInt_lt, i0] at q
  rw [if_neg (by omega)] at h
  exact nomatch h
theorem rng_hi {n i : Nat} {x : Int32} (h : rng x n = some i) (hn : n < 2 ^ 31) : x < nI n := by
  have h2 := rng_some h
  rw [h2.1]
  exact nI_lt h2.2 hn
theorem rng_off {n : Nat} {x : Int32} (h : rng x n = none) (hn : n < 2 ^ 31) (h1 : ¬ x < 0) : ¬ x < nI n := by
  intro q
  unfold rng at h
  rw [Int32.lt_iff_toInt_lt] at q h1
  rw [i0] at h1
  rw [nI_toInt hn] at q
  rw [if_pos (by omega)] at h
  exact nomatch h
set_option maxRecDepth 100000 in
set_option maxHeartbeats 4000000 in
theorem x_copyTo_o {a h k n : Nat} {i : Int32} {μ : xM} {Q : Option Value → xM → Prop} (hT : TS μ a k n) (hn : n ≤ 32) (hr : rng i n = none) (hq : Q (some (.int (nI 3))) μ) : Mt kX3_copyTo [.ref a, .int i, .ref h] μ Q := by
  refine Mt.enter rfl (Nat.le_of_ble_eq_true rfl) ?_
  refine X.iload_n dX3_copyTo_0 rfl ?_
  refine X.if_lt (tgt := 12) dX3_copyTo_1 (by decide) (fun c1 => ?_) (fun c1 => ?_)
  · refine X.iconst (v := 3) dX3_copyTo_12 (by decide) ?_
    refine X.ret dX3_copyTo_13 ⟨trivial, ?_⟩
    exact hq
  · refine X.iload_n dX3_copyTo_4 rfl ?_
    refine X.aload_n dX3_copyTo_5 rfl ?_
    refine X.getI (kf := 1) dX3_copyTo_6 (hT.1.1) (by decide) (by decide) rfl wf_X3_15 ?_
    refine X.icmp_lt_f (tgt := 14) dX3_copyTo_9 (by decide) ((by rw [hT.2.1.2]; exact rng_off hr (by omega) c1)) ?_
    refine X.iconst (v := 3) dX3_copyTo_12 (by decide) ?_
    refine X.ret dX3_copyTo_13 ⟨trivial, ?_⟩
    exact hq
set_option maxRecDepth 100000 in
set_option maxHeartbeats 4000000 in
theorem x_copyTo {a h k n j : Nat} {i : Int32} {μ : xM} {Q : Option Value → xM → Prop} (hT : TS μ a k n) (hn : n ≤ 32) (hh : mT μ h = (1, 0)) (hr : rng i n = some j) (hq : Q (some (.int (nI 0))) (cellP μ h (mI μ (a + 1) j) (mJ μ (a + 2) j) (mR μ (a + 3) j))) : Mt kX3_copyTo [.ref a, .int i, .ref h] μ Q := by
  have hj := rng_some hr
  refine Mt.enter rfl (Nat.le_of_ble_eq_true rfl) ?_
  refine X.iload_n dX3_copyTo_0 rfl ?_
  refine X.if_lt_f (tgt := 12) dX3_copyTo_1 (by decide) (rng_ge0 hr) ?_
  refine X.iload_n dX3_copyTo_4 rfl ?_
  refine X.aload_n dX3_copyTo_5 rfl ?_
  refine X.getI (kf := 1) dX3_copyTo_6 (hT.1.1) (by decide) (by decide) rfl wf_X3_15 ?_
  refine X.icmp_lt_t (tgt := 14) dX3_copyTo_9 (by decide) ((by rw [hT.2.1.2]; exact rng_hi hr (by omega))) ?_
  refine X.aload_n dX3_copyTo_14 rfl ?_
  refine X.aload_n dX3_copyTo_15 rfl ?_
  refine X.getR (b := (a + 1)) (kf := 2) dX3_copyTo_16 (hT.1.1) (by decide) (by decide) rfl wf_X3_18 (hT.2.2.1) ?_
  refine X.iload_n dX3_copyTo_19 rfl ?_
  refine X.iald dX3_copyTo_20 (hT.1.2.1) (hj.1) (hj.2) (by omega) ?_
  refine X.aload_n dX3_copyTo_21 rfl ?_
  refine X.getR (b := (a + 2)) (kf := 3) dX3_copyTo_22 (hT.1.1) (by decide) (by decide) rfl wf_X3_22 (hT.2.2.2.1) ?_
  refine X.iload_n dX3_copyTo_25 rfl ?_
  refine X.lald dX3_copyTo_26 (hT.1.2.2.1) (hj.1) (hj.2) (by omega) ?_
  refine X.aload_n dX3_copyTo_27 rfl ?_
  refine X.getR (b := (a + 3)) (kf := 4) dX3_copyTo_28 (hT.1.1) (by decide) (by decide) rfl wf_X3_26 (hT.2.2.2.2) ?_
  refine X.iload_n dX3_copyTo_31 rfl ?_
  refine X.aaldO dX3_copyTo_32 (hT.1.2.2.2) (by decide) (hj.1) (hj.2) (by omega) ?_
  refine X.cV3v (k' := kX1_become) dX3_copyTo_33 (hh) ⟨by decide, rfl⟩ v_X1_become wm_X3_34 wi_X1_become ws_X1_become ⟨Nat.le_of_ble_eq_true rfl, Nat.le_of_ble_eq_true rfl⟩ n_X1_become (Nat.le_of_ble_eq_true rfl) ?_
  refine x_become hh ?_
  refine ⟨rfl, ?_⟩
  refine X.iconst (v := 0) dX3_copyTo_36 (by decide) ?_
  refine X.ret dX3_copyTo_37 ⟨trivial, ?_⟩
  exact hq
set_option maxRecDepth 100000 in
set_option maxHeartbeats 4000000 in
theorem x_accept_o1 {a h k n K : Nat} {i : Int32} {μ : xM} {Q : Option Value → xM → Prop} (hT : TS μ a k n) (hn : n ≤ 32) (hk : k ≤ 10) (hh : mT μ h = (1, 0)) (hK : mI μ h 0 = nI K) (hK2 : K ≤ 12) (h8 : k < 8) (h11 : K = 11) (hq : Q (some (.int (nI 2))) μ) : Mt kX3_accept [.ref a, .int i, .ref h] μ Q := by
  refine Mt.enter rfl (Nat.le_of_ble_eq_true rfl) ?_
  refine X.aload_n dX3_accept_0 rfl ?_
  refine X.getI (kf := 0) dX3_accept_1 (hh) (by decide) (by decide) rfl wf_X3_40 ?_
  refine X.bipush (v := 11) dX3_accept_4 (by decide) ?_
  refine X.icmp_ne_f (tgt := 21) dX3_accept_6 (by decide) ((by rw [hK, h11]; rfl)) ?_
  refine X.aload_n dX3_accept_9 rfl ?_
  refine X.getI (kf := 0) dX3_accept_10 (hT.1.1) (by decide) (by decide) rfl wf_X3_9 ?_
  refine X.cSN1i (k' := kX4_isPlain) dX3_accept_13 v_X4_isPlain (host := "PatchBay") (List.mem_of_getElem? (i := 1) rfl) wt_X4_isPlain ⟨Nat.le_of_ble_eq_true rfl, Nat.le_of_ble_eq_true rfl⟩ n_X4_isPlain (Nat.le_of_ble_eq_true rfl) ?_
  rw [hT.2.1.1]
  refine x_isPlain_t (rng_nI h8 (by decide)) ?_
  refine ⟨_, rfl, ?_⟩
  refine X.if_eq_f (tgt := 21) dX3_accept_16 (by decide) ((by decide)) ?_
  refine X.iconst (v := 2) dX3_accept_19 (by decide) ?_
  refine X.ret dX3_accept_20 ⟨trivial, ?_⟩
  exact hq
set_option maxRecDepth 100000 in
set_option maxHeartbeats 4000000 in
theorem x_accept_o2p {a h k n K : Nat} {i : Int32} {μ : xM} {Q : Option Value → xM → Prop} (hT : TS μ a k n) (hn : n ≤ 32) (hk : k ≤ 10) (hh : mT μ h = (1, 0)) (hK : mI μ h 0 = nI K) (hK2 : K ≤ 12) (h8 : k < 8) (h11 : ¬ K = 11) (hr : rng i n = none) (hq : Q (some (.int (nI 3))) μ) : Mt kX3_accept [.ref a, .int i, .ref h] μ Q := by
  refine Mt.enter rfl (Nat.le_of_ble_eq_true rfl) ?_
  refine X.aload_n dX3_accept_0 rfl ?_
  refine X.getI (kf := 0) dX3_accept_1 (hh) (by decide) (by decide) rfl wf_X3_40 ?_
  refine X.bipush (v := 11) dX3_accept_4 (by decide) ?_
  refine X.icmp_ne_t (tgt := 21) dX3_accept_6 (by decide) ((by rw [hK]; exact nI_neq h11 (by omega) (by decide))) ?_
  refine X.iload_n dX3_accept_21 rfl ?_
  refine X.if_lt (tgt := 33) dX3_accept_22 (by decide) (fun c22 => ?_) (fun c22 => ?_)
  · refine X.iconst (v := 3) dX3_accept_33 (by decide) ?_
    refine X.ret dX3_accept_34 ⟨trivial, ?_⟩
    exact hq
  · refine X.iload_n dX3_accept_25 rfl ?_
    refine X.aload_n dX3_accept_26 rfl ?_
    refine X.getI (kf := 1) dX3_accept_27 (hT.1.1) (by decide) (by decide) rfl wf_X3_15 ?_
    refine X.icmp_lt_f (tgt := 35) dX3_accept_30 (by decide) ((by rw [hT.2.1.2]; exact rng_off hr (by omega) c22)) ?_
    refine X.iconst (v := 3) dX3_accept_33 (by decide) ?_
    refine X.ret dX3_accept_34 ⟨trivial, ?_⟩
    exact hq
set_option maxRecDepth 100000 in
set_option maxHeartbeats 4000000 in
theorem x_accept_o3p {a h k n K : Nat} {i : Int32} {μ : xM} {Q : Option Value → xM → Prop} (hT : TS μ a k n) (hn : n ≤ 32) (hk : k ≤ 10) (hh : mT μ h = (1, 0)) (hK : mI μ h 0 = nI K) (hK2 : K ≤ 12) (h8 : k < 8) (h11 : ¬ K = 11) {j : Nat} (hr : rng i n = some j) (ht : takesM k K = false) (hq : Q (some (.int (nI 2))) μ) : Mt kX3_accept [.ref a, .int i, .ref h] μ Q := by
  refine Mt.enter rfl (Nat.le_of_ble_eq_true rfl) ?_
  refine X.aload_n dX3_accept_0 rfl ?_
  refine X.getI (kf := 0) dX3_accept_1 (hh) (by decide) (by decide) rfl wf_X3_40 ?_
  refine X.bipush (v := 11) dX3_accept_4 (by decide) ?_
  refine X.icmp_ne_t (tgt := 21) dX3_accept_6 (by decide) ((by rw [hK]; exact nI_neq h11 (by omega) (by decide))) ?_
  refine X.iload_n dX3_accept_21 rfl ?_
  refine X.if_lt_f (tgt := 33) dX3_accept_22 (by decide) (rng_ge0 hr) ?_
  refine X.iload_n dX3_accept_25 rfl ?_
  refine X.aload_n dX3_accept_26 rfl ?_
  refine X.getI (kf := 1) dX3_accept_27 (hT.1.1) (by decide) (by decide) rfl wf_X3_15 ?_
  refine X.icmp_lt_t (tgt := 35) dX3_accept_30 (by decide) ((by rw [hT.2.1.2]; exact rng_hi hr (by omega))) ?_
  refine X.aload_n dX3_accept_35 rfl ?_
  refine X.getI (kf := 0) dX3_accept_36 (hT.1.1) (by decide) (by decide) rfl wf_X3_9 ?_
  refine X.aload_n dX3_accept_39 rfl ?_
  refine X.getI (kf := 0) dX3_accept_40 (hh) (by decide) (by decide) rfl wf_X3_40 ?_
  refine X.cSN2i (k' := kX4_takes) dX3_accept_43 v_X4_takes (host := "PatchBay") (List.mem_of_getElem? (i := 3) rfl) wt_X4_takes ⟨Nat.le_of_ble_eq_true rfl, Nat.le_of_ble_eq_true rfl⟩ n_X4_takes (Nat.le_of_ble_eq_true rfl) ?_
  rw [hT.2.1.1, hK]
  refine x_takes hk hK2 ?_
  rw [ht]
  refine ⟨_, rfl, ?_⟩
  refine X.if_ne_f (tgt := 51) dX3_accept_46 (by decide) ((by decide)) ?_
  refine X.iconst (v := 2) dX3_accept_49 (by decide) ?_
  refine X.ret dX3_accept_50 ⟨trivial, ?_⟩
  exact hq
set_option maxRecDepth 100000 in
set_option maxHeartbeats 4000000 in
theorem x_acceptp {a h k n K : Nat} {i : Int32} {μ : xM} {Q : Option Value → xM → Prop} (hT : TS μ a k n) (hn : n ≤ 32) (hk : k ≤ 10) (hh : mT μ h = (1, 0)) (hK : mI μ h 0 = nI K) (hK2 : K ≤ 12) (h8 : k < 8) (h11 : ¬ K = 11) {j : Nat} (hr : rng i n = some j) (ht : takesM k K = true) (hb : ∀ b, mR μ h 2 = some b → mT μ b = (3, 0)) (hq : Q (some (.int (nI 0))) (wrP μ a j (nI k) (fitM k (mJ μ h 1)) (mR μ h 2))) : Mt kX3_accept [.ref a, .int i, .ref h] μ Q := by
  have hj := rng_some hr
  refine Mt.enter rfl (Nat.le_of_ble_eq_true rfl) ?_
  refine X.aload_n dX3_accept_0 rfl ?_
  refine X.getI (kf := 0) dX3_accept_1 (hh) (by decide) (by decide) rfl wf_X3_40 ?_
  refine X.bipush (v := 11) dX3_accept_4 (by decide) ?_
  refine X.icmp_ne_t (tgt := 21) dX3_accept_6 (by decide) ((by rw [hK]; exact nI_neq h11 (by omega) (by decide))) ?_
  refine X.iload_n dX3_accept_21 rfl ?_
  refine X.if_lt_f (tgt := 33) dX3_accept_22 (by decide) (rng_ge0 hr) ?_
  refine X.iload_n dX3_accept_25 rfl ?_
  refine X.aload_n dX3_accept_26 rfl ?_
  refine X.getI (kf := 1) dX3_accept_27 (hT.1.1) (by decide) (by decide) rfl wf_X3_15 ?_
  refine X.icmp_lt_t (tgt := 35) dX3_accept_30 (by decide) ((by rw [hT.2.1.2]; exact rng_hi hr (by omega))) ?_
  refine X.aload_n dX3_accept_35 rfl ?_
  refine X.getI (kf := 0) dX3_accept_36 (hT.1.1) (by decide) (by decide) rfl wf_X3_9 ?_
  refine X.aload_n dX3_accept_39 rfl ?_
  refine X.getI (kf := 0) dX3_accept_40 (hh) (by decide) (by decide) rfl wf_X3_40 ?_
  refine X.cSN2i (k' := kX4_takes) dX3_accept_43 v_X4_takes (host := "PatchBay") (List.mem_of_getElem? (i := 3) rfl) wt_X4_takes ⟨Nat.le_of_ble_eq_true rfl, Nat.le_of_ble_eq_true rfl⟩ n_X4_takes (Nat.le_of_ble_eq_true rfl) ?_
  rw [hT.2.1.1, hK]
  refine x_takes hk hK2 ?_
  rw [ht]
  refine ⟨_, rfl, ?_⟩
  refine X.if_ne_t (tgt := 51) dX3_accept_46 (by decide) ((by decide)) ?_
  refine X.aload_n dX3_accept_51 rfl ?_
  refine X.getR (b := (a + 1)) (kf := 2) dX3_accept_52 (hT.1.1) (by decide) (by decide) rfl wf_X3_18 (hT.2.2.1) ?_
  refine X.iload_n dX3_accept_55 rfl ?_
  refine X.aload_n dX3_accept_56 rfl ?_
  refine X.getI (kf := 0) dX3_accept_57 (hT.1.1) (by decide) (by decide) rfl wf_X3_9 ?_
  refine X.cSN1i (k' := kX4_isPlain) dX3_accept_60 v_X4_isPlain (host := "PatchBay") (List.mem_of_getElem? (i := 1) rfl) wt_X4_isPlain ⟨Nat.le_of_ble_eq_true rfl, Nat.le_of_ble_eq_true rfl⟩ n_X4_isPlain (Nat.le_of_ble_eq_true rfl) ?_
  rw [hT.2.1.1]
  refine x_isPlain_t (rng_nI h8 (by decide)) ?_
  refine ⟨_, rfl, ?_⟩
  refine X.if_eq_f (tgt := 73) dX3_accept_63 (by decide) ((by decide)) ?_
  refine X.aload_n dX3_accept_66 rfl ?_
  refine X.getI (kf := 0) dX3_accept_67 (hT.1.1) (by decide) (by decide) rfl wf_X3_9 ?_
  refine X.goto (tgt := 77) dX3_accept_70 (by decide) ?_
  refine X.iast dX3_accept_77 (hT.1.2.1) (hj.1) (hj.2) (by omega) ?_
  refine X.aload_n dX3_accept_78 rfl ?_
  refine X.getR (b := (a + 2)) (kf := 3) dX3_accept_79 (hT.1.1) (by decide) (by decide) rfl wf_X3_22 (hT.2.2.2.1) ?_
  refine X.iload_n dX3_accept_82 rfl ?_
  refine X.aload_n dX3_accept_83 rfl ?_
  refine X.getI (kf := 0) dX3_accept_84 (hT.1.1) (by decide) (by decide) rfl wf_X3_9 ?_
  refine X.aload_n dX3_accept_87 rfl ?_
  refine X.getJ (kf := 1) dX3_accept_88 (hh) (by decide) (by decide) rfl wf_X3_45 ?_
  refine X.cSN2l (k' := kX4_fitted) dX3_accept_91 v_X4_fitted (host := "PatchBay") (List.mem_of_getElem? (i := 4) rfl) wt_X4_fitted ⟨Nat.le_of_ble_eq_true rfl, Nat.le_of_ble_eq_true rfl⟩ n_X4_fitted (Nat.le_of_ble_eq_true rfl) ?_
  rw [mI_at (by omega)]
  rw [hT.2.1.1]
  refine x_fitted hk ?_
  refine ⟨_, rfl, ?_⟩
  refine X.last dX3_accept_94 (hT.1.2.2.1) (hj.1) (hj.2) (by omega) ?_
  refine X.aload_n dX3_accept_95 rfl ?_
  refine X.getR (b := (a + 3)) (kf := 4) dX3_accept_96 (hT.1.1) (by decide) (by decide) rfl wf_X3_26 (hT.2.2.2.2) ?_
  refine X.iload_n dX3_accept_99 rfl ?_
  refine X.aload_n dX3_accept_100 rfl ?_
  refine X.getO (kf := 2) dX3_accept_101 (hh) (by decide) (by decide) rfl wf_X3_53 ?_
  refine X.aastO dX3_accept_104 (hT.1.2.2.2) (by decide) (hb) (hj.1) (hj.2) (by omega) ?_
  refine X.iconst (v := 0) dX3_accept_105 (by decide) ?_
  refine X.ret dX3_accept_106 ⟨trivial, ?_⟩
  exact hq
set_option maxRecDepth 100000 in
set_option maxHeartbeats 4000000 in
theorem x_accept_o2s {a h k n K : Nat} {i : Int32} {μ : xM} {Q : Option Value → xM → Prop} (hT : TS μ a k n) (hn : n ≤ 32) (hk : k ≤ 10) (hh : mT μ h = (1, 0)) (hK : mI μ h 0 = nI K) (hK2 : K ≤ 12) (h8 : ¬ k < 8) (hr : rng i n = none) (hq : Q (some (.int (nI 3))) μ) : Mt kX3_accept [.ref a, .int i, .ref h] μ Q := by
  refine Mt.enter rfl (Nat.le_of_ble_eq_true rfl) ?_
  refine X.aload_n dX3_accept_0 rfl ?_
  refine X.getI (kf := 0) dX3_accept_1 (hh) (by decide) (by decide) rfl wf_X3_40 ?_
  refine X.bipush (v := 11) dX3_accept_4 (by decide) ?_
  refine X.icmp_ne (tgt := 21) dX3_accept_6 (by decide) (fun c6 => ?_) (fun c6 => ?_)
  · refine X.iload_n dX3_accept_21 rfl ?_
    refine X.if_lt (tgt := 33) dX3_accept_22 (by decide) (fun c22 => ?_) (fun c22 => ?_)
    · refine X.iconst (v := 3) dX3_accept_33 (by decide) ?_
      refine X.ret dX3_accept_34 ⟨trivial, ?_⟩
      exact hq
    · refine X.iload_n dX3_accept_25 rfl ?_
      refine X.aload_n dX3_accept_26 rfl ?_
      refine X.getI (kf := 1) dX3_accept_27 (hT.1.1) (by decide) (by decide) rfl wf_X3_15 ?_
      refine X.icmp_lt_f (tgt := 35) dX3_accept_30 (by decide) ((by rw [hT.2.1.2]; exact rng_off hr (by omega) c22)) ?_
      refine X.iconst (v := 3) dX3_accept_33 (by decide) ?_
      refine X.ret dX3_accept_34 ⟨trivial, ?_⟩
      exact hq
  · refine X.aload_n dX3_accept_9 rfl ?_
    refine X.getI (kf := 0) dX3_accept_10 (hT.1.1) (by decide) (by decide) rfl wf_X3_9 ?_
    refine X.cSN1i (k' := kX4_isPlain) dX3_accept_13 v_X4_isPlain (host := "PatchBay") (List.mem_of_getElem? (i := 1) rfl) wt_X4_isPlain ⟨Nat.le_of_ble_eq_true rfl, Nat.le_of_ble_eq_true rfl⟩ n_X4_isPlain (Nat.le_of_ble_eq_true rfl) ?_
    rw [hT.2.1.1]
    refine x_isPlain_f (rng_out (Nat.not_lt.mp h8) (by omega)) ?_
    refine ⟨_, rfl, ?_⟩
    refine X.if_eq_t (tgt := 21) dX3_accept_16 (by decide) ((by decide)) ?_
    refine X.iload_n dX3_accept_21 rfl ?_
    refine X.if_lt (tgt := 33) dX3_accept_22 (by decide) (fun c22 => ?_) (fun c22 => ?_)
    · refine X.iconst (v := 3) dX3_accept_33 (by decide) ?_
      refine X.ret dX3_accept_34 ⟨trivial, ?_⟩
      exact hq
    · refine X.iload_n dX3_accept_25 rfl ?_
      refine X.aload_n dX3_accept_26 rfl ?_
      refine X.getI (kf := 1) dX3_accept_27 (hT.1.1) (by decide) (by decide) rfl wf_X3_15 ?_
      refine X.icmp_lt_f (tgt := 35) dX3_accept_30 (by decide) ((by rw [hT.2.1.2]; exact rng_off hr (by omega) c22)) ?_
      refine X.iconst (v := 3) dX3_accept_33 (by decide) ?_
      refine X.ret dX3_accept_34 ⟨trivial, ?_⟩
      exact hq
set_option maxRecDepth 100000 in
set_option maxHeartbeats 4000000 in
theorem x_accept_o3s {a h k n K : Nat} {i : Int32} {μ : xM} {Q : Option Value → xM → Prop} (hT : TS μ a k n) (hn : n ≤ 32) (hk : k ≤ 10) (hh : mT μ h = (1, 0)) (hK : mI μ h 0 = nI K) (hK2 : K ≤ 12) (h8 : ¬ k < 8) {j : Nat} (hr : rng i n = some j) (ht : takesM k K = false) (hq : Q (some (.int (nI 2))) μ) : Mt kX3_accept [.ref a, .int i, .ref h] μ Q := by
  refine Mt.enter rfl (Nat.le_of_ble_eq_true rfl) ?_
  refine X.aload_n dX3_accept_0 rfl ?_
  refine X.getI (kf := 0) dX3_accept_1 (hh) (by decide) (by decide) rfl wf_X3_40 ?_
  refine X.bipush (v := 11) dX3_accept_4 (by decide) ?_
  refine X.icmp_ne (tgt := 21) dX3_accept_6 (by decide) (fun c6 => ?_) (fun c6 => ?_)
  · refine X.iload_n dX3_accept_21 rfl ?_
    refine X.if_lt_f (tgt := 33) dX3_accept_22 (by decide) (rng_ge0 hr) ?_
    refine X.iload_n dX3_accept_25 rfl ?_
    refine X.aload_n dX3_accept_26 rfl ?_
    refine X.getI (kf := 1) dX3_accept_27 (hT.1.1) (by decide) (by decide) rfl wf_X3_15 ?_
    refine X.icmp_lt_t (tgt := 35) dX3_accept_30 (by decide) ((by rw [hT.2.1.2]; exact rng_hi hr (by omega))) ?_
    refine X.aload_n dX3_accept_35 rfl ?_
    refine X.getI (kf := 0) dX3_accept_36 (hT.1.1) (by decide) (by decide) rfl wf_X3_9 ?_
    refine X.aload_n dX3_accept_39 rfl ?_
    refine X.getI (kf := 0) dX3_accept_40 (hh) (by decide) (by decide) rfl wf_X3_40 ?_
    refine X.cSN2i (k' := kX4_takes) dX3_accept_43 v_X4_takes (host := "PatchBay") (List.mem_of_getElem? (i := 3) rfl) wt_X4_takes ⟨Nat.le_of_ble_eq_true rfl, Nat.le_of_ble_eq_true rfl⟩ n_X4_takes (Nat.le_of_ble_eq_true rfl) ?_
    rw [hT.2.1.1, hK]
    refine x_takes hk hK2 ?_
    rw [ht]
    refine ⟨_, rfl, ?_⟩
    refine X.if_ne_f (tgt := 51) dX3_accept_46 (by decide) ((by decide)) ?_
    refine X.iconst (v := 2) dX3_accept_49 (by decide) ?_
    refine X.ret dX3_accept_50 ⟨trivial, ?_⟩
    exact hq
  · refine X.aload_n dX3_accept_9 rfl ?_
    refine X.getI (kf := 0) dX3_accept_10 (hT.1.1) (by decide) (by decide) rfl wf_X3_9 ?_
    refine X.cSN1i (k' := kX4_isPlain) dX3_accept_13 v_X4_isPlain (host := "PatchBay") (List.mem_of_getElem? (i := 1) rfl) wt_X4_isPlain ⟨Nat.le_of_ble_eq_true rfl, Nat.le_of_ble_eq_true rfl⟩ n_X4_isPlain (Nat.le_of_ble_eq_true rfl) ?_
    rw [hT.2.1.1]
    refine x_isPlain_f (rng_out (Nat.not_lt.mp h8) (by omega)) ?_
    refine ⟨_, rfl, ?_⟩
    refine X.if_eq_t (tgt := 21) dX3_accept_16 (by decide) ((by decide)) ?_
    refine X.iload_n dX3_accept_21 rfl ?_
    refine X.if_lt_f (tgt := 33) dX3_accept_22 (by decide) (rng_ge0 hr) ?_
    refine X.iload_n dX3_accept_25 rfl ?_
    refine X.aload_n dX3_accept_26 rfl ?_
    refine X.getI (kf := 1) dX3_accept_27 (hT.1.1) (by decide) (by decide) rfl wf_X3_15 ?_
    refine X.icmp_lt_t (tgt := 35) dX3_accept_30 (by decide) ((by rw [hT.2.1.2]; exact rng_hi hr (by omega))) ?_
    refine X.aload_n dX3_accept_35 rfl ?_
    refine X.getI (kf := 0) dX3_accept_36 (hT.1.1) (by decide) (by decide) rfl wf_X3_9 ?_
    refine X.aload_n dX3_accept_39 rfl ?_
    refine X.getI (kf := 0) dX3_accept_40 (hh) (by decide) (by decide) rfl wf_X3_40 ?_
    refine X.cSN2i (k' := kX4_takes) dX3_accept_43 v_X4_takes (host := "PatchBay") (List.mem_of_getElem? (i := 3) rfl) wt_X4_takes ⟨Nat.le_of_ble_eq_true rfl, Nat.le_of_ble_eq_true rfl⟩ n_X4_takes (Nat.le_of_ble_eq_true rfl) ?_
    rw [hT.2.1.1, hK]
    refine x_takes hk hK2 ?_
    rw [ht]
    refine ⟨_, rfl, ?_⟩
    refine X.if_ne_f (tgt := 51) dX3_accept_46 (by decide) ((by decide)) ?_
    refine X.iconst (v := 2) dX3_accept_49 (by decide) ?_
    refine X.ret dX3_accept_50 ⟨trivial, ?_⟩
    exact hq
set_option maxRecDepth 100000 in
set_option maxHeartbeats 4000000 in
theorem x_accepts {a h k n K : Nat} {i : Int32} {μ : xM} {Q : Option Value → xM → Prop} (hT : TS μ a k n) (hn : n ≤ 32) (hk : k ≤ 10) (hh : mT μ h = (1, 0)) (hK : mI μ h 0 = nI K) (hK2 : K ≤ 12) (h8 : ¬ k < 8) {j : Nat} (hr : rng i n = some j) (ht : takesM k K = true) (hb : ∀ b, mR μ h 2 = some b → mT μ b = (3, 0)) (hq : Q (some (.int (nI 0))) (wrP μ a j (mI μ h 0) (fitM k (mJ μ h 1)) (mR μ h 2))) : Mt kX3_accept [.ref a, .int i, .ref h] μ Q := by
  have hj := rng_some hr
  refine Mt.enter rfl (Nat.le_of_ble_eq_true rfl) ?_
  refine X.aload_n dX3_accept_0 rfl ?_
  refine X.getI (kf := 0) dX3_accept_1 (hh) (by decide) (by decide) rfl wf_X3_40 ?_
  refine X.bipush (v := 11) dX3_accept_4 (by decide) ?_
  refine X.icmp_ne (tgt := 21) dX3_accept_6 (by decide) (fun c6 => ?_) (fun c6 => ?_)
  · refine X.iload_n dX3_accept_21 rfl ?_
    refine X.if_lt_f (tgt := 33) dX3_accept_22 (by decide) (rng_ge0 hr) ?_
    refine X.iload_n dX3_accept_25 rfl ?_
    refine X.aload_n dX3_accept_26 rfl ?_
    refine X.getI (kf := 1) dX3_accept_27 (hT.1.1) (by decide) (by decide) rfl wf_X3_15 ?_
    refine X.icmp_lt_t (tgt := 35) dX3_accept_30 (by decide) ((by rw [hT.2.1.2]; exact rng_hi hr (by omega))) ?_
    refine X.aload_n dX3_accept_35 rfl ?_
    refine X.getI (kf := 0) dX3_accept_36 (hT.1.1) (by decide) (by decide) rfl wf_X3_9 ?_
    refine X.aload_n dX3_accept_39 rfl ?_
    refine X.getI (kf := 0) dX3_accept_40 (hh) (by decide) (by decide) rfl wf_X3_40 ?_
    refine X.cSN2i (k' := kX4_takes) dX3_accept_43 v_X4_takes (host := "PatchBay") (List.mem_of_getElem? (i := 3) rfl) wt_X4_takes ⟨Nat.le_of_ble_eq_true rfl, Nat.le_of_ble_eq_true rfl⟩ n_X4_takes (Nat.le_of_ble_eq_true rfl) ?_
    rw [hT.2.1.1, hK]
    refine x_takes hk hK2 ?_
    rw [ht]
    refine ⟨_, rfl, ?_⟩
    refine X.if_ne_t (tgt := 51) dX3_accept_46 (by decide) ((by decide)) ?_
    refine X.aload_n dX3_accept_51 rfl ?_
    refine X.getR (b := (a + 1)) (kf := 2) dX3_accept_52 (hT.1.1) (by decide) (by decide) rfl wf_X3_18 (hT.2.2.1) ?_
    refine X.iload_n dX3_accept_55 rfl ?_
    refine X.aload_n dX3_accept_56 rfl ?_
    refine X.getI (kf := 0) dX3_accept_57 (hT.1.1) (by decide) (by decide) rfl wf_X3_9 ?_
    refine X.cSN1i (k' := kX4_isPlain) dX3_accept_60 v_X4_isPlain (host := "PatchBay") (List.mem_of_getElem? (i := 1) rfl) wt_X4_isPlain ⟨Nat.le_of_ble_eq_true rfl, Nat.le_of_ble_eq_true rfl⟩ n_X4_isPlain (Nat.le_of_ble_eq_true rfl) ?_
    rw [hT.2.1.1]
    refine x_isPlain_f (rng_out (Nat.not_lt.mp h8) (by omega)) ?_
    refine ⟨_, rfl, ?_⟩
    refine X.if_eq_t (tgt := 73) dX3_accept_63 (by decide) ((by decide)) ?_
    refine X.aload_n dX3_accept_73 rfl ?_
    refine X.getI (kf := 0) dX3_accept_74 (hh) (by decide) (by decide) rfl wf_X3_40 ?_
    refine X.iast dX3_accept_77 (hT.1.2.1) (hj.1) (hj.2) (by omega) ?_
    refine X.aload_n dX3_accept_78 rfl ?_
    refine X.getR (b := (a + 2)) (kf := 3) dX3_accept_79 (hT.1.1) (by decide) (by decide) rfl wf_X3_22 (hT.2.2.2.1) ?_
    refine X.iload_n dX3_accept_82 rfl ?_
    refine X.aload_n dX3_accept_83 rfl ?_
    refine X.getI (kf := 0) dX3_accept_84 (hT.1.1) (by decide) (by decide) rfl wf_X3_9 ?_
    refine X.aload_n dX3_accept_87 rfl ?_
    refine X.getJ (kf := 1) dX3_accept_88 (hh) (by decide) (by decide) rfl wf_X3_45 ?_
    refine X.cSN2l (k' := kX4_fitted) dX3_accept_91 v_X4_fitted (host := "PatchBay") (List.mem_of_getElem? (i := 4) rfl) wt_X4_fitted ⟨Nat.le_of_ble_eq_true rfl, Nat.le_of_ble_eq_true rfl⟩ n_X4_fitted (Nat.le_of_ble_eq_true rfl) ?_
    rw [mI_at (by omega)]
    rw [hT.2.1.1]
    refine x_fitted hk ?_
    refine ⟨_, rfl, ?_⟩
    refine X.last dX3_accept_94 (hT.1.2.2.1) (hj.1) (hj.2) (by omega) ?_
    refine X.aload_n dX3_accept_95 rfl ?_
    refine X.getR (b := (a + 3)) (kf := 4) dX3_accept_96 (hT.1.1) (by decide) (by decide) rfl wf_X3_26 (hT.2.2.2.2) ?_
    refine X.iload_n dX3_accept_99 rfl ?_
    refine X.aload_n dX3_accept_100 rfl ?_
    refine X.getO (kf := 2) dX3_accept_101 (hh) (by decide) (by decide) rfl wf_X3_53 ?_
    refine X.aastO dX3_accept_104 (hT.1.2.2.2) (by decide) (hb) (hj.1) (hj.2) (by omega) ?_
    refine X.iconst (v := 0) dX3_accept_105 (by decide) ?_
    refine X.ret dX3_accept_106 ⟨trivial, ?_⟩
    exact hq
  · refine X.aload_n dX3_accept_9 rfl ?_
    refine X.getI (kf := 0) dX3_accept_10 (hT.1.1) (by decide) (by decide) rfl wf_X3_9 ?_
    refine X.cSN1i (k' := kX4_isPlain) dX3_accept_13 v_X4_isPlain (host := "PatchBay") (List.mem_of_getElem? (i := 1) rfl) wt_X4_isPlain ⟨Nat.le_of_ble_eq_true rfl, Nat.le_of_ble_eq_true rfl⟩ n_X4_isPlain (Nat.le_of_ble_eq_true rfl) ?_
    rw [hT.2.1.1]
    refine x_isPlain_f (rng_out (Nat.not_lt.mp h8) (by omega)) ?_
    refine ⟨_, rfl, ?_⟩
    refine X.if_eq_t (tgt := 21) dX3_accept_16 (by decide) ((by decide)) ?_
    refine X.iload_n dX3_accept_21 rfl ?_
    refine X.if_lt_f (tgt := 33) dX3_accept_22 (by decide) (rng_ge0 hr) ?_
    refine X.iload_n dX3_accept_25 rfl ?_
    refine X.aload_n dX3_accept_26 rfl ?_
    refine X.getI (kf := 1) dX3_accept_27 (hT.1.1) (by decide) (by decide) rfl wf_X3_15 ?_
    refine X.icmp_lt_t (tgt := 35) dX3_accept_30 (by decide) ((by rw [hT.2.1.2]; exact rng_hi hr (by omega))) ?_
    refine X.aload_n dX3_accept_35 rfl ?_
    refine X.getI (kf := 0) dX3_accept_36 (hT.1.1) (by decide) (by decide) rfl wf_X3_9 ?_
    refine X.aload_n dX3_accept_39 rfl ?_
    refine X.getI (kf := 0) dX3_accept_40 (hh) (by decide) (by decide) rfl wf_X3_40 ?_
    refine X.cSN2i (k' := kX4_takes) dX3_accept_43 v_X4_takes (host := "PatchBay") (List.mem_of_getElem? (i := 3) rfl) wt_X4_takes ⟨Nat.le_of_ble_eq_true rfl, Nat.le_of_ble_eq_true rfl⟩ n_X4_takes (Nat.le_of_ble_eq_true rfl) ?_
    rw [hT.2.1.1, hK]
    refine x_takes hk hK2 ?_
    rw [ht]
    refine ⟨_, rfl, ?_⟩
    refine X.if_ne_t (tgt := 51) dX3_accept_46 (by decide) ((by decide)) ?_
    refine X.aload_n dX3_accept_51 rfl ?_
    refine X.getR (b := (a + 1)) (kf := 2) dX3_accept_52 (hT.1.1) (by decide) (by decide) rfl wf_X3_18 (hT.2.2.1) ?_
    refine X.iload_n dX3_accept_55 rfl ?_
    refine X.aload_n dX3_accept_56 rfl ?_
    refine X.getI (kf := 0) dX3_accept_57 (hT.1.1) (by decide) (by decide) rfl wf_X3_9 ?_
    refine X.cSN1i (k' := kX4_isPlain) dX3_accept_60 v_X4_isPlain (host := "PatchBay") (List.mem_of_getElem? (i := 1) rfl) wt_X4_isPlain ⟨Nat.le_of_ble_eq_true rfl, Nat.le_of_ble_eq_true rfl⟩ n_X4_isPlain (Nat.le_of_ble_eq_true rfl) ?_
    rw [hT.2.1.1]
    refine x_isPlain_f (rng_out (Nat.not_lt.mp h8) (by omega)) ?_
    refine ⟨_, rfl, ?_⟩
    refine X.if_eq_t (tgt := 73) dX3_accept_63 (by decide) ((by decide)) ?_
    refine X.aload_n dX3_accept_73 rfl ?_
    refine X.getI (kf := 0) dX3_accept_74 (hh) (by decide) (by decide) rfl wf_X3_40 ?_
    refine X.iast dX3_accept_77 (hT.1.2.1) (hj.1) (hj.2) (by omega) ?_
    refine X.aload_n dX3_accept_78 rfl ?_
    refine X.getR (b := (a + 2)) (kf := 3) dX3_accept_79 (hT.1.1) (by decide) (by decide) rfl wf_X3_22 (hT.2.2.2.1) ?_
    refine X.iload_n dX3_accept_82 rfl ?_
    refine X.aload_n dX3_accept_83 rfl ?_
    refine X.getI (kf := 0) dX3_accept_84 (hT.1.1) (by decide) (by decide) rfl wf_X3_9 ?_
    refine X.aload_n dX3_accept_87 rfl ?_
    refine X.getJ (kf := 1) dX3_accept_88 (hh) (by decide) (by decide) rfl wf_X3_45 ?_
    refine X.cSN2l (k' := kX4_fitted) dX3_accept_91 v_X4_fitted (host := "PatchBay") (List.mem_of_getElem? (i := 4) rfl) wt_X4_fitted ⟨Nat.le_of_ble_eq_true rfl, Nat.le_of_ble_eq_true rfl⟩ n_X4_fitted (Nat.le_of_ble_eq_true rfl) ?_
    rw [mI_at (by omega)]
    rw [hT.2.1.1]
    refine x_fitted hk ?_
    refine ⟨_, rfl, ?_⟩
    refine X.last dX3_accept_94 (hT.1.2.2.1) (hj.1) (hj.2) (by omega) ?_
    refine X.aload_n dX3_accept_95 rfl ?_
    refine X.getR (b := (a + 3)) (kf := 4) dX3_accept_96 (hT.1.1) (by decide) (by decide) rfl wf_X3_26 (hT.2.2.2.2) ?_
    refine X.iload_n dX3_accept_99 rfl ?_
    refine X.aload_n dX3_accept_100 rfl ?_
    refine X.getO (kf := 2) dX3_accept_101 (hh) (by decide) (by decide) rfl wf_X3_53 ?_
    refine X.aastO dX3_accept_104 (hT.1.2.2.2) (by decide) (hb) (hj.1) (hj.2) (by omega) ?_
    refine X.iconst (v := 0) dX3_accept_105 (by decide) ?_
    refine X.ret dX3_accept_106 ⟨trivial, ?_⟩
    exact hq
