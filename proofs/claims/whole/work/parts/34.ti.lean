/-! the class: books, moves, tick (laid by wip/whole/mkpb5.py) -/
set_option maxRecDepth 100000 in
set_option maxHeartbeats 4000000 in
theorem x_noteFault {k r : Nat} {who : Int32} {μ : xM} {Q : Option Value → xM → Prop} (hB : ShP μ) (hk : k < 20) (ek : fmodM (mI μ 1 6) 20 = nI k) (hr : r < 6) (hq : Q none (failP μ k who r)) : Mt kX4_noteFault [.ref 1, .int who, .int (nI r)] μ Q := by
  refine Mt.enter rfl (Nat.le_of_ble_eq_true rfl) ?_
  refine X.aload_n dX4_noteFault_0 rfl ?_
  refine X.getR (b := 4) (kf := 5) dX4_noteFault_1 (hB.1 1 (by decide) (by decide)) (by decide) (by decide) rfl wf_X4_33 (hB.2.1 5 (by decide)) ?_
  refine X.aload_n dX4_noteFault_4 rfl ?_
  refine X.getI (kf := 6) dX4_noteFault_5 (hB.1 1 (by decide) (by decide)) (by decide) (by decide) rfl wf_X4_36 ?_
  refine X.bipush (v := 20) dX4_noteFault_8 (by decide) ?_
  refine X.cS2i (k' := kJ9_floorMod_7cf53) dX4_noteFault_10 v_J9_floorMod_7cf53 wm_X4_218 wt_J9_floorMod_7cf53 ⟨Nat.le_of_ble_eq_true rfl, Nat.le_of_ble_eq_true rfl⟩ n_J9_floorMod_7cf53 (Nat.le_of_ble_eq_true rfl) ?_
  refine x_floorMod (by decide) ?_
  refine ⟨_, rfl, ?_⟩
  refine X.aald dX4_noteFault_13 (hB.1 4 (by decide) (by decide)) (by decide) (ek) (hk) (by omega) ((hB.2.2.2.1 _ hk).2) ?_
  refine X.astore_n dX4_noteFault_14 (Nat.le_of_ble_eq_true rfl) ?_
  refine X.aload_n dX4_noteFault_15 rfl ?_
  refine X.iconst (v := 0) dX4_noteFault_16 (by decide) ?_
  refine X.aload_n dX4_noteFault_17 rfl ?_
  refine X.getI (kf := 4) dX4_noteFault_18 (hB.1 1 (by decide) (by decide)) (by decide) (by decide) rfl wf_X4_28 ?_
  refine X.iast dX4_noteFault_21 ((hB.2.2.2.1 _ hk).1) ((rfl : (0 : Int32) = nI 0)) (by decide) (by omega) ?_
  refine X.aload_n dX4_noteFault_22 rfl ?_
  refine X.iconst (v := 1) dX4_noteFault_23 (by decide) ?_
  refine X.iload_n dX4_noteFault_24 rfl ?_
  refine X.iast dX4_noteFault_25 ((hB.2.2.2.1 _ hk).1) ((rfl : (1 : Int32) = nI 1)) (by decide) (by omega) ?_
  refine X.aload_n dX4_noteFault_26 rfl ?_
  refine X.iconst (v := 2) dX4_noteFault_27 (by decide) ?_
  refine X.iload_n dX4_noteFault_28 rfl ?_
  refine X.iast dX4_noteFault_29 ((hB.2.2.2.1 _ hk).1) ((rfl : (2 : Int32) = nI 2)) (by decide) (by omega) ?_
  refine X.aload_n dX4_noteFault_30 rfl ?_
  refine X.dup dX4_noteFault_31 ?_
  refine X.getI (kf := 6) dX4_noteFault_32 (hB.1 1 (by decide) (by decide)) (by decide) (by decide) rfl wf_X4_36 ?_
  refine X.iconst (v := 1) dX4_noteFault_35 (by decide) ?_
  refine X.iadd dX4_noteFault_36 ?_
  refine X.putI (kf := 6) dX4_noteFault_37 (hB.1 1 (by decide) (by decide)) (by decide) (by decide) rfl (Or.inl rfl) ⟨rfl, rfl⟩ wf_X4_36 ?_
  refine X.aload_n dX4_noteFault_40 rfl ?_
  refine X.iload_n dX4_noteFault_41 rfl ?_
  refine X.cV1v (k' := kX4_meet) dX4_noteFault_42 (hB.1 1 (by decide) (by decide)) ⟨by decide, rfl⟩ v_X4_meet wm_X4_225 wi_X4_meet ws_X4_meet ⟨Nat.le_of_ble_eq_true rfl, Nat.le_of_ble_eq_true rfl⟩ n_X4_meet (Nat.le_of_ble_eq_true rfl) ?_
  rw [mI_at (by omega), mI_at (by omega), mI_at (by omega)]
  refine x_meet (by exact hB) hr ?_
  refine ⟨rfl, ?_⟩
  refine X.retv dX4_noteFault_45 ⟨trivial, ?_⟩
  exact hq
theorem Rel.up {ρ ν μ : xM} {φ κ : Nat → Nat} {B : Nat × Nat × Nat × (Nat → Prop)} (h : Rel ρ ν μ φ κ B) {b : Nat} (hb : B.1 ≤ b) : Rel ρ ν μ φ κ (b, B.2) := by
  obtain ⟨h1, h2, h3, h4⟩ := h
  exact ⟨h1, h2, ⟨h3.1, h3.2.1, h3.2.2.1, ⟨h3.2.2.2.1.1, Nat.le_trans h3.2.2.2.1.2 hb⟩, h3.2.2.2.2⟩, h4⟩
theorem c_fail {r : Nat} {who : Int32} {ρ ν μ : xM} {φ κ : Nat → Nat} {B : Nat × Nat × Nat × (Nat → Prop)} {Q : Option Value → xM → Prop} (hR : Rel ρ ν μ φ κ B) (hB30 : B.1 < 2 ^ 30) (h0 : r ≠ 0) (hr : r < 6) (hq : ∀ μ1, Rel ρ (failM ν who r) μ1 φ κ (B.1 + 1, B.2) → Q none μ1) : Mt kX4_noteFault [.ref 1, .int who, .int (nI r)] μ Q := by
  have hf := hR.fm
  refine x_noteFault hR.2.1 (Nat.mod_lt (fM ν) (by decide)) ?_ hr (hq _ (hR.fail hB30 h0 hr))
  rw [hR.2.2.2.1.1.2.2.2.1, hf.1]
  exact fmod_nI (n := 20) (by omega) (by decide) (by decide)
set_option maxRecDepth 100000 in
set_option maxHeartbeats 4000000 in
theorem c_strike {k : Nat} {ρ ν μ : xM} {φ κ : Nat → Nat} {B : Nat × Nat × Nat × (Nat → Prop)} {Q : Option Value → xM → Prop} (hR : Rel ρ ν μ φ κ B) (hk : k < qM ν) (hin : mI ν 57 k = 1) (hq : ∀ μ1, Rel ρ (strikeM ν k) μ1 φ κ B → Q none μ1) : Mt kX0_strike [.ref (κ k)] μ Q := by
  have hc := (hR.cb hk).2
  have e6 := hc.2.2.2.2.2.1
  have e5 := hc.2.2.2.2.1
  refine Mt.enter rfl (Nat.le_of_ble_eq_true rfl) ?_
  refine X.aload_n dX0_strike_0 rfl ?_
  refine X.dup dX0_strike_1 ?_
  refine X.getI (kf := 6) dX0_strike_2 (hc.2.1) (by decide) (by decide) rfl wf_X0_17 ?_
  refine X.iconst (v := 1) dX0_strike_5 (by decide) ?_
  refine X.iadd dX0_strike_6 ?_
  refine X.putI (kf := 6) dX0_strike_7 (hc.2.1) (by decide) (by decide) rfl (Or.inl rfl) ⟨rfl, rfl⟩ wf_X0_17 ?_
  refine X.aload_n dX0_strike_10 rfl ?_
  refine X.getI (kf := 6) dX0_strike_11 (hc.2.1) (by decide) (by decide) rfl wf_X0_17 ?_
  refine X.aload_n dX0_strike_14 rfl ?_
  refine X.getI (kf := 5) dX0_strike_15 (hc.2.1) (by decide) (by decide) rfl wf_X0_13 ?_
  refine X.icmp_ne (tgt := 26) dX0_strike_18 (by decide) (fun c18 => ?_) (fun c18 => ?_)
  · refine X.retv dX0_strike_26 ⟨trivial, ?_⟩
    rw [mI_s, mI_k (by decide), e6, e5] at c18
    have r1 := hR.cab hk (f := 6) (x := mI ν 59 k + 1) (Or.inr (Or.inr (Or.inl rfl)))
    rw [e6]
    unfold strikeM at hq
    first
      | (rw [if_pos c18] at hq
         exact hq _ (r1.cab hk (f := 4) (x := 0) (Or.inl ⟨rfl, Or.inl rfl⟩)))
      | (rw [if_neg c18] at hq
         have e := sI_self (sI ν 59 k (mI ν 59 k + 1)) 57 k
         rw [show mI (sI ν 59 k (mI ν 59 k + 1)) 57 k = 1 from hin] at e
         rw [e] at hq
         exact hq _ r1)
  · refine X.aload_n dX0_strike_21 rfl ?_
    refine X.iconst (v := 0) dX0_strike_22 (by decide) ?_
    refine X.putI (kf := 4) dX0_strike_23 (hc.2.1) (by decide) (by decide) rfl (Or.inl rfl) ⟨rfl, rfl⟩ wf_X0_7 ?_
    refine X.retv dX0_strike_26 ⟨trivial, ?_⟩
    rw [mI_s, mI_k (by decide), e6, e5] at c18
    have r1 := hR.cab hk (f := 6) (x := mI ν 59 k + 1) (Or.inr (Or.inr (Or.inl rfl)))
    rw [e6]
    unfold strikeM at hq
    first
      | (rw [if_pos c18] at hq
         exact hq _ (r1.cab hk (f := 4) (x := 0) (Or.inl ⟨rfl, Or.inl rfl⟩)))
      | (rw [if_neg c18] at hq
         have e := sI_self (sI ν 59 k (mI ν 59 k + 1)) 57 k
         rw [show mI (sI ν 59 k (mI ν 59 k + 1)) 57 k = 1 from hin] at e
         rw [e] at hq
         exact hq _ r1)
set_option maxRecDepth 100000 in
set_option maxHeartbeats 4000000 in
theorem c_books_f {k n : Nat} {ρ ν μ : xM} {φ κ : Nat → Nat} {B : Nat × Nat × Nat × (Nat → Prop)} {Q : Option Value → xM → Prop} (hR : Rel ρ ν μ φ κ B) (hB30 : B.1 < 2 ^ 30) (hk : k < qM ν) (hin : mI ν 57 k = 1) (h0 : n ≠ 0) (hn : n < 6) (hq : ∀ μ1, Rel ρ (strikeM (failM ν (nI k) n) k) μ1 φ κ (B.1 + 1, B.2) → Q none μ1) : Mt kX4_keepBooks [.ref 1, .ref (κ k), .int (nI n)] μ Q := by
  have hB := hR.2.1
  have hc := (hR.cb hk).2
  have hS := hc.2.1
  refine Mt.enter rfl (Nat.le_of_ble_eq_true rfl) ?_
  refine X.iload_n dX4_keepBooks_0 rfl ?_
  refine X.if_eq_f (tgt := 23) dX4_keepBooks_1 (by decide) ((fun q => h0 (nI_z q (by omega)))) ?_
  refine X.iload_n dX4_keepBooks_4 rfl ?_
  refine X.iconst (v := -1) dX4_keepBooks_5 (by decide) ?_
  refine X.icmp_eq_f (tgt := 23) dX4_keepBooks_6 (by decide) (nI_nm1 (by omega)) ?_
  refine X.aload_n dX4_keepBooks_9 rfl ?_
  refine X.aload_n dX4_keepBooks_10 rfl ?_
  refine X.getI (kf := 0) dX4_keepBooks_11 (hS) (by decide) (by decide) rfl wf_X4_228 ?_
  refine X.iload_n dX4_keepBooks_14 rfl ?_
  refine X.cV2v (k' := kX4_noteFault) dX4_keepBooks_15 (hB.1 1 (by decide) (by decide)) ⟨by decide, rfl⟩ v_X4_noteFault wm_X4_229 wi_X4_noteFault ws_X4_noteFault ⟨Nat.le_of_ble_eq_true rfl, Nat.le_of_ble_eq_true rfl⟩ n_X4_noteFault (Nat.le_of_ble_eq_true rfl) ?_
  rw [hc.2.2.1.1]
  refine c_fail hR hB30 h0 hn (fun μ1 hR => ?_)
  refine ⟨rfl, ?_⟩
  have hc := (hR.cb hk).2
  have hS := hc.2.1
  refine X.aload_n dX4_keepBooks_18 rfl ?_
  refine X.cV0v (k' := kX0_strike) dX4_keepBooks_19 (hS) ⟨by decide, rfl⟩ v_X0_strike wm_X4_232 wi_X0_strike ws_X0_strike ⟨Nat.le_of_ble_eq_true rfl, Nat.le_of_ble_eq_true rfl⟩ n_X0_strike (Nat.le_of_ble_eq_true rfl) ?_
  refine c_strike hR hk hin (fun μ2 hR => ?_)
  refine ⟨rfl, ?_⟩
  refine X.retv dX4_keepBooks_22 ⟨trivial, ?_⟩
  exact hq _ hR
set_option maxRecDepth 100000 in
set_option maxHeartbeats 4000000 in
theorem c_books_s {k : Nat} {ρ ν μ : xM} {φ κ : Nat → Nat} {B : Nat × Nat × Nat × (Nat → Prop)} {Q : Option Value → xM → Prop} (hR : Rel ρ ν μ φ κ B) (hk : k < qM ν) (hq : ∀ μ1, Rel ρ (calmM ν k 1 0) μ1 φ κ B → Q none μ1) : Mt kX4_keepBooks [.ref 1, .ref (κ k), .int (-1)] μ Q := by
  have hB := hR.2.1
  have hc := (hR.cb hk).2
  have hS := hc.2.1
  refine Mt.enter rfl (Nat.le_of_ble_eq_true rfl) ?_
  refine X.iload_n dX4_keepBooks_0 rfl ?_
  refine X.if_eq_f (tgt := 23) dX4_keepBooks_1 (by decide) ((by decide)) ?_
  refine X.iload_n dX4_keepBooks_4 rfl ?_
  refine X.iconst (v := -1) dX4_keepBooks_5 (by decide) ?_
  refine X.icmp_eq_t (tgt := 23) dX4_keepBooks_6 (by decide) (rfl) ?_
  refine X.aload_n dX4_keepBooks_23 rfl ?_
  refine X.iconst (v := 0) dX4_keepBooks_24 (by decide) ?_
  refine X.putI (kf := 6) dX4_keepBooks_25 (hS) (by decide) (by decide) rfl (Or.inl rfl) ⟨rfl, rfl⟩ wf_X4_161 ?_
  refine X.iload_n dX4_keepBooks_28 rfl ?_
  refine X.iconst (v := -1) dX4_keepBooks_29 (by decide) ?_
  refine X.icmp_ne_f (tgt := 46) dX4_keepBooks_30 (by decide) (rfl) ?_
  refine X.aload_n dX4_keepBooks_33 rfl ?_
  refine X.dup dX4_keepBooks_34 ?_
  refine X.getI (kf := 8) dX4_keepBooks_35 (hS) (by decide) (by decide) rfl wf_X4_215 ?_
  refine X.iconst (v := 1) dX4_keepBooks_38 (by decide) ?_
  refine X.iadd dX4_keepBooks_39 ?_
  refine X.putI (kf := 8) dX4_keepBooks_40 (hS) (by decide) (by decide) rfl (Or.inl rfl) ⟨rfl, rfl⟩ wf_X4_215 ?_
  refine X.goto (tgt := 56) dX4_keepBooks_43 (by decide) ?_
  refine X.retv dX4_keepBooks_56 ⟨trivial, ?_⟩
  have r1 := (hR.cab hk (f := 6) (x := 0) (Or.inr (Or.inr (Or.inl rfl)))).cab hk (f := 8) (x := mI ν 61 k + 1) (Or.inr (Or.inr (Or.inr (Or.inr rfl))))
  rw [mI_k (by decide), hc.2.2.2.2.2.2.2]
  unfold calmM at hq
  rw [Int32.add_zero] at hq
  have e := sI_self (sI (sI ν 59 k 0) 61 k (mI ν 61 k + 1)) 60 k
  rw [show mI (sI (sI ν 59 k 0) 61 k (mI ν 61 k + 1)) 60 k = mI ν 60 k from rfl] at e
  rw [e] at hq
  exact hq _ r1
set_option maxRecDepth 100000 in
set_option maxHeartbeats 4000000 in
theorem c_books_c {k : Nat} {ρ ν μ : xM} {φ κ : Nat → Nat} {B : Nat × Nat × Nat × (Nat → Prop)} {Q : Option Value → xM → Prop} (hR : Rel ρ ν μ φ κ B) (hk : k < qM ν) (hq : ∀ μ1, Rel ρ (calmM ν k 0 1) μ1 φ κ B → Q none μ1) : Mt kX4_keepBooks [.ref 1, .ref (κ k), .int 0] μ Q := by
  have hB := hR.2.1
  have hc := (hR.cb hk).2
  have hS := hc.2.1
  refine Mt.enter rfl (Nat.le_of_ble_eq_true rfl) ?_
  refine X.iload_n dX4_keepBooks_0 rfl ?_
  refine X.if_eq_t (tgt := 23) dX4_keepBooks_1 (by decide) (rfl) ?_
  refine X.aload_n dX4_keepBooks_23 rfl ?_
  refine X.iconst (v := 0) dX4_keepBooks_24 (by decide) ?_
  refine X.putI (kf := 6) dX4_keepBooks_25 (hS) (by decide) (by decide) rfl (Or.inl rfl) ⟨rfl, rfl⟩ wf_X4_161 ?_
  refine X.iload_n dX4_keepBooks_28 rfl ?_
  refine X.iconst (v := -1) dX4_keepBooks_29 (by decide) ?_
  refine X.icmp_ne_t (tgt := 46) dX4_keepBooks_30 (by decide) ((by decide)) ?_
  refine X.aload_n dX4_keepBooks_46 rfl ?_
  refine X.dup dX4_keepBooks_47 ?_
  refine X.getI (kf := 7) dX4_keepBooks_48 (hS) (by decide) (by decide) rfl wf_X4_212 ?_
  refine X.iconst (v := 1) dX4_keepBooks_51 (by decide) ?_
  refine X.iadd dX4_keepBooks_52 ?_
  refine X.putI (kf := 7) dX4_keepBooks_53 (hS) (by decide) (by decide) rfl (Or.inl rfl) ⟨rfl, rfl⟩ wf_X4_212 ?_
  refine X.retv dX4_keepBooks_56 ⟨trivial, ?_⟩
  have r1 := (hR.cab hk (f := 6) (x := 0) (Or.inr (Or.inr (Or.inl rfl)))).cab hk (f := 7) (x := mI ν 60 k + 1) (Or.inr (Or.inr (Or.inr (Or.inl rfl))))
  rw [mI_k (by decide), hc.2.2.2.2.2.2.1]
  unfold calmM at hq
  rw [Int32.add_zero] at hq
  have e := sI_self (sI ν 59 k 0) 61 k
  rw [show mI (sI ν 59 k 0) 61 k = mI ν 61 k from rfl] at e
  rw [e] at hq
  exact hq _ r1
set_option maxRecDepth 100000 in
set_option maxHeartbeats 4000000 in
theorem c_carry3 {k : Nat} {ρ ν μ : xM} {φ κ : Nat → Nat} {B : Nat × Nat × Nat × (Nat → Prop)} {Q : Option Value → xM → Prop} (hR : Rel ρ ν μ φ κ B) (hk : k < qM ν) (h3 : ck ν k = 3) (hq : ∀ μ1, Rel ρ (carryM ν k) μ1 φ κ B → Q (some (.int (rC (noCarryM ν k)))) μ1) : Mt kX4_carry [.ref 1, .ref (κ k)] μ Q := by
  have hB := hR.2.1
  have hc := (hR.cb hk).2
  have hS := hc.2.1
  obtain ⟨⟨ek, lk⟩, ⟨ef, lf⟩, et, lt⟩ := hR.wc.2 k hk
  have hf : cf ν k < 16 := lf
  have ht : ct ν k < 16 := lt
  have e1 := (hR.ch hf).2.2.2.1
  have e2 := (hR.ch ht).2.2.2.1
  rw [h3] at ek
  unfold noCarryM carryM at hq
  rw [if_pos h3, if_pos h3, rC_pos (by have := noChange_le ν (cf ν k) (mI ν 51 (cf ν k)) (ct ν k) (mI ν 51 (ct ν k)); omega)] at hq
  refine Mt.enter rfl (Nat.le_of_ble_eq_true rfl) ?_
  refine X.aload_n dX4_carry_0 rfl ?_
  refine X.getR (b := (28 + cf ν k)) (kf := 2) dX4_carry_1 (hS) (by decide) (by decide) rfl wf_X4_202 (hc.2.2.1.2.2.1) ?_
  refine X.getI (kf := 3) dX4_carry_4 ((hB.2.2.1 _ hf).1) (by decide) (by decide) rfl wf_X4_96 ?_
  refine X.istore_n dX4_carry_7 (Nat.le_of_ble_eq_true rfl) ?_
  refine X.aload_n dX4_carry_8 rfl ?_
  refine X.getR (b := (28 + ct ν k)) (kf := 3) dX4_carry_9 (hS) (by decide) (by decide) rfl wf_X4_209 (hc.2.2.1.2.2.2) ?_
  refine X.getI (kf := 3) dX4_carry_12 ((hB.2.2.1 _ ht).1) (by decide) (by decide) rfl wf_X4_96 ?_
  refine X.istore_n dX4_carry_15 (Nat.le_of_ble_eq_true rfl) ?_
  refine X.aload_n dX4_carry_16 rfl ?_
  refine X.getI (kf := 1) dX4_carry_17 (hS) (by decide) (by decide) rfl wf_X4_201 ?_
  rw [hc.2.2.1.2.1, ek]
  refine X.tabIn (tgt := 78) dX4_carry_20 (by decide) (by decide) (rfl) (by decide) ?_
  refine X.aload_n dX4_carry_78 rfl ?_
  refine X.aload_n dX4_carry_79 rfl ?_
  refine X.getR (b := (28 + cf ν k)) (kf := 2) dX4_carry_80 (hS) (by decide) (by decide) rfl wf_X4_202 (hc.2.2.1.2.2.1) ?_
  refine X.iload_n dX4_carry_83 rfl ?_
  refine X.aload_n dX4_carry_84 rfl ?_
  refine X.getR (b := (28 + ct ν k)) (kf := 3) dX4_carry_85 (hS) (by decide) (by decide) rfl wf_X4_209 (hc.2.2.1.2.2.2) ?_
  refine X.iload_n dX4_carry_88 rfl ?_
  refine X.cV4i (k' := kX4_swap) dX4_carry_89 (hB.1 1 (by decide) (by decide)) ⟨by decide, rfl⟩ v_X4_swap wm_X4_241 wi_X4_swap ws_X4_swap ⟨Nat.le_of_ble_eq_true rfl, Nat.le_of_ble_eq_true rfl⟩ n_X4_swap (Nat.le_of_ble_eq_true rfl) ?_
  rw [e1, e2]
  refine c_swap hR hf ht (fun μ1 hR1 => ?_)
  refine ⟨_, rfl, ?_⟩
  refine X.ret dX4_carry_92 ⟨trivial, ?_⟩
  exact hq _ hR1
set_option maxRecDepth 100000 in
set_option maxHeartbeats 4000000 in
theorem c_carrys {k : Nat} {ρ ν μ : xM} {φ κ : Nat → Nat} {B : Nat × Nat × Nat × (Nat → Prop)} {Q : Option Value → xM → Prop} (hR : Rel ρ ν μ φ κ B) (hk : k < qM ν) (h1 : ck ν k = 1) (hs : shutM ν k) (hq : ∀ μ1, Rel ρ (carryM ν k) μ1 φ κ B → Q (some (.int (rC (noCarryM ν k)))) μ1) : Mt kX4_carry [.ref 1, .ref (κ k)] μ Q := by
  have hB := hR.2.1
  have hc := (hR.cb hk).2
  have hS := hc.2.1
  obtain ⟨⟨ek, lk⟩, ⟨ef, lf⟩, et, lt⟩ := hR.wc.2 k hk
  have hf : cf ν k < 16 := lf
  have ht : ct ν k < 16 := lt
  have e1 := (hR.ch hf).2.2.2.1
  have e2 := (hR.ch ht).2.2.2.1
  rw [h1] at ek
  unfold noCarryM carryM at hq
  rw [if_neg (show ¬ ck ν k = 3 by omega), if_neg (show ¬ ck ν k = 3 by omega), if_pos hs, if_pos hs] at hq
  refine Mt.enter rfl (Nat.le_of_ble_eq_true rfl) ?_
  refine X.aload_n dX4_carry_0 rfl ?_
  refine X.getR (b := (28 + cf ν k)) (kf := 2) dX4_carry_1 (hS) (by decide) (by decide) rfl wf_X4_202 (hc.2.2.1.2.2.1) ?_
  refine X.getI (kf := 3) dX4_carry_4 ((hB.2.2.1 _ hf).1) (by decide) (by decide) rfl wf_X4_96 ?_
  refine X.istore_n dX4_carry_7 (Nat.le_of_ble_eq_true rfl) ?_
  refine X.aload_n dX4_carry_8 rfl ?_
  refine X.getR (b := (28 + ct ν k)) (kf := 3) dX4_carry_9 (hS) (by decide) (by decide) rfl wf_X4_209 (hc.2.2.1.2.2.2) ?_
  refine X.getI (kf := 3) dX4_carry_12 ((hB.2.2.1 _ ht).1) (by decide) (by decide) rfl wf_X4_96 ?_
  refine X.istore_n dX4_carry_15 (Nat.le_of_ble_eq_true rfl) ?_
  refine X.aload_n dX4_carry_16 rfl ?_
  refine X.getI (kf := 1) dX4_carry_17 (hS) (by decide) (by decide) rfl wf_X4_201 ?_
  rw [hc.2.2.1.2.1, ek]
  refine X.tabIn (tgt := 48) dX4_carry_20 (by decide) (by decide) (rfl) (by decide) ?_
  refine X.aload_n dX4_carry_48 rfl ?_
  refine X.aload_n dX4_carry_49 rfl ?_
  refine X.getR (b := (28 + cf ν k)) (kf := 2) dX4_carry_50 (hS) (by decide) (by decide) rfl wf_X4_202 (hc.2.2.1.2.2.1) ?_
  refine X.iload_n dX4_carry_53 rfl ?_
  refine X.aload_n dX4_carry_54 rfl ?_
  refine X.getR (b := (28 + ct ν k)) (kf := 3) dX4_carry_55 (hS) (by decide) (by decide) rfl wf_X4_209 (hc.2.2.1.2.2.2) ?_
  refine X.iload_n dX4_carry_58 rfl ?_
  refine X.cV4i (k' := kX4_gate) dX4_carry_59 (hB.1 1 (by decide) (by decide)) ⟨by decide, rfl⟩ v_X4_gate wm_X4_235 wi_X4_gate ws_X4_gate ⟨Nat.le_of_ble_eq_true rfl, Nat.le_of_ble_eq_true rfl⟩ n_X4_gate (Nat.le_of_ble_eq_true rfl) ?_
  rw [e1, e2]
  refine c_gate_s hR hf ht hs.2.1 hs.2.2 (fun μ1 hR1 => ?_)
  refine ⟨_, rfl, ?_⟩
  refine X.ret dX4_carry_62 ⟨trivial, ?_⟩
  exact hq _ hR1
set_option maxRecDepth 100000 in
set_option maxHeartbeats 4000000 in
theorem c_carryg {k : Nat} {ρ ν μ : xM} {φ κ : Nat → Nat} {B : Nat × Nat × Nat × (Nat → Prop)} {Q : Option Value → xM → Prop} (hR : Rel ρ ν μ φ κ B) (hk : k < qM ν) (h1 : ck ν k = 1) (hs : ¬ shutM ν k) (hq : ∀ μ1, Rel ρ (carryM ν k) μ1 φ κ B → Q (some (.int (rC (noCarryM ν k)))) μ1) : Mt kX4_carry [.ref 1, .ref (κ k)] μ Q := by
  have hB := hR.2.1
  have hc := (hR.cb hk).2
  have hS := hc.2.1
  obtain ⟨⟨ek, lk⟩, ⟨ef, lf⟩, et, lt⟩ := hR.wc.2 k hk
  have hf : cf ν k < 16 := lf
  have ht : ct ν k < 16 := lt
  have e1 := (hR.ch hf).2.2.2.1
  have e2 := (hR.ch ht).2.2.2.1
  rw [h1] at ek
  have l6 := noPass_le ν (cf ν k) (mI ν 51 (cf ν k)) (ct ν k) (mI ν 51 (ct ν k))
  unfold noCarryM carryM at hq
  rw [if_neg (show ¬ ck ν k = 3 by omega), if_neg (show ¬ ck ν k = 3 by omega), if_neg hs, if_neg hs, if_neg (show ¬ (ck ν k = 2 ∧ noPass1M ν k = 0) by omega), if_neg (show ¬ (ck ν k = 2 ∧ noPass1M ν k = 0) by omega)] at hq
  unfold noPass1M pass1M at hq
  rw [rC_pos (by omega)] at hq
  refine Mt.enter rfl (Nat.le_of_ble_eq_true rfl) ?_
  refine X.aload_n dX4_carry_0 rfl ?_
  refine X.getR (b := (28 + cf ν k)) (kf := 2) dX4_carry_1 (hS) (by decide) (by decide) rfl wf_X4_202 (hc.2.2.1.2.2.1) ?_
  refine X.getI (kf := 3) dX4_carry_4 ((hB.2.2.1 _ hf).1) (by decide) (by decide) rfl wf_X4_96 ?_
  refine X.istore_n dX4_carry_7 (Nat.le_of_ble_eq_true rfl) ?_
  refine X.aload_n dX4_carry_8 rfl ?_
  refine X.getR (b := (28 + ct ν k)) (kf := 3) dX4_carry_9 (hS) (by decide) (by decide) rfl wf_X4_209 (hc.2.2.1.2.2.2) ?_
  refine X.getI (kf := 3) dX4_carry_12 ((hB.2.2.1 _ ht).1) (by decide) (by decide) rfl wf_X4_96 ?_
  refine X.istore_n dX4_carry_15 (Nat.le_of_ble_eq_true rfl) ?_
  refine X.aload_n dX4_carry_16 rfl ?_
  refine X.getI (kf := 1) dX4_carry_17 (hS) (by decide) (by decide) rfl wf_X4_201 ?_
  rw [hc.2.2.1.2.1, ek]
  refine X.tabIn (tgt := 48) dX4_carry_20 (by decide) (by decide) (rfl) (by decide) ?_
  refine X.aload_n dX4_carry_48 rfl ?_
  refine X.aload_n dX4_carry_49 rfl ?_
  refine X.getR (b := (28 + cf ν k)) (kf := 2) dX4_carry_50 (hS) (by decide) (by decide) rfl wf_X4_202 (hc.2.2.1.2.2.1) ?_
  refine X.iload_n dX4_carry_53 rfl ?_
  refine X.aload_n dX4_carry_54 rfl ?_
  refine X.getR (b := (28 + ct ν k)) (kf := 3) dX4_carry_55 (hS) (by decide) (by decide) rfl wf_X4_209 (hc.2.2.1.2.2.2) ?_
  refine X.iload_n dX4_carry_58 rfl ?_
  refine X.cV4i (k' := kX4_gate) dX4_carry_59 (hB.1 1 (by decide) (by decide)) ⟨by decide, rfl⟩ v_X4_gate wm_X4_235 wi_X4_gate ws_X4_gate ⟨Nat.le_of_ble_eq_true rfl, Nat.le_of_ble_eq_true rfl⟩ n_X4_gate (Nat.le_of_ble_eq_true rfl) ?_
  rw [e1, e2]
  refine c_gate hR hf ht (fun a b => hs ⟨h1, a, b⟩) (fun μ1 hR1 => ?_)
  refine ⟨_, rfl, ?_⟩
  refine X.ret dX4_carry_62 ⟨trivial, ?_⟩
  exact hq _ hR1
set_option maxRecDepth 100000 in
set_option maxHeartbeats 4000000 in
theorem c_carryw {k : Nat} {ρ ν μ : xM} {φ κ : Nat → Nat} {B : Nat × Nat × Nat × (Nat → Prop)} {Q : Option Value → xM → Prop} (hR : Rel ρ ν μ φ κ B) (hk : k < qM ν) (h1 : ck ν k = 0) (hq : ∀ μ1, Rel ρ (carryM ν k) μ1 φ κ B → Q (some (.int (rC (noCarryM ν k)))) μ1) : Mt kX4_carry [.ref 1, .ref (κ k)] μ Q := by
  have hB := hR.2.1
  have hc := (hR.cb hk).2
  have hS := hc.2.1
  obtain ⟨⟨ek, lk⟩, ⟨ef, lf⟩, et, lt⟩ := hR.wc.2 k hk
  have hf : cf ν k < 16 := lf
  have ht : ct ν k < 16 := lt
  have e1 := (hR.ch hf).2.2.2.1
  have e2 := (hR.ch ht).2.2.2.1
  have hs : ¬ shutM ν k := fun q => by have := q.1; omega
  rw [h1] at ek
  have l6 := noPass_le ν (cf ν k) (mI ν 51 (cf ν k)) (ct ν k) (mI ν 51 (ct ν k))
  unfold noCarryM carryM at hq
  rw [if_neg (show ¬ ck ν k = 3 by omega), if_neg (show ¬ ck ν k = 3 by omega), if_neg hs, if_neg hs, if_neg (show ¬ (ck ν k = 2 ∧ noPass1M ν k = 0) by omega), if_neg (show ¬ (ck ν k = 2 ∧ noPass1M ν k = 0) by omega)] at hq
  unfold noPass1M pass1M at hq
  rw [rC_pos (by omega)] at hq
  refine Mt.enter rfl (Nat.le_of_ble_eq_true rfl) ?_
  refine X.aload_n dX4_carry_0 rfl ?_
  refine X.getR (b := (28 + cf ν k)) (kf := 2) dX4_carry_1 (hS) (by decide) (by decide) rfl wf_X4_202 (hc.2.2.1.2.2.1) ?_
  refine X.getI (kf := 3) dX4_carry_4 ((hB.2.2.1 _ hf).1) (by decide) (by decide) rfl wf_X4_96 ?_
  refine X.istore_n dX4_carry_7 (Nat.le_of_ble_eq_true rfl) ?_
  refine X.aload_n dX4_carry_8 rfl ?_
  refine X.getR (b := (28 + ct ν k)) (kf := 3) dX4_carry_9 (hS) (by decide) (by decide) rfl wf_X4_209 (hc.2.2.1.2.2.2) ?_
  refine X.getI (kf := 3) dX4_carry_12 ((hB.2.2.1 _ ht).1) (by decide) (by decide) rfl wf_X4_96 ?_
  refine X.istore_n dX4_carry_15 (Nat.le_of_ble_eq_true rfl) ?_
  refine X.aload_n dX4_carry_16 rfl ?_
  refine X.getI (kf := 1) dX4_carry_17 (hS) (by decide) (by decide) rfl wf_X4_201 ?_
  rw [hc.2.2.1.2.1, ek]
  refine X.tabOut (tgt := 93) dX4_carry_20 (Or.inl (by decide)) (by decide) ?_
  refine X.aload_n dX4_carry_93 rfl ?_
  refine X.aload_n dX4_carry_94 rfl ?_
  refine X.getR (b := (28 + cf ν k)) (kf := 2) dX4_carry_95 (hS) (by decide) (by decide) rfl wf_X4_202 (hc.2.2.1.2.2.1) ?_
  refine X.iload_n dX4_carry_98 rfl ?_
  refine X.aload_n dX4_carry_99 rfl ?_
  refine X.getR (b := (28 + ct ν k)) (kf := 3) dX4_carry_100 (hS) (by decide) (by decide) rfl wf_X4_209 (hc.2.2.1.2.2.2) ?_
  refine X.iload_n dX4_carry_103 rfl ?_
  refine X.cV4i (k' := kX4_wire) dX4_carry_104 (hB.1 1 (by decide) (by decide)) ⟨by decide, rfl⟩ v_X4_wire wm_X4_176 wi_X4_wire ws_X4_wire ⟨Nat.le_of_ble_eq_true rfl, Nat.le_of_ble_eq_true rfl⟩ n_X4_wire (Nat.le_of_ble_eq_true rfl) ?_
  rw [e1, e2]
  refine c_wire hR hf ht (fun μ1 hR1 => ?_)
  refine ⟨_, rfl, ?_⟩
  refine X.ret dX4_carry_107 ⟨trivial, ?_⟩
  exact hq _ hR1
set_option maxRecDepth 100000 in
set_option maxHeartbeats 4000000 in
theorem c_carryp {k : Nat} {ρ ν μ : xM} {φ κ : Nat → Nat} {B : Nat × Nat × Nat × (Nat → Prop)} {Q : Option Value → xM → Prop} (hR : Rel ρ ν μ φ κ B) (hk : k < qM ν) (h1 : ck ν k = 2) (hz : ¬ noPass1M ν k = 0) (hq : ∀ μ1, Rel ρ (carryM ν k) μ1 φ κ B → Q (some (.int (rC (noCarryM ν k)))) μ1) : Mt kX4_carry [.ref 1, .ref (κ k)] μ Q := by
  have hB := hR.2.1
  have hc := (hR.cb hk).2
  have hS := hc.2.1
  obtain ⟨⟨ek, lk⟩, ⟨ef, lf⟩, et, lt⟩ := hR.wc.2 k hk
  have hf : cf ν k < 16 := lf
  have ht : ct ν k < 16 := lt
  have e1 := (hR.ch hf).2.2.2.1
  have e2 := (hR.ch ht).2.2.2.1
  have hs : ¬ shutM ν k := fun q => by have := q.1; omega
  rw [h1] at ek
  have l6 := noPass_le ν (cf ν k) (mI ν 51 (cf ν k)) (ct ν k) (mI ν 51 (ct ν k))
  unfold noCarryM carryM at hq
  rw [if_neg (show ¬ ck ν k = 3 by omega), if_neg (show ¬ ck ν k = 3 by omega), if_neg hs, if_neg hs, if_neg (show ¬ (ck ν k = 2 ∧ noPass1M ν k = 0) from fun q => hz q.2), if_neg (show ¬ (ck ν k = 2 ∧ noPass1M ν k = 0) from fun q => hz q.2)] at hq
  unfold noPass1M pass1M at hq
  rw [rC_pos (by omega)] at hq
  refine Mt.enter rfl (Nat.le_of_ble_eq_true rfl) ?_
  refine X.aload_n dX4_carry_0 rfl ?_
  refine X.getR (b := (28 + cf ν k)) (kf := 2) dX4_carry_1 (hS) (by decide) (by decide) rfl wf_X4_202 (hc.2.2.1.2.2.1) ?_
  refine X.getI (kf := 3) dX4_carry_4 ((hB.2.2.1 _ hf).1) (by decide) (by decide) rfl wf_X4_96 ?_
  refine X.istore_n dX4_carry_7 (Nat.le_of_ble_eq_true rfl) ?_
  refine X.aload_n dX4_carry_8 rfl ?_
  refine X.getR (b := (28 + ct ν k)) (kf := 3) dX4_carry_9 (hS) (by decide) (by decide) rfl wf_X4_209 (hc.2.2.1.2.2.2) ?_
  refine X.getI (kf := 3) dX4_carry_12 ((hB.2.2.1 _ ht).1) (by decide) (by decide) rfl wf_X4_96 ?_
  refine X.istore_n dX4_carry_15 (Nat.le_of_ble_eq_true rfl) ?_
  refine X.aload_n dX4_carry_16 rfl ?_
  refine X.getI (kf := 1) dX4_carry_17 (hS) (by decide) (by decide) rfl wf_X4_201 ?_
  rw [hc.2.2.1.2.1, ek]
  refine X.tabIn (tgt := 63) dX4_carry_20 (by decide) (by decide) (rfl) (by decide) ?_
  refine X.aload_n dX4_carry_63 rfl ?_
  refine X.aload_n dX4_carry_64 rfl ?_
  refine X.getR (b := (28 + cf ν k)) (kf := 2) dX4_carry_65 (hS) (by decide) (by decide) rfl wf_X4_202 (hc.2.2.1.2.2.1) ?_
  refine X.iload_n dX4_carry_68 rfl ?_
  refine X.aload_n dX4_carry_69 rfl ?_
  refine X.getR (b := (28 + ct ν k)) (kf := 3) dX4_carry_70 (hS) (by decide) (by decide) rfl wf_X4_209 (hc.2.2.1.2.2.2) ?_
  refine X.iload_n dX4_carry_73 rfl ?_
  refine X.cV4i (k' := kX4_pair) dX4_carry_74 (hB.1 1 (by decide) (by decide)) ⟨by decide, rfl⟩ v_X4_pair wm_X4_238 wi_X4_pair ws_X4_pair ⟨Nat.le_of_ble_eq_true rfl, Nat.le_of_ble_eq_true rfl⟩ n_X4_pair (Nat.le_of_ble_eq_true rfl) ?_
  rw [e1, e2]
  refine c_pair_o hR hf ht hz (fun μ1 hR1 => ?_)
  refine ⟨_, rfl, ?_⟩
  refine X.ret dX4_carry_77 ⟨trivial, ?_⟩
  exact hq _ hR1
set_option maxRecDepth 100000 in
set_option maxHeartbeats 4000000 in
theorem c_carryq {k : Nat} {ρ ν μ : xM} {φ κ : Nat → Nat} {B : Nat × Nat × Nat × (Nat → Prop)} {Q : Option Value → xM → Prop} (hR : Rel ρ ν μ φ κ B) (hk : k < qM ν) (h1 : ck ν k = 2) (hz : noPass1M ν k = 0) (hq : ∀ μ1, Rel ρ (carryM ν k) μ1 φ κ B → Q (some (.int (rC (noCarryM ν k)))) μ1) : Mt kX4_carry [.ref 1, .ref (κ k)] μ Q := by
  have hB := hR.2.1
  have hc := (hR.cb hk).2
  have hS := hc.2.1
  obtain ⟨⟨ek, lk⟩, ⟨ef, lf⟩, et, lt⟩ := hR.wc.2 k hk
  have hf : cf ν k < 16 := lf
  have ht : ct ν k < 16 := lt
  have e1 := (hR.ch hf).2.2.2.1
  have e2 := (hR.ch ht).2.2.2.1
  have hs : ¬ shutM ν k := fun q => by have := q.1; omega
  rw [h1] at ek
  have l6 := noPass_le (pass1M ν k) (cf ν k) (mI ν 51 (cf ν k) + 1) (ct ν k) (mI ν 51 (ct ν k) + 1)
  unfold noCarryM carryM at hq
  rw [if_neg (show ¬ ck ν k = 3 by omega), if_neg (show ¬ ck ν k = 3 by omega), if_neg hs, if_neg hs, if_pos (show ck ν k = 2 ∧ noPass1M ν k = 0 from ⟨h1, hz⟩), if_pos (show ck ν k = 2 ∧ noPass1M ν k = 0 from ⟨h1, hz⟩), rC_pos (by omega)] at hq
  unfold pass1M at hq
  refine Mt.enter rfl (Nat.le_of_ble_eq_true rfl) ?_
  refine X.aload_n dX4_carry_0 rfl ?_
  refine X.getR (b := (28 + cf ν k)) (kf := 2) dX4_carry_1 (hS) (by decide) (by decide) rfl wf_X4_202 (hc.2.2.1.2.2.1) ?_
  refine X.getI (kf := 3) dX4_carry_4 ((hB.2.2.1 _ hf).1) (by decide) (by decide) rfl wf_X4_96 ?_
  refine X.istore_n dX4_carry_7 (Nat.le_of_ble_eq_true rfl) ?_
  refine X.aload_n dX4_carry_8 rfl ?_
  refine X.getR (b := (28 + ct ν k)) (kf := 3) dX4_carry_9 (hS) (by decide) (by decide) rfl wf_X4_209 (hc.2.2.1.2.2.2) ?_
  refine X.getI (kf := 3) dX4_carry_12 ((hB.2.2.1 _ ht).1) (by decide) (by decide) rfl wf_X4_96 ?_
  refine X.istore_n dX4_carry_15 (Nat.le_of_ble_eq_true rfl) ?_
  refine X.aload_n dX4_carry_16 rfl ?_
  refine X.getI (kf := 1) dX4_carry_17 (hS) (by decide) (by decide) rfl wf_X4_201 ?_
  rw [hc.2.2.1.2.1, ek]
  refine X.tabIn (tgt := 63) dX4_carry_20 (by decide) (by decide) (rfl) (by decide) ?_
  refine X.aload_n dX4_carry_63 rfl ?_
  refine X.aload_n dX4_carry_64 rfl ?_
  refine X.getR (b := (28 + cf ν k)) (kf := 2) dX4_carry_65 (hS) (by decide) (by decide) rfl wf_X4_202 (hc.2.2.1.2.2.1) ?_
  refine X.iload_n dX4_carry_68 rfl ?_
  refine X.aload_n dX4_carry_69 rfl ?_
  refine X.getR (b := (28 + ct ν k)) (kf := 3) dX4_carry_70 (hS) (by decide) (by decide) rfl wf_X4_209 (hc.2.2.1.2.2.2) ?_
  refine X.iload_n dX4_carry_73 rfl ?_
  refine X.cV4i (k' := kX4_pair) dX4_carry_74 (hB.1 1 (by decide) (by decide)) ⟨by decide, rfl⟩ v_X4_pair wm_X4_238 wi_X4_pair ws_X4_pair ⟨Nat.le_of_ble_eq_true rfl, Nat.le_of_ble_eq_true rfl⟩ n_X4_pair (Nat.le_of_ble_eq_true rfl) ?_
  rw [e1, e2]
  refine c_pair_in hR hf ht hz (fun μ1 hR1 => ?_)
  refine ⟨_, rfl, ?_⟩
  refine X.ret dX4_carry_77 ⟨trivial, ?_⟩
  exact hq _ hR1
theorem c_carry {k : Nat} {ρ ν μ : xM} {φ κ : Nat → Nat} {B : Nat × Nat × Nat × (Nat → Prop)} {Q : Option Value → xM → Prop} (hR : Rel ρ ν μ φ κ B) (hk : k < qM ν) (hq : ∀ μ1, Rel ρ (carryM ν k) μ1 φ κ B → Q (some (.int (rC (noCarryM ν k)))) μ1) : Mt kX4_carry [.ref 1, .ref (κ k)] μ Q := by
  have lk := (hR.wc.2 k hk).1.2
  by_cases h3 : ck ν k = 3
  · exact c_carry3 hR hk h3 hq
  · by_cases h1 : ck ν k = 1
    · by_cases hs : shutM ν k
      · exact c_carrys hR hk h1 hs hq
      · exact c_carryg hR hk h1 hs hq
    · by_cases h2 : ck ν k = 2
      · by_cases hz : noPass1M ν k = 0
        · exact c_carryq hR hk h2 hz hq
        · exact c_carryp hR hk h2 hz hq
      · exact c_carryw hR hk (by omega) hq
theorem lt24 {c : Int32} (h : c < 24) : c ≤ 23 := by
  rw [Int32.lt_iff_toInt_lt] at h
  rw [Int32.le_iff_toInt_le]
  have e1 : (24 : Int32).toInt = 24 := by decide
  have e2 : (23 : Int32).toInt = 23 := by decide
  omega
set_option maxRecDepth 100000 in
set_option maxHeartbeats 4000000 in
theorem x_cableAt_o {c : Int32} {μ : xM} {Q : Option Value → xM → Prop} (hB : ShP μ) (hc : rng c 24 = none) (hq : Q (some .null) μ) : Mt kX4_cableAt [.ref 1, .int c] μ Q := by
  have hr := rng_no (hi := 23) hc (by decide) rfl
  refine Mt.enter rfl (Nat.le_of_ble_eq_true rfl) ?_
  refine X.iload_n dX4_cableAt_0 rfl ?_
  refine X.if_lt (tgt := 10) dX4_cableAt_1 (by decide) (fun c1 => ?_) (fun c1 => ?_)
  · refine X.null dX4_cableAt_10 ?_
    refine X.goto (tgt := 20) dX4_cableAt_11 (by decide) ?_
    refine X.ret dX4_cableAt_20 ⟨trivial, ?_⟩
    exact hq
  · refine X.iload_n dX4_cableAt_4 rfl ?_
    refine X.bipush (v := 24) dX4_cableAt_5 (by decide) ?_
    refine X.icmp_lt (tgt := 14) dX4_cableAt_7 (by decide) (fun c7 => ?_) (fun c7 => ?_)
    · exact absurd ⟨Int32.not_lt.mp c1, lt24 c7⟩ hr
    · refine X.null dX4_cableAt_10 ?_
      refine X.goto (tgt := 20) dX4_cableAt_11 (by decide) ?_
      refine X.ret dX4_cableAt_20 ⟨trivial, ?_⟩
      exact hq
set_option maxRecDepth 100000 in
set_option maxHeartbeats 4000000 in
theorem x_cableAt_n {a b : Nat} {μ : xM} {Q : Option Value → xM → Prop} (hB : ShP μ) (ha : a < 24) (hr : mR μ 3 a = none) (hq : Q (some (.null)) μ) : Mt kX4_cableAt [.ref 1, .int (nI a)] μ Q := by
  refine Mt.enter rfl (Nat.le_of_ble_eq_true rfl) ?_
  refine X.iload_n dX4_cableAt_0 rfl ?_
  refine X.if_lt_f (tgt := 10) dX4_cableAt_1 (by decide) (nI_pos (by omega)) ?_
  refine X.iload_n dX4_cableAt_4 rfl ?_
  refine X.bipush (v := 24) dX4_cableAt_5 (by decide) ?_
  refine X.icmp_lt_t (tgt := 14) dX4_cableAt_7 (by decide) (nI_lt (b := 24) ha (by decide)) ?_
  refine X.aload_n dX4_cableAt_14 rfl ?_
  refine X.getR (b := 3) (kf := 1) dX4_cableAt_15 (hB.1 1 (by decide) (by decide)) (by decide) (by decide) rfl wf_X4_17 (hB.2.1 1 (by decide)) ?_
  refine X.iload_n dX4_cableAt_18 rfl ?_
  refine X.aaldN dX4_cableAt_19 (hB.1 3 (by decide) (by decide)) (by decide) (rfl) (ha) (by omega) (hr) ?_
  refine X.ret dX4_cableAt_20 ⟨trivial, ?_⟩
  exact hq
set_option maxRecDepth 100000 in
set_option maxHeartbeats 4000000 in
theorem x_cableAt_r {a b : Nat} {μ : xM} {Q : Option Value → xM → Prop} (hB : ShP μ) (ha : a < 24) (hr : mR μ 3 a = some b) (hq : Q (some (.ref b)) μ) : Mt kX4_cableAt [.ref 1, .int (nI a)] μ Q := by
  refine Mt.enter rfl (Nat.le_of_ble_eq_true rfl) ?_
  refine X.iload_n dX4_cableAt_0 rfl ?_
  refine X.if_lt_f (tgt := 10) dX4_cableAt_1 (by decide) (nI_pos (by omega)) ?_
  refine X.iload_n dX4_cableAt_4 rfl ?_
  refine X.bipush (v := 24) dX4_cableAt_5 (by decide) ?_
  refine X.icmp_lt_t (tgt := 14) dX4_cableAt_7 (by decide) (nI_lt (b := 24) ha (by decide)) ?_
  refine X.aload_n dX4_cableAt_14 rfl ?_
  refine X.getR (b := 3) (kf := 1) dX4_cableAt_15 (hB.1 1 (by decide) (by decide)) (by decide) (by decide) rfl wf_X4_17 (hB.2.1 1 (by decide)) ?_
  refine X.iload_n dX4_cableAt_18 rfl ?_
  refine X.aald dX4_cableAt_19 (hB.1 3 (by decide) (by decide)) (by decide) (rfl) (ha) (by omega) (hr) ?_
  refine X.ret dX4_cableAt_20 ⟨trivial, ?_⟩
  exact hq
theorem c_cableAt {k : Nat} {ρ ν μ : xM} {φ κ : Nat → Nat} {B : Nat × Nat × Nat × (Nat → Prop)} {Q : Option Value → xM → Prop} (hR : Rel ρ ν μ φ κ B) (hk : k < qM ν) (hq : Q (some (.ref (κ k))) μ) : Mt kX4_cableAt [.ref 1, .int (nI k)] μ Q := x_cableAt_r hR.2.1 (by have := hR.q24; omega) (hR.cb hk).1 hq
theorem c_cableAt_o {c : Int32} {ρ ν μ : xM} {φ κ : Nat → Nat} {B : Nat × Nat × Nat × (Nat → Prop)} {Q : Option Value → xM → Prop} (hR : Rel ρ ν μ φ κ B) (hc : rng c (qM ν) = none) (hq : Q (some .null) μ) : Mt kX4_cableAt [.ref 1, .int c] μ Q := by
  cases e : rng c 24 with
  | none => exact x_cableAt_o hR.2.1 e hq
  | some j =>
    obtain ⟨e1, e2⟩ := rng_some e
    subst e1
    have : qM ν ≤ j := Nat.not_lt.mp (fun q => by rw [rng_nI q (by have := hR.q24; omega)] at hc; exact nomatch hc)
    exact x_cableAt_n (b := 0) hR.2.1 e2 (hR.2.2.2.2.2.2.1.2.1 j this e2).1 hq
set_option maxRecDepth 100000 in
set_option maxHeartbeats 4000000 in
theorem c_move1 {c : Nat} {ρ ν μ : xM} {φ κ : Nat → Nat} {B : Nat × Nat × Nat × (Nat → Prop)} {Q : Option Value → xM → Prop} (hR : Rel ρ ν μ φ κ B) (hc : c < 16) (hl : mI ν 53 c = 0) (hq : ∀ μ1, Rel ρ (moveM ν c) μ1 φ κ (B.1 + 1, B.2) → Q none μ1) : Mt kX4_move [.ref 1, .ref (28 + c)] μ Q := by
  have hB := hR.2.1
  obtain ⟨h0, h1, h2, h3, h4, h5⟩ := hR.ch hc
  refine Mt.enter rfl (Nat.le_of_ble_eq_true rfl) ?_
  refine X.aload_n dX4_move_0 rfl ?_
  refine X.getI (kf := 3) dX4_move_1 ((hB.2.2.1 c hc).1) (by decide) (by decide) rfl wf_X4_96 ?_
  refine X.aload_n dX4_move_4 rfl ?_
  refine X.getI (kf := 4) dX4_move_5 ((hB.2.2.1 c hc).1) (by decide) (by decide) rfl wf_X4_99 ?_
  refine X.iadd dX4_move_8 ?_
  refine X.istore_n dX4_move_9 (Nat.le_of_ble_eq_true rfl) ?_
  refine X.aload_n dX4_move_10 rfl ?_
  refine X.getI (kf := 5) dX4_move_11 ((hB.2.2.1 c hc).1) (by decide) (by decide) rfl wf_X4_102 ?_
  refine X.if_ne_f (tgt := 23) dX4_move_14 (by decide) ((by rw [h5]; exact hl)) ?_
  refine X.aload_n dX4_move_17 rfl ?_
  refine X.iload_n dX4_move_18 rfl ?_
  refine X.putI (kf := 3) dX4_move_19 ((hB.2.2.1 c hc).1) (by decide) (by decide) rfl (Or.inl rfl) ⟨rfl, rfl⟩ wf_X4_96 ?_
  refine X.retv dX4_move_22 ⟨trivial, ?_⟩
  rw [h3, h4]
  unfold moveM at hq
  rw [if_pos hl] at hq
  exact hq _ ((hR.dial hc (k := 3) (Or.inl rfl)).up (Nat.le_succ _))
set_option maxRecDepth 100000 in
set_option maxHeartbeats 4000000 in
theorem c_move2 {c : Nat} {ρ ν μ : xM} {φ κ : Nat → Nat} {B : Nat × Nat × Nat × (Nat → Prop)} {Q : Option Value → xM → Prop} (hR : Rel ρ ν μ φ κ B) (hB30 : B.1 < 2 ^ 30) (hc : c < 16) (hl : ¬ mI ν 53 c = 0) (ht : ¬ noTapeM ν c = 0) (hq : ∀ μ1, Rel ρ (moveM ν c) μ1 φ κ (B.1 + 1, B.2) → Q none μ1) : Mt kX4_move [.ref 1, .ref (28 + c)] μ Q := by
  have hB := hR.2.1
  obtain ⟨h0, h1, h2, h3, h4, h5⟩ := hR.ch hc
  unfold moveM noMoveM at hq
  rw [if_neg hl, if_neg ht, if_neg ht] at hq
  refine Mt.enter rfl (Nat.le_of_ble_eq_true rfl) ?_
  refine X.aload_n dX4_move_0 rfl ?_
  refine X.getI (kf := 3) dX4_move_1 ((hB.2.2.1 c hc).1) (by decide) (by decide) rfl wf_X4_96 ?_
  refine X.aload_n dX4_move_4 rfl ?_
  refine X.getI (kf := 4) dX4_move_5 ((hB.2.2.1 c hc).1) (by decide) (by decide) rfl wf_X4_99 ?_
  refine X.iadd dX4_move_8 ?_
  refine X.istore_n dX4_move_9 (Nat.le_of_ble_eq_true rfl) ?_
  refine X.aload_n dX4_move_10 rfl ?_
  refine X.getI (kf := 5) dX4_move_11 ((hB.2.2.1 c hc).1) (by decide) (by decide) rfl wf_X4_102 ?_
  refine X.if_ne_t (tgt := 23) dX4_move_14 (by decide) ((by rw [h5]; exact hl)) ?_
  refine X.aload_n dX4_move_23 rfl ?_
  refine X.getN (kf := 1) dX4_move_24 ((hB.2.2.1 c hc).1) (by decide) (by decide) rfl wf_X4_84 (hR.chN hc ht) ?_
  refine X.astore_nN dX4_move_27 (Nat.le_of_ble_eq_true rfl) ?_
  refine X.aload_nN dX4_move_28 rfl ?_
  refine X.ifnonnull_n dX4_move_29 ?_
  refine X.aload_n dX4_move_32 rfl ?_
  refine X.bipush (v := 100) dX4_move_33 (by decide) ?_
  refine X.aload_n dX4_move_35 rfl ?_
  refine X.getI (kf := 0) dX4_move_36 ((hB.2.2.1 c hc).1) (by decide) (by decide) rfl wf_X4_206 ?_
  refine X.iadd dX4_move_39 ?_
  refine X.aload_n dX4_move_40 rfl ?_
  refine X.cV0i (k' := kX2_refusalWithoutTape) dX4_move_41 ((hB.2.2.1 c hc).1) ⟨by decide, rfl⟩ v_X2_refusalWithoutTape wm_X4_180 wi_X2_refusalWithoutTape ws_X2_refusalWithoutTape ⟨Nat.le_of_ble_eq_true rfl, Nat.le_of_ble_eq_true rfl⟩ n_X2_refusalWithoutTape (Nat.le_of_ble_eq_true rfl) ?_
  refine c_refusal hR hc ht ?_
  refine ⟨_, rfl, ?_⟩
  refine X.cV2v (k' := kX4_noteFault) dX4_move_44 (hB.1 1 (by decide) (by decide)) ⟨by decide, rfl⟩ v_X4_noteFault wm_X4_229 wi_X4_noteFault ws_X4_noteFault ⟨Nat.le_of_ble_eq_true rfl, Nat.le_of_ble_eq_true rfl⟩ n_X4_noteFault (Nat.le_of_ble_eq_true rfl) ?_
  rw [h0]
  refine c_fail hR hB30 ht (by have := noTapeM_le ν c; omega) (fun μ1 hR1 => ?_)
  refine ⟨rfl, ?_⟩
  refine X.goto (tgt := 84) dX4_move_47 (by decide) ?_
  refine X.retv dX4_move_84 ⟨trivial, ?_⟩
  exact hq _ hR1
set_option maxRecDepth 100000 in
set_option maxHeartbeats 4000000 in
theorem c_move3 {c : Nat} {ρ ν μ : xM} {φ κ : Nat → Nat} {B : Nat × Nat × Nat × (Nat → Prop)} {Q : Option Value → xM → Prop} (hR : Rel ρ ν μ φ κ B) (hB30 : B.1 < 2 ^ 30) (hc : c < 16) (hl : ¬ mI ν 53 c = 0) (ht : noTapeM ν c = 0) (hz : sz ν (tp ν c) = 0) (hq : ∀ μ1, Rel ρ (moveM ν c) μ1 φ κ (B.1 + 1, B.2) → Q none μ1) : Mt kX4_move [.ref 1, .ref (28 + c)] μ Q := by
  have hB := hR.2.1
  obtain ⟨h0, h1, h2, h3, h4, h5⟩ := hR.ch hc
  have hT := (hR.tr (live_c hc ht)).ts
  unfold moveM noMoveM at hq
  rw [if_neg hl, if_pos ht, if_pos hz, if_neg (by decide)] at hq
  refine Mt.enter rfl (Nat.le_of_ble_eq_true rfl) ?_
  refine X.aload_n dX4_move_0 rfl ?_
  refine X.getI (kf := 3) dX4_move_1 ((hB.2.2.1 c hc).1) (by decide) (by decide) rfl wf_X4_96 ?_
  refine X.aload_n dX4_move_4 rfl ?_
  refine X.getI (kf := 4) dX4_move_5 ((hB.2.2.1 c hc).1) (by decide) (by decide) rfl wf_X4_99 ?_
  refine X.iadd dX4_move_8 ?_
  refine X.istore_n dX4_move_9 (Nat.le_of_ble_eq_true rfl) ?_
  refine X.aload_n dX4_move_10 rfl ?_
  refine X.getI (kf := 5) dX4_move_11 ((hB.2.2.1 c hc).1) (by decide) (by decide) rfl wf_X4_102 ?_
  refine X.if_ne_t (tgt := 23) dX4_move_14 (by decide) ((by rw [h5]; exact hl)) ?_
  refine X.aload_n dX4_move_23 rfl ?_
  refine X.getR (b := (φ (tp ν c))) (kf := 1) dX4_move_24 ((hB.2.2.1 c hc).1) (by decide) (by decide) rfl wf_X4_84 (hR.chT hc ht) ?_
  refine X.astore_n dX4_move_27 (Nat.le_of_ble_eq_true rfl) ?_
  refine X.aload_n dX4_move_28 rfl ?_
  refine X.ifnonnull_r (tgt := 50) dX4_move_29 (by decide) ?_
  refine X.aload_n dX4_move_50 rfl ?_
  refine X.getI (kf := 1) dX4_move_51 (hT.1.1) (by decide) (by decide) rfl wf_X4_145 ?_
  refine X.if_ne_f (tgt := 72) dX4_move_54 (by decide) ((by rw [hT.2.1.2, hz]; rfl)) ?_
  refine X.aload_n dX4_move_57 rfl ?_
  refine X.bipush (v := 100) dX4_move_58 (by decide) ?_
  refine X.aload_n dX4_move_60 rfl ?_
  refine X.getI (kf := 0) dX4_move_61 ((hB.2.2.1 c hc).1) (by decide) (by decide) rfl wf_X4_206 ?_
  refine X.iadd dX4_move_64 ?_
  refine X.iconst (v := 4) dX4_move_65 (by decide) ?_
  refine X.cV2v (k' := kX4_noteFault) dX4_move_66 (hB.1 1 (by decide) (by decide)) ⟨by decide, rfl⟩ v_X4_noteFault wm_X4_229 wi_X4_noteFault ws_X4_noteFault ⟨Nat.le_of_ble_eq_true rfl, Nat.le_of_ble_eq_true rfl⟩ n_X4_noteFault (Nat.le_of_ble_eq_true rfl) ?_
  rw [h0]
  refine c_fail hR hB30 (r := 4) (by decide) (by decide) (fun μ1 hR1 => ?_)
  refine ⟨rfl, ?_⟩
  refine X.goto (tgt := 84) dX4_move_69 (by decide) ?_
  refine X.retv dX4_move_84 ⟨trivial, ?_⟩
  exact hq _ hR1
set_option maxRecDepth 100000 in
set_option maxHeartbeats 4000000 in
theorem c_move4 {c : Nat} {ρ ν μ : xM} {φ κ : Nat → Nat} {B : Nat × Nat × Nat × (Nat → Prop)} {Q : Option Value → xM → Prop} (hR : Rel ρ ν μ φ κ B) (hc : c < 16) (hl : ¬ mI ν 53 c = 0) (ht : noTapeM ν c = 0) (hz : ¬ sz ν (tp ν c) = 0) (hq : ∀ μ1, Rel ρ (moveM ν c) μ1 φ κ (B.1 + 1, B.2) → Q none μ1) : Mt kX4_move [.ref 1, .ref (28 + c)] μ Q := by
  have hB := hR.2.1
  obtain ⟨h0, h1, h2, h3, h4, h5⟩ := hR.ch hc
  have hT := (hR.tr (live_c hc ht)).ts
  have hlt := tp_lt hR.wt hc ht
  have hsz := sz_le hR.wt hlt
  unfold moveM noMoveM at hq
  rw [if_neg hl, if_pos ht, if_neg hz, if_pos rfl] at hq
  refine Mt.enter rfl (Nat.le_of_ble_eq_true rfl) ?_
  refine X.aload_n dX4_move_0 rfl ?_
  refine X.getI (kf := 3) dX4_move_1 ((hB.2.2.1 c hc).1) (by decide) (by decide) rfl wf_X4_96 ?_
  refine X.aload_n dX4_move_4 rfl ?_
  refine X.getI (kf := 4) dX4_move_5 ((hB.2.2.1 c hc).1) (by decide) (by decide) rfl wf_X4_99 ?_
  refine X.iadd dX4_move_8 ?_
  refine X.istore_n dX4_move_9 (Nat.le_of_ble_eq_true rfl) ?_
  refine X.aload_n dX4_move_10 rfl ?_
  refine X.getI (kf := 5) dX4_move_11 ((hB.2.2.1 c hc).1) (by decide) (by decide) rfl wf_X4_102 ?_
  refine X.if_ne_t (tgt := 23) dX4_move_14 (by decide) ((by rw [h5]; exact hl)) ?_
  refine X.aload_n dX4_move_23 rfl ?_
  refine X.getR (b := (φ (tp ν c))) (kf := 1) dX4_move_24 ((hB.2.2.1 c hc).1) (by decide) (by decide) rfl wf_X4_84 (hR.chT hc ht) ?_
  refine X.astore_n dX4_move_27 (Nat.le_of_ble_eq_true rfl) ?_
  refine X.aload_n dX4_move_28 rfl ?_
  refine X.ifnonnull_r (tgt := 50) dX4_move_29 (by decide) ?_
  refine X.aload_n dX4_move_50 rfl ?_
  refine X.getI (kf := 1) dX4_move_51 (hT.1.1) (by decide) (by decide) rfl wf_X4_145 ?_
  refine X.if_ne_t (tgt := 72) dX4_move_54 (by decide) ((by rw [hT.2.1.2]; exact nI_ne0 (by omega) (by omega))) ?_
  refine X.aload_n dX4_move_72 rfl ?_
  refine X.iload_n dX4_move_73 rfl ?_
  refine X.aload_n dX4_move_74 rfl ?_
  refine X.getI (kf := 1) dX4_move_75 (hT.1.1) (by decide) (by decide) rfl wf_X4_145 ?_
  refine X.cS2i (k' := kJ9_floorMod_7cf53) dX4_move_78 v_J9_floorMod_7cf53 wm_X4_218 wt_J9_floorMod_7cf53 ⟨Nat.le_of_ble_eq_true rfl, Nat.le_of_ble_eq_true rfl⟩ n_J9_floorMod_7cf53 (Nat.le_of_ble_eq_true rfl) ?_
  rw [hT.2.1.2]
  refine x_floorMod (by rw [nI_toInt (by omega)]; omega) ?_
  refine ⟨_, rfl, ?_⟩
  refine X.putI (kf := 3) dX4_move_81 ((hB.2.2.1 c hc).1) (by decide) (by decide) rfl (Or.inl rfl) ⟨rfl, rfl⟩ wf_X4_96 ?_
  refine X.retv dX4_move_84 ⟨trivial, ?_⟩
  rw [h3, h4]
  rw [(hR.wt.2.1 _ hlt).2.1] at hq
  exact hq _ ((hR.dial hc (k := 3) (Or.inl rfl)).up (Nat.le_succ _))
theorem c_move {c : Nat} {ρ ν μ : xM} {φ κ : Nat → Nat} {B : Nat × Nat × Nat × (Nat → Prop)} {Q : Option Value → xM → Prop} (hR : Rel ρ ν μ φ κ B) (hB30 : B.1 < 2 ^ 30) (hc : c < 16) (hq : ∀ μ1, Rel ρ (moveM ν c) μ1 φ κ (B.1 + 1, B.2) → Q none μ1) : Mt kX4_move [.ref 1, .ref (28 + c)] μ Q := by
  by_cases hl : mI ν 53 c = 0
  · exact c_move1 hR hc hl hq
  · by_cases ht : noTapeM ν c = 0
    · by_cases hz : sz ν (tp ν c) = 0
      · exact c_move3 hR hB30 hc hl ht hz hq
      · exact c_move4 hR hc hl ht hz hq
    · exact c_move2 hR hB30 hc hl ht hq
set_option maxRecDepth 100000 in
set_option maxHeartbeats 4000000 in
theorem ct0 {k : Nat} {n : Int32} {ρ ν μ : xM} {φ κ : Nat → Nat} {B : Nat × Nat × Nat × (Nat → Prop)} {Q : Option Value → xM → Prop} (hR : Rel ρ ν μ φ κ B) (hB30 : B.1 < 2 ^ 30) (hk : k < qM ν) (hin : mI ν 57 k = 0) (K : ∀ μ1, Rel ρ (cabM ν k) μ1 φ κ (B.1 + 1, B.2) → X kX4_tick none 61 (xl [(0, .ref 1), (1, .int (n + cntM ν k)), (2, .int (nI k))]) [] μ1 Q) : X kX4_tick none 22 (xl [(0, .ref 1), (1, .int n), (2, .int (nI k))]) [] μ Q := by
  have hB := hR.2.1
  have hc := (hR.cb hk).2
  have hS := hc.2.1
  have e4 := hc.2.2.2.1
  unfold cntM cabM at K
  rw [if_pos hin, if_pos hin, Int32.add_zero] at K
  refine X.aload_n dX4_tick_22 rfl ?_
  refine X.iload_n dX4_tick_23 rfl ?_
  refine X.cV1a (k' := kX4_cableAt) dX4_tick_24 (hB.1 1 (by decide) (by decide)) ⟨by decide, rfl⟩ v_X4_cableAt wm_X4_151 wi_X4_cableAt ws_X4_cableAt ⟨Nat.le_of_ble_eq_true rfl, Nat.le_of_ble_eq_true rfl⟩ n_X4_cableAt (Nat.le_of_ble_eq_true rfl) ?_
  refine c_cableAt hR hk ?_
  refine ⟨_, rfl, ?_⟩
  refine X.astore_n dX4_tick_27 (Nat.le_of_ble_eq_true rfl) ?_
  refine X.aload_n dX4_tick_28 rfl ?_
  refine X.ifnull_r dX4_tick_29 ?_
  refine X.aload_n dX4_tick_32 rfl ?_
  refine X.getI (kf := 4) dX4_tick_33 (hS) (by decide) (by decide) rfl wf_X4_158 ?_
  refine X.if_eq_t (tgt := 61) dX4_tick_36 (by decide) ((by rw [e4]; exact hin)) ?_
  exact X.at [(0, .ref 1), (1, .int n), (2, .int (nI k))] ⟨rfl, rfl, rfl, trivial⟩ (K _ (hR.up (Nat.le_succ _)))
set_option maxRecDepth 100000 in
set_option maxHeartbeats 4000000 in
theorem ct6 {k : Nat} {n : Int32} {ρ ν μ : xM} {φ κ : Nat → Nat} {B : Nat × Nat × Nat × (Nat → Prop)} {Q : Option Value → xM → Prop} (hR : Rel ρ ν μ φ κ B) (hB30 : B.1 < 2 ^ 30) (hk : k < qM ν) (hin : ¬ mI ν 57 k = 0) (h6 : noCarryM ν k = 6) (K : ∀ μ1, Rel ρ (cabM ν k) μ1 φ κ (B.1 + 1, B.2) → X kX4_tick none 61 (xl [(0, .ref 1), (1, .int (n + cntM ν k)), (2, .int (nI k))]) [] μ1 Q) : X kX4_tick none 22 (xl [(0, .ref 1), (1, .int n), (2, .int (nI k))]) [] μ Q := by
  have hB := hR.2.1
  have hc := (hR.cb hk).2
  have hS := hc.2.1
  have e4 := hc.2.2.2.1
  have hr : rC (noCarryM ν k) = -1 := by rw [h6]; rfl
  unfold cntM cabM at K
  rw [if_neg hin, if_neg hin, if_pos h6, if_neg (by omega), Int32.add_zero] at K
  refine X.aload_n dX4_tick_22 rfl ?_
  refine X.iload_n dX4_tick_23 rfl ?_
  refine X.cV1a (k' := kX4_cableAt) dX4_tick_24 (hB.1 1 (by decide) (by decide)) ⟨by decide, rfl⟩ v_X4_cableAt wm_X4_151 wi_X4_cableAt ws_X4_cableAt ⟨Nat.le_of_ble_eq_true rfl, Nat.le_of_ble_eq_true rfl⟩ n_X4_cableAt (Nat.le_of_ble_eq_true rfl) ?_
  refine c_cableAt hR hk ?_
  refine ⟨_, rfl, ?_⟩
  refine X.astore_n dX4_tick_27 (Nat.le_of_ble_eq_true rfl) ?_
  refine X.aload_n dX4_tick_28 rfl ?_
  refine X.ifnull_r dX4_tick_29 ?_
  refine X.aload_n dX4_tick_32 rfl ?_
  refine X.getI (kf := 4) dX4_tick_33 (hS) (by decide) (by decide) rfl wf_X4_158 ?_
  refine X.if_eq_f (tgt := 61) dX4_tick_36 (by decide) ((by rw [e4]; exact hin)) ?_
  refine X.aload_n dX4_tick_39 rfl ?_
  refine X.aload_n dX4_tick_40 rfl ?_
  refine X.cV1i (k' := kX4_carry) dX4_tick_41 (hB.1 1 (by decide) (by decide)) ⟨by decide, rfl⟩ v_X4_carry wm_X4_164 wi_X4_carry ws_X4_carry ⟨Nat.le_of_ble_eq_true rfl, Nat.le_of_ble_eq_true rfl⟩ n_X4_carry (Nat.le_of_ble_eq_true rfl) ?_
  refine c_carry hR hk (fun μ1 hR => ?_)
  have hB := hR.2.1
  obtain ⟨w, ew⟩ := carry_form ν k
  have hS : mT μ1 (κ k) = (0, 0) := by
    rw [ew] at hR
    exact (hR.cb hk).2.2.1
  have hk1 : k < qM (carryM ν k) := by rw [ew]; exact hk
  rw [hr]
  refine ⟨_, rfl, ?_⟩
  refine X.istore dX4_tick_44 (Nat.le_of_ble_eq_true rfl) ?_
  refine X.aload_n dX4_tick_46 rfl ?_
  refine X.aload_n dX4_tick_47 rfl ?_
  refine X.iload dX4_tick_48 rfl ?_
  refine X.cV2v (k' := kX4_keepBooks) dX4_tick_50 (hB.1 1 (by decide) (by decide)) ⟨by decide, rfl⟩ v_X4_keepBooks wm_X4_168 wi_X4_keepBooks ws_X4_keepBooks ⟨Nat.le_of_ble_eq_true rfl, Nat.le_of_ble_eq_true rfl⟩ n_X4_keepBooks (Nat.le_of_ble_eq_true rfl) ?_
  refine c_books_s hR hk1 (fun μ2 hR => ?_)
  refine ⟨rfl, ?_⟩
  refine X.iload dX4_tick_53 rfl ?_
  refine X.if_ne_t (tgt := 61) dX4_tick_55 (by decide) ((by decide)) ?_
  exact X.at [(0, .ref 1), (1, .int n), (2, .int (nI k))] ⟨rfl, rfl, rfl, trivial⟩ (K _ (hR.up (Nat.le_succ _)))
set_option maxRecDepth 100000 in
set_option maxHeartbeats 4000000 in
theorem ct1 {k : Nat} {n : Int32} {ρ ν μ : xM} {φ κ : Nat → Nat} {B : Nat × Nat × Nat × (Nat → Prop)} {Q : Option Value → xM → Prop} (hR : Rel ρ ν μ φ κ B) (hB30 : B.1 < 2 ^ 30) (hk : k < qM ν) (hin : ¬ mI ν 57 k = 0) (h0 : noCarryM ν k = 0) (K : ∀ μ1, Rel ρ (cabM ν k) μ1 φ κ (B.1 + 1, B.2) → X kX4_tick none 61 (xl [(0, .ref 1), (1, .int (n + cntM ν k)), (2, .int (nI k))]) [] μ1 Q) : X kX4_tick none 22 (xl [(0, .ref 1), (1, .int n), (2, .int (nI k))]) [] μ Q := by
  have hB := hR.2.1
  have hc := (hR.cb hk).2
  have hS := hc.2.1
  have e4 := hc.2.2.2.1
  have hr : rC (noCarryM ν k) = 0 := by rw [h0]; rfl
  unfold cntM cabM at K
  have h6 : ¬ noCarryM ν k = 6 := by omega
  rw [if_neg hin, if_neg hin, if_neg h6, if_pos h0, if_pos h0] at K
  refine X.aload_n dX4_tick_22 rfl ?_
  refine X.iload_n dX4_tick_23 rfl ?_
  refine X.cV1a (k' := kX4_cableAt) dX4_tick_24 (hB.1 1 (by decide) (by decide)) ⟨by decide, rfl⟩ v_X4_cableAt wm_X4_151 wi_X4_cableAt ws_X4_cableAt ⟨Nat.le_of_ble_eq_true rfl, Nat.le_of_ble_eq_true rfl⟩ n_X4_cableAt (Nat.le_of_ble_eq_true rfl) ?_
  refine c_cableAt hR hk ?_
  refine ⟨_, rfl, ?_⟩
  refine X.astore_n dX4_tick_27 (Nat.le_of_ble_eq_true rfl) ?_
  refine X.aload_n dX4_tick_28 rfl ?_
  refine X.ifnull_r dX4_tick_29 ?_
  refine X.aload_n dX4_tick_32 rfl ?_
  refine X.getI (kf := 4) dX4_tick_33 (hS) (by decide) (by decide) rfl wf_X4_158 ?_
  refine X.if_eq_f (tgt := 61) dX4_tick_36 (by decide) ((by rw [e4]; exact hin)) ?_
  refine X.aload_n dX4_tick_39 rfl ?_
  refine X.aload_n dX4_tick_40 rfl ?_
  refine X.cV1i (k' := kX4_carry) dX4_tick_41 (hB.1 1 (by decide) (by decide)) ⟨by decide, rfl⟩ v_X4_carry wm_X4_164 wi_X4_carry ws_X4_carry ⟨Nat.le_of_ble_eq_true rfl, Nat.le_of_ble_eq_true rfl⟩ n_X4_carry (Nat.le_of_ble_eq_true rfl) ?_
  refine c_carry hR hk (fun μ1 hR => ?_)
  have hB := hR.2.1
  obtain ⟨w, ew⟩ := carry_form ν k
  have hS : mT μ1 (κ k) = (0, 0) := by
    rw [ew] at hR
    exact (hR.cb hk).2.2.1
  have hk1 : k < qM (carryM ν k) := by rw [ew]; exact hk
  rw [hr]
  refine ⟨_, rfl, ?_⟩
  refine X.istore dX4_tick_44 (Nat.le_of_ble_eq_true rfl) ?_
  refine X.aload_n dX4_tick_46 rfl ?_
  refine X.aload_n dX4_tick_47 rfl ?_
  refine X.iload dX4_tick_48 rfl ?_
  refine X.cV2v (k' := kX4_keepBooks) dX4_tick_50 (hB.1 1 (by decide) (by decide)) ⟨by decide, rfl⟩ v_X4_keepBooks wm_X4_168 wi_X4_keepBooks ws_X4_keepBooks ⟨Nat.le_of_ble_eq_true rfl, Nat.le_of_ble_eq_true rfl⟩ n_X4_keepBooks (Nat.le_of_ble_eq_true rfl) ?_
  refine c_books_c hR hk1 (fun μ2 hR => ?_)
  refine ⟨rfl, ?_⟩
  refine X.iload dX4_tick_53 rfl ?_
  refine X.if_ne_f (tgt := 61) dX4_tick_55 (by decide) (rfl) ?_
  refine X.iinc1 dX4_tick_58 rfl (Nat.le_of_ble_eq_true rfl) ?_
  exact X.at [(0, .ref 1), (1, .int (n + 1)), (2, .int (nI k))] ⟨rfl, rfl, rfl, trivial⟩ (K _ (hR.up (Nat.le_succ _)))
set_option maxRecDepth 100000 in
set_option maxHeartbeats 4000000 in
theorem ct2 {k : Nat} {n : Int32} {ρ ν μ : xM} {φ κ : Nat → Nat} {B : Nat × Nat × Nat × (Nat → Prop)} {Q : Option Value → xM → Prop} (hR : Rel ρ ν μ φ κ B) (hB30 : B.1 < 2 ^ 30) (hk : k < qM ν) (hin : ¬ mI ν 57 k = 0) (h6 : ¬ noCarryM ν k = 6) (h0 : ¬ noCarryM ν k = 0) (K : ∀ μ1, Rel ρ (cabM ν k) μ1 φ κ (B.1 + 1, B.2) → X kX4_tick none 61 (xl [(0, .ref 1), (1, .int (n + cntM ν k)), (2, .int (nI k))]) [] μ1 Q) : X kX4_tick none 22 (xl [(0, .ref 1), (1, .int n), (2, .int (nI k))]) [] μ Q := by
  have hB := hR.2.1
  have hc := (hR.cb hk).2
  have hS := hc.2.1
  have e4 := hc.2.2.2.1
  have hle := noCarry_le ν k
  have hr : rC (noCarryM ν k) = nI (noCarryM ν k) := rC_pos h6
  have hin1 : mI ν 57 k = 1 := (hR.2.2.2.2.2.2.1.2.2.2 k hk).elim (fun q => absurd q hin) id
  unfold cntM cabM at K
  rw [if_neg hin, if_neg hin, if_neg h6, if_neg h0, if_neg h0, Int32.add_zero] at K
  refine X.aload_n dX4_tick_22 rfl ?_
  refine X.iload_n dX4_tick_23 rfl ?_
  refine X.cV1a (k' := kX4_cableAt) dX4_tick_24 (hB.1 1 (by decide) (by decide)) ⟨by decide, rfl⟩ v_X4_cableAt wm_X4_151 wi_X4_cableAt ws_X4_cableAt ⟨Nat.le_of_ble_eq_true rfl, Nat.le_of_ble_eq_true rfl⟩ n_X4_cableAt (Nat.le_of_ble_eq_true rfl) ?_
  refine c_cableAt hR hk ?_
  refine ⟨_, rfl, ?_⟩
  refine X.astore_n dX4_tick_27 (Nat.le_of_ble_eq_true rfl) ?_
  refine X.aload_n dX4_tick_28 rfl ?_
  refine X.ifnull_r dX4_tick_29 ?_
  refine X.aload_n dX4_tick_32 rfl ?_
  refine X.getI (kf := 4) dX4_tick_33 (hS) (by decide) (by decide) rfl wf_X4_158 ?_
  refine X.if_eq_f (tgt := 61) dX4_tick_36 (by decide) ((by rw [e4]; exact hin)) ?_
  refine X.aload_n dX4_tick_39 rfl ?_
  refine X.aload_n dX4_tick_40 rfl ?_
  refine X.cV1i (k' := kX4_carry) dX4_tick_41 (hB.1 1 (by decide) (by decide)) ⟨by decide, rfl⟩ v_X4_carry wm_X4_164 wi_X4_carry ws_X4_carry ⟨Nat.le_of_ble_eq_true rfl, Nat.le_of_ble_eq_true rfl⟩ n_X4_carry (Nat.le_of_ble_eq_true rfl) ?_
  refine c_carry hR hk (fun μ1 hR => ?_)
  have hB := hR.2.1
  obtain ⟨w, ew⟩ := carry_form ν k
  have hS : mT μ1 (κ k) = (0, 0) := by
    rw [ew] at hR
    exact (hR.cb hk).2.2.1
  have hk1 : k < qM (carryM ν k) := by rw [ew]; exact hk
  rw [hr]
  refine ⟨_, rfl, ?_⟩
  refine X.istore dX4_tick_44 (Nat.le_of_ble_eq_true rfl) ?_
  refine X.aload_n dX4_tick_46 rfl ?_
  refine X.aload_n dX4_tick_47 rfl ?_
  refine X.iload dX4_tick_48 rfl ?_
  refine X.cV2v (k' := kX4_keepBooks) dX4_tick_50 (hB.1 1 (by decide) (by decide)) ⟨by decide, rfl⟩ v_X4_keepBooks wm_X4_168 wi_X4_keepBooks ws_X4_keepBooks ⟨Nat.le_of_ble_eq_true rfl, Nat.le_of_ble_eq_true rfl⟩ n_X4_keepBooks (Nat.le_of_ble_eq_true rfl) ?_
  have hin2 : mI (carryM ν k) 57 k = 1 := by rw [ew]; exact hin1
  refine c_books_f hR hB30 hk1 hin2 h0 (by omega) (fun μ2 hR => ?_)
  refine ⟨rfl, ?_⟩
  refine X.iload dX4_tick_53 rfl ?_
  refine X.if_ne_t (tgt := 61) dX4_tick_55 (by decide) ((fun q => h0 (nI_z q (by omega)))) ?_
  exact X.at [(0, .ref 1), (1, .int n), (2, .int (nI k))] ⟨rfl, rfl, rfl, trivial⟩ (K _ hR)
theorem ctc {k : Nat} {n : Int32} {ρ ν μ : xM} {φ κ : Nat → Nat} {B : Nat × Nat × Nat × (Nat → Prop)} {Q : Option Value → xM → Prop} (hR : Rel ρ ν μ φ κ B) (hB30 : B.1 < 2 ^ 30) (hk : k < qM ν) (K : ∀ μ1, Rel ρ (cabM ν k) μ1 φ κ (B.1 + 1, B.2) → X kX4_tick none 61 (xl [(0, .ref 1), (1, .int (n + cntM ν k)), (2, .int (nI k))]) [] μ1 Q) : X kX4_tick none 22 (xl [(0, .ref 1), (1, .int n), (2, .int (nI k))]) [] μ Q := by
  by_cases hin : mI ν 57 k = 0
  · exact ct0 hR hB30 hk hin K
  · by_cases h6 : noCarryM ν k = 6
    · exact ct6 hR hB30 hk hin h6 K
    · by_cases h0 : noCarryM ν k = 0
      · exact ct1 hR hB30 hk hin h0 K
      · exact ct2 hR hB30 hk hin h6 h0 K
set_option maxRecDepth 100000 in
set_option maxHeartbeats 4000000 in
theorem ctl {ρ ν : xM} {φ κ : Nat → Nat} {B : Nat × Nat × Nat × (Nat → Prop)} {Q : Option Value → xM → Prop} (hB30 : B.1 + 24 < 2 ^ 30) (hq24 : qM ν ≤ 24) (K : ∀ μ1, Rel ρ (cabsM ν (qM ν)) μ1 φ κ (B.1 + qM ν, B.2) → X kX4_tick none 67 (xl [(0, .ref 1), (1, .int (cntsM ν (qM ν)))]) [] μ1 Q) : ∀ (n k : Nat) (μ : xM), Rel ρ (cabsM ν k) μ φ κ (B.1 + k, B.2) → k + n = qM ν → X kX4_tick none 14 (xl [(0, .ref 1), (1, .int (cntsM ν k)), (2, .int (nI k))]) [] μ Q := by
  intro n
  induction n with
  | zero =>
    intro k μ hR hk
    obtain rfl : k = qM ν := by omega
    have hB := hR.2.1
    have e2 : mI μ 1 2 = nI (qM ν) := by rw [hR.2.2.2.1.1.1, hR.wc.1.1, qM_cabs]
    refine X.iload_n dX4_tick_14 rfl ?_
    refine X.aload_n dX4_tick_15 rfl ?_
    refine X.getI (kf := 2) dX4_tick_16 (hB.1 1 (by decide) (by decide)) (by decide) (by decide) rfl wf_X4_21 ?_
    refine X.icmp_ge_t (tgt := 67) dX4_tick_19 (by decide) ((by rw [e2]; exact nI_le (Nat.le_refl _) (by omega))) ?_
    exact X.at [(0, .ref 1), (1, .int (cntsM ν (qM ν)))] ⟨rfl, rfl, trivial⟩ (K _ hR)
  | succ n ih =>
    intro k μ hR hk
    have hB := hR.2.1
    have e2 : mI μ 1 2 = nI (qM ν) := by rw [hR.2.2.2.1.1.1, hR.wc.1.1, qM_cabs]
    refine X.iload_n dX4_tick_14 rfl ?_
    refine X.aload_n dX4_tick_15 rfl ?_
    refine X.getI (kf := 2) dX4_tick_16 (hB.1 1 (by decide) (by decide)) (by decide) (by decide) rfl wf_X4_21 ?_
    refine X.icmp_ge_f (tgt := 67) dX4_tick_19 (by decide) ((by rw [e2]; exact nI_ge (by omega) (by omega))) ?_
    refine X.at [(0, .ref 1), (1, .int (cntsM ν k)), (2, .int (nI k))] ⟨rfl, rfl, rfl, trivial⟩ ?_
    refine ctc hR (show B.1 + k < 2 ^ 30 by omega) (by rw [qM_cabs]; omega) (fun μ1 hR1 => ?_)
    refine X.iinc1 dX4_tick_61 rfl (Nat.le_of_ble_eq_true rfl) ?_
    refine X.goto (tgt := 14) dX4_tick_64 (by decide) ?_
    exact X.at [(0, .ref 1), (1, .int (cntsM ν (k + 1))), (2, .int (nI (k + 1)))] ⟨rfl, rfl, iN k, trivial⟩ (ih (k + 1) μ1 hR1 (by omega))
set_option maxRecDepth 100000 in
set_option maxHeartbeats 4000000 in
theorem ctm {ρ ν : xM} {φ κ : Nat → Nat} {B : Nat × Nat × Nat × (Nat → Prop)} {Q : Option Value → xM → Prop} {n : Int32} (hB30 : B.1 + 16 < 2 ^ 30) (K : ∀ μ1, Rel ρ (mvsM ν 16) μ1 φ κ (B.1 + 16, B.2) → Q (some (.int n)) μ1) : ∀ (m c : Nat) (μ : xM), Rel ρ (mvsM ν c) μ φ κ (B.1 + c, B.2) → c + m = 16 → X kX4_tick none 69 (xl [(0, .ref 1), (1, .int n), (2, .int (nI c))]) [] μ (fun r μ' => xrok kX4_tick.2.2.2.1 r ∧ Q r μ') := by
  intro m
  induction m with
  | zero =>
    intro c μ hR hc
    obtain rfl : c = 16 := by omega
    have hB := hR.2.1
    refine X.iload_n dX4_tick_69 rfl ?_
    refine X.bipush (v := 16) dX4_tick_70 (by decide) ?_
    refine X.icmp_ge_t (tgt := 96) dX4_tick_72 (by decide) ((by decide)) ?_
    refine X.iload_n dX4_tick_96 rfl ?_
    refine X.ret dX4_tick_97 ⟨trivial, ?_⟩
    exact K _ hR
  | succ m ih =>
    intro c μ hR hc
    have hB := hR.2.1
    have hc16 : c < 16 := by omega
    refine X.iload_n dX4_tick_69 rfl ?_
    refine X.bipush (v := 16) dX4_tick_70 (by decide) ?_
    refine X.icmp_ge_f (tgt := 96) dX4_tick_72 (by decide) (nI_ge (a := c) (b := 16) (by omega) (by decide)) ?_
    refine X.aload_n dX4_tick_75 rfl ?_
    refine X.iload_n dX4_tick_76 rfl ?_
    refine X.cV1a (k' := kX4_channelAt) dX4_tick_77 (hB.1 1 (by decide) (by decide)) ⟨by decide, rfl⟩ v_X4_channelAt wm_X4_59 wi_X4_channelAt ws_X4_channelAt ⟨Nat.le_of_ble_eq_true rfl, Nat.le_of_ble_eq_true rfl⟩ n_X4_channelAt (Nat.le_of_ble_eq_true rfl) ?_
    refine x_channelAt hB hc16 ?_
    refine ⟨_, rfl, ?_⟩
    refine X.astore_n dX4_tick_80 (Nat.le_of_ble_eq_true rfl) ?_
    refine X.aload_n dX4_tick_81 rfl ?_
    refine X.ifnull_r dX4_tick_82 ?_
    refine X.aload_n dX4_tick_85 rfl ?_
    refine X.aload_n dX4_tick_86 rfl ?_
    refine X.cV1v (k' := kX4_move) dX4_tick_87 (hB.1 1 (by decide) (by decide)) ⟨by decide, rfl⟩ v_X4_move wm_X4_172 wi_X4_move ws_X4_move ⟨Nat.le_of_ble_eq_true rfl, Nat.le_of_ble_eq_true rfl⟩ n_X4_move (Nat.le_of_ble_eq_true rfl) ?_
    refine c_move hR (show B.1 + c < 2 ^ 30 by omega) hc16 (fun μ1 hR1 => ?_)
    refine ⟨rfl, ?_⟩
    refine X.iinc1 dX4_tick_90 rfl (Nat.le_of_ble_eq_true rfl) ?_
    refine X.goto (tgt := 69) dX4_tick_93 (by decide) ?_
    exact X.at [(0, .ref 1), (1, .int n), (2, .int (nI (c + 1)))] ⟨rfl, rfl, iN c, trivial⟩ (ih (c + 1) μ1 hR1 (by omega))
set_option maxRecDepth 100000 in
set_option maxHeartbeats 4000000 in
theorem c_tick {ρ ν μ : xM} {φ κ : Nat → Nat} {B : Nat × Nat × Nat × (Nat → Prop)} {Q : Option Value → xM → Prop} (hR : Rel ρ ν μ φ κ B) (hB30 : B.1 + 40 < 2 ^ 30) (hq : ∀ μ1, Rel ρ (tickM ν) μ1 φ κ (B.1 + 40, B.2) → Q (some (.int (cntsM (timeM ν) (qM ν)))) μ1) : Mt kX4_tick [.ref 1] μ Q := by
  have hB := hR.2.1
  refine Mt.enter rfl (Nat.le_of_ble_eq_true rfl) ?_
  refine X.aload_n dX4_tick_0 rfl ?_
  refine X.dup dX4_tick_1 ?_
  refine X.getI (kf := 4) dX4_tick_2 (hB.1 1 (by decide) (by decide)) (by decide) (by decide) rfl wf_X4_28 ?_
  refine X.iconst (v := 1) dX4_tick_5 (by decide) ?_
  refine X.iadd dX4_tick_6 ?_
  refine X.putI (kf := 4) dX4_tick_7 (hB.1 1 (by decide) (by decide)) (by decide) (by decide) rfl (Or.inl rfl) ⟨rfl, rfl⟩ wf_X4_28 ?_
  refine X.iconst (v := 0) dX4_tick_10 (by decide) ?_
  refine X.istore_n dX4_tick_11 (Nat.le_of_ble_eq_true rfl) ?_
  refine X.iconst (v := 0) dX4_tick_12 (by decide) ?_
  refine X.istore_n dX4_tick_13 (Nat.le_of_ble_eq_true rfl) ?_
  have ht := hR.time
  have hq24 : qM (timeM ν) ≤ 24 := ht.q24
  refine X.at [(0, .ref 1), (1, .int (cntsM (timeM ν) 0)), (2, .int (nI 0))] ⟨rfl, rfl, rfl, trivial⟩ ?_
  refine ctl (by omega) hq24 (fun μ1 hR1 => ?_) (qM (timeM ν)) 0 _ ht (by omega)
  refine X.iconst (v := 0) dX4_tick_67 (by decide) ?_
  refine X.istore_n dX4_tick_68 (Nat.le_of_ble_eq_true rfl) ?_
  refine X.at [(0, .ref 1), (1, .int (cntsM (timeM ν) (qM (timeM ν)))), (2, .int (nI 0))] ⟨rfl, rfl, rfl, trivial⟩ ?_
  exact ctm (B := (B.1 + qM (timeM ν), B.2)) (show B.1 + qM (timeM ν) + 16 < 2 ^ 30 by omega) (fun μ2 hR2 => hq _ (hR2.up (show B.1 + qM (timeM ν) + 16 ≤ B.1 + 40 by omega))) 16 0 μ1 hR1 (by omega)
