/-! the class is made (laid by wip/whole/mkpb16.py) -/
theorem pfld_ge : ∀ k, 11 ≤ k → pfld k = none
  | z + 11, _ => rfl
theorem pfld_inj {k k' b : Nat} (h : pfld k = some b) (h' : pfld k' = some b) : k = k' := by
  have w : ∀ k, k < 11 → ∀ k', k' < 11 → pfld k = pfld k' → pfld k = none ∨ k = k' := by decide
  by_cases e : k < 11
  · by_cases e' : k' < 11
    · rcases w k e k' e' (h.trans h'.symm) with q | q
      · rw [q] at h; cases h
      · exact q
    · rw [pfld_ge k' (by omega)] at h'; cases h'
  · rw [pfld_ge k (by omega)] at h; cases h
theorem sI_z {m : xM} {a k : Nat} (h : mI m a k = 0) : sI m a k 0 = m := by
  have w := sI_self m a k
  rw [h] at w
  exact w
theorem new_T (m : xM) (c l w a : Nat) : mT (sNew m c l w) a = if a = mN m then (c, l) else mT m a := rfl
theorem new_I (m : xM) (c l w a j : Nat) : mI (sNew m c l w) a j = if a = mN m then 0 else mI m a j := rfl
theorem new_R (m : xM) (c l w a j : Nat) : mR (sNew m c l w) a j = if a = mN m then none else mR m a j := rfl
/-- the class half made: n cells stand, w slots -/
def Stg (m : xM) (n w : Nat) : Prop := (mN m = n ∧ mS m = w) ∧ (∀ a, 1 ≤ a → a < n → a < 28 → mT m a = shq a) ∧ (∀ k b, pfld k = some b → b < n → mR m 1 k = some b) ∧ (∀ k, pfld k = none → mR m 1 k = none) ∧ (∀ a j, a < 26 → mI m a j = 0) ∧ (∀ j, mR m 3 j = none) ∧ (25 ≤ n → ∀ i, i < 20 → mR m 4 i = some (5 + i))
theorem Stg.put {m0 m : xM} {n w w' k0 : Nat} (h : Stg m0 n w) (hk : pfld k0 = some n) (hN : mN m = n + 1 ∧ mS m = w') (hT : ∀ a, a < n → mT m a = mT m0 a) (hn : n < 28 → mT m n = shq n) (hR : ∀ a, a < n → mR m a = mR m0 a) (hI : ∀ a, a < 26 → a < n → mI m a = mI m0 a) (hI2 : ∀ a, a < 26 → n ≤ a → ∀ j, mI m a j = 0) (h2 : 1 < n) (h3 : n = 3 → ∀ j, mR m 3 j = none) (h24 : n ≠ 24) (h33 : n ≤ 3 → ∀ j, mR m 3 j = none) : Stg (sR m 1 k0 (some n)) (n + 1) w' := by
  obtain ⟨⟨e1, e2⟩, a, b, c', d, e, f⟩ := h
  refine ⟨⟨by rw [mN_sR, hN.1], by rw [mS_sR, hN.2]⟩, fun x x1 x2 x3 => ?_, fun k b' hb hb' => ?_, fun k hb => ?_, fun x j hx => ?_, fun j => ?_, fun hn i hi => ?_⟩
  · rw [mT_sR]
    by_cases q : x = n
    · rw [q]; exact hn (by omega)
    · rw [hT x (by omega)]; exact a x x1 (by omega) x3
  · by_cases q : k = k0
    · subst q
      rw [mR_s]
      exact hk.symm.trans hb
    · rw [mR_k q, hR 1 h2]
      refine b k b' hb ?_
      by_cases q2 : b' = n
      · exact absurd (pfld_inj hb (q2 ▸ hk)) q
      · omega
  · have q : k ≠ k0 := fun q => by rw [q, hk] at hb; cases hb
    rw [mR_k q, hR 1 h2]
    exact c' k hb
  · rw [mI_sR]
    by_cases q : x < n
    · rw [hI x hx q]; exact d x j hx
    · exact hI2 x hx (by omega) j
  · rw [mR_at (by decide)]
    by_cases q : n ≤ 3
    · exact h33 q j
    · rw [hR 3 (by omega)]; exact e j
  · rw [mR_at (by decide), hR 4 (by omega)]
    exact f (by omega) i hi
theorem Stg.arr {m : xM} {n w c l k0 : Nat} (h : Stg m n w) (hs : shq n = (c, l)) (hk : pfld k0 = some n) (hn : n = 2 ∨ n = 3 ∨ n = 25) : Stg (sR (sNew m c l l) 1 k0 (some n)) (n + 1) (w + l) := by
  have e1 := h.1.1
  have e2 := h.1.2
  have h5 := h.2.2.2.2.1
  have h6 := h.2.2.2.2.2.1
  refine h.put hk ⟨by rw [mN_sNew, e1], by rw [mS_sNew, e2]⟩ (fun a ha => by rw [new_T, if_neg (by omega)]) (fun _ => by rw [new_T, if_pos e1.symm, hs]) (fun a ha => by funext j; rw [new_R, if_neg (by omega)]) (fun a _ ha => by funext j; rw [new_I, if_neg (by omega)]) (fun a h26 ha j => ?_) (by omega) (fun q j => ?_) (by omega) (fun q j => ?_)
  · rw [new_I]
    split
    · rfl
    · exact h5 a j h26
  · rw [new_R, if_pos (by omega)]
  · rw [new_R]
    split
    · rfl
    · exact h6 j
theorem Stg.mna {m : xM} {w : Nat} (h : Stg m 4 w) : Stg (sR (mnaM m 20 3) 1 5 (some 4)) 25 (w + 20 + 60) := by
  obtain ⟨⟨e1, e2⟩, a, b, c', d, e, f⟩ := h
  have hq : ∀ x, x < 25 → 5 ≤ x → shq x = (6, 3) := by decide
  refine ⟨⟨by rw [mN_sR, mna_N, e1], by rw [mS_sR, mna_S, e2]⟩, fun x x1 x2 x3 => ?_, fun k b' hb hb' => ?_, fun k hb => ?_, fun x j hx => ?_, fun j => ?_, fun hn i hi => ?_⟩
  · rw [mT_sR, mna_T, e1]
    by_cases q : x = 4
    · subst q; rfl
    · rw [if_neg q]
      by_cases q2 : 4 < x
      · rw [if_pos (by omega), hq x x2 (by omega)]
      · rw [if_neg (by omega)]; exact a x x1 (by omega) x3
  · by_cases q : k = 5
    · subst q
      rw [mR_s]
      exact hb
    · rw [mR_k q, mna_R, e1, if_neg (by decide), if_neg (by decide)]
      refine b k b' hb ?_
      have w : ∀ k, k < 11 → k ≠ 5 → ∀ b, b < 25 → pfld k = some b → b < 4 := by decide
      by_cases q2 : k < 11
      · exact w k q2 q b' hb' hb
      · rw [pfld_ge k (by omega)] at hb; cases hb
  · have q : k ≠ 5 := fun q => by rw [q] at hb; cases hb
    rw [mR_k q, mna_R, e1, if_neg (by decide), if_neg (by decide)]
    exact c' k hb
  · rw [mI_sR, mna_I]
    split
    · rfl
    · exact d x j hx
  · rw [mR_at (by decide), mna_R, e1, if_neg (by decide), if_neg (by decide)]
    exact e j
  · rw [mR_at (by decide), mna_R, e1, if_pos rfl, if_pos hi]
theorem Stg.cell {m : xM} {n w k0 : Nat} (h : Stg m n w) (hk : pfld k0 = some n) (hn : n = 26 ∨ n = 27) : Stg (sR (cellP (sNew m 1 0 3) n 11 0 none) 1 k0 (some n)) (n + 1) (w + 3) := by
  have e1 := h.1.1
  have e2 := h.1.2
  refine h.put hk ⟨?_, ?_⟩ (fun a ha => ?_) (fun _ => ?_) (fun a ha => ?_) (fun a _ ha => ?_) (fun a h26 ha j => by omega) (by omega) (fun q j => by omega) (by omega) (fun q j => by omega)
  · unfold cellP; rw [mN_sR, mN_sJ, mN_sI, mN_sNew, e1]
  · unfold cellP; rw [mS_sR, mS_sJ, mS_sI, mS_sNew, e2]
  · unfold cellP; rw [mT_sR, mT_sJ, mT_sI, new_T, if_neg (by omega)]
  · unfold cellP; rw [mT_sR, mT_sJ, mT_sI, new_T, if_pos e1.symm]
    rcases hn with rfl | rfl <;> rfl
  · unfold cellP; rw [mR_at (by omega), mR_sJ, mR_sI]
    funext j; rw [new_R, if_neg (by omega)]
  · unfold cellP; rw [mI_sR, mI_sJ, mI_at (by omega)]
    funext j; rw [new_I, if_neg (by omega)]

set_option maxRecDepth 100000 in
set_option maxHeartbeats 4000000 in
theorem pb1 {m : xM} {w : Nat} {Q : Option Value → xM → Prop} (h : Stg m 2 w) (K : ∀ m, Stg m 28 (w + 132) → X kX4_init none 88 (xl [(0, .ref 1)]) [] m (fun r μ1 => xrok kX4_init.2.2.2.1 r ∧ Q r μ1)) : Mt kX4_init [.ref 1] m Q := by
  refine Mt.enter rfl (Nat.le_of_ble_eq_true rfl) ?_
  refine X.aload_n dX4_init_0 rfl ?_
  refine X.objInit dX4_init_1 wm_X4_1 wi_obj w_objc ⟨Nat.le_of_ble_eq_true rfl, Nat.le_of_ble_eq_true rfl⟩ ?_
  refine X.aload_n dX4_init_4 rfl ?_
  refine X.bipush (v := 16) dX4_init_5 (by decide) ?_
  refine X.anew (c := 10) (n := 16) dX4_init_7 (by decide) wc_X4_9 rfl (by decide) ?_
  rw [h.1.1]
  refine X.putR (kf := 0) dX4_init_10 (sh_new (h.2.1 1 (by decide) (by decide) (by decide)) (by rw [h.1.1]; decide)) (by decide) (by decide) rfl (Or.inr ⟨rfl, rfl, rfl⟩) (fun _ => ⟨rfl, rfl⟩) wf_X4_11 ?_
  replace h : Stg _ 3 _ := h.arr (c := 10) (l := 16) (k0 := 0) rfl rfl (by decide)
  generalize sR (sNew m 10 16 16) 1 0 (some _) = m at h ⊢
  refine X.aload_n dX4_init_13 rfl ?_
  refine X.bipush (v := 24) dX4_init_14 (by decide) ?_
  refine X.anew (c := 9) (n := 24) dX4_init_16 (by decide) wc_X4_15 rfl (by decide) ?_
  rw [h.1.1]
  refine X.putR (kf := 1) dX4_init_19 (sh_new (h.2.1 1 (by decide) (by decide) (by decide)) (by rw [h.1.1]; decide)) (by decide) (by decide) rfl (Or.inr ⟨rfl, rfl, rfl⟩) (fun _ => ⟨rfl, rfl⟩) wf_X4_17 ?_
  replace h : Stg _ 4 _ := h.arr (c := 9) (l := 24) (k0 := 1) rfl rfl (by decide)
  generalize sR (sNew m 9 24 24) 1 1 (some _) = m at h ⊢
  refine X.aload_n dX4_init_22 rfl ?_
  refine X.iconst (v := 0) dX4_init_23 (by decide) ?_
  refine X.putI (kf := 2) dX4_init_24 (h.2.1 1 (by decide) (by decide) (by decide)) (by decide) (by decide) rfl (Or.inl rfl) ⟨rfl, rfl⟩ wf_X4_21 ?_
  rw [sI_z (h.2.2.2.2.1 1 2 (by decide))]
  refine X.aload_n dX4_init_27 rfl ?_
  refine X.iconst (v := 0) dX4_init_28 (by decide) ?_
  refine X.putI (kf := 3) dX4_init_29 (h.2.1 1 (by decide) (by decide) (by decide)) (by decide) (by decide) rfl (Or.inl rfl) ⟨rfl, rfl⟩ wf_X4_25 ?_
  rw [sI_z (h.2.2.2.2.1 1 3 (by decide))]
  refine X.aload_n dX4_init_32 rfl ?_
  refine X.iconst (v := 0) dX4_init_33 (by decide) ?_
  refine X.putI (kf := 4) dX4_init_34 (h.2.1 1 (by decide) (by decide) (by decide)) (by decide) (by decide) rfl (Or.inl rfl) ⟨rfl, rfl⟩ wf_X4_28 ?_
  rw [sI_z (h.2.2.2.2.1 1 4 (by decide))]
  refine X.aload_n dX4_init_37 rfl ?_
  refine X.bipush (v := 20) dX4_init_38 (by decide) ?_
  refine X.iconst (v := 3) dX4_init_40 (by decide) ?_
  refine X.mna (n := 20) (w := 3) dX4_init_41 wc_X4_31 wa_int rfl rfl (by decide) (by decide) ?_
  rw [h.1.1]
  have hT4 : mT (mnaM m 20 3) 1 = (4, 0) := by
    rw [mna_T, h.1.1]
    exact h.2.1 1 (by decide) (by decide) (by decide)
  refine X.putR (kf := 5) dX4_init_45 hT4 (by decide) (by decide) rfl (Or.inr ⟨rfl, rfl, rfl⟩) (fun _ => ⟨rfl, rfl⟩) wf_X4_33 ?_
  replace h : Stg _ 25 _ := h.mna
  generalize sR (mnaM m 20 3) 1 5 (some _) = m at h ⊢
  refine X.aload_n dX4_init_48 rfl ?_
  refine X.iconst (v := 0) dX4_init_49 (by decide) ?_
  refine X.putI (kf := 6) dX4_init_50 (h.2.1 1 (by decide) (by decide) (by decide)) (by decide) (by decide) rfl (Or.inl rfl) ⟨rfl, rfl⟩ wf_X4_36 ?_
  rw [sI_z (h.2.2.2.2.1 1 6 (by decide))]
  refine X.aload_n dX4_init_53 rfl ?_
  refine X.bipush (v := 6) dX4_init_54 (by decide) ?_
  refine X.newI (n := 6) dX4_init_56 wa_int rfl (by decide) ?_
  rw [h.1.1]
  refine X.putR (kf := 7) dX4_init_58 (sh_new (h.2.1 1 (by decide) (by decide) (by decide)) (by rw [h.1.1]; decide)) (by decide) (by decide) rfl (Or.inr ⟨rfl, rfl, rfl⟩) (fun _ => ⟨rfl, rfl⟩) wf_X4_39 ?_
  replace h : Stg _ 26 _ := h.arr (c := 6) (l := 6) (k0 := 7) rfl rfl (by decide)
  generalize sR (sNew m 6 6 6) 1 7 (some _) = m at h ⊢
  refine X.aload_n dX4_init_61 rfl ?_
  refine X.iconst (v := 0) dX4_init_62 (by decide) ?_
  refine X.putI (kf := 8) dX4_init_63 (h.2.1 1 (by decide) (by decide) (by decide)) (by decide) (by decide) rfl (Or.inl rfl) ⟨rfl, rfl⟩ wf_X4_43 ?_
  rw [sI_z (h.2.2.2.2.1 1 8 (by decide))]
  refine X.aload_n dX4_init_66 rfl ?_
  refine X.new (c := 1) dX4_init_67 (by decide) wc_X4_46 wins_RX1 wini_RX1 ?_
  rw [h.1.1]
  refine X.dup dX4_init_70 ?_
  refine X.cIN0v (k' := kX1_init) dX4_init_71 ⟨rfl, rfl⟩ v_X1_init (host := "PatchBay") (List.mem_of_getElem? (i := 0) rfl) wi_X1_init ⟨Nat.le_of_ble_eq_true rfl, Nat.le_of_ble_eq_true rfl⟩ n_X1_init (Nat.le_of_ble_eq_true rfl) ?_
  refine x_cellInit (by rw [new_T, if_pos h.1.1.symm]) ?_
  refine ⟨rfl, ?_⟩
  refine X.putR (kf := 9) dX4_init_74 (sh_new (n := 0) (c := 1) (w := 3) (h.2.1 1 (by decide) (by decide) (by decide)) (by rw [h.1.1]; decide)) (by decide) (by decide) rfl (Or.inr ⟨rfl, rfl, rfl⟩) (fun _ => ⟨rfl, rfl⟩) wf_X4_49 ?_
  change X _ _ _ _ _ (sR (cellP (sNew m 1 0 3) 26 11 0 none) 1 9 (some 26)) _
  replace h : Stg _ 27 _ := h.cell (k0 := 9) rfl (by decide)
  generalize sR (cellP (sNew m 1 0 3) 26 11 0 none) 1 9 (some 26) = m at h ⊢
  refine X.aload_n dX4_init_77 rfl ?_
  refine X.new (c := 1) dX4_init_78 (by decide) wc_X4_46 wins_RX1 wini_RX1 ?_
  rw [h.1.1]
  refine X.dup dX4_init_81 ?_
  refine X.cIN0v (k' := kX1_init) dX4_init_82 ⟨rfl, rfl⟩ v_X1_init (host := "PatchBay") (List.mem_of_getElem? (i := 0) rfl) wi_X1_init ⟨Nat.le_of_ble_eq_true rfl, Nat.le_of_ble_eq_true rfl⟩ n_X1_init (Nat.le_of_ble_eq_true rfl) ?_
  refine x_cellInit (by rw [new_T, if_pos h.1.1.symm]) ?_
  refine ⟨rfl, ?_⟩
  refine X.putR (kf := 10) dX4_init_85 (sh_new (n := 0) (c := 1) (w := 3) (h.2.1 1 (by decide) (by decide) (by decide)) (by rw [h.1.1]; decide)) (by decide) (by decide) rfl (Or.inr ⟨rfl, rfl, rfl⟩) (fun _ => ⟨rfl, rfl⟩) wf_X4_53 ?_
  change X _ _ _ _ _ (sR (cellP (sNew m 1 0 3) 27 11 0 none) 1 10 (some 27)) _
  replace h : Stg _ 28 _ := h.cell (k0 := 10) rfl (by decide)
  generalize sR (cellP (sNew m 1 0 3) 27 11 0 none) 1 10 (some 27) = m at h ⊢
  exact K _ h

/-- after i channels -/
def StL (m : xM) (i w : Nat) : Prop := (mN m = 28 + i ∧ mS m = w + 6 * i) ∧ (∀ a, 1 ≤ a → a < 28 → mT m a = shq a) ∧ (∀ k, k < 11 → mR m 1 k = pfld k) ∧ (∀ a j, a < 26 → mI m a j = 0) ∧ (∀ j, mR m 3 j = none) ∧ (∀ i, i < 20 → mR m 4 i = some (5 + i)) ∧ ∀ c, c < i → mT m (28 + c) = (2, 0) ∧ mR m 2 c = some (28 + c) ∧ mI m (28 + c) 0 = nI c ∧ mR m (28 + c) 1 = none ∧ mI m (28 + c) 2 = 0 ∧ mI m (28 + c) 3 = 0 ∧ mI m (28 + c) 4 = 1 ∧ mI m (28 + c) 5 = 0
theorem Stg.start {m : xM} {w : Nat} (h : Stg m 28 w) : StL m 0 w := by
  obtain ⟨⟨e1, e2⟩, a, b, c', d, e, f⟩ := h
  refine ⟨⟨e1, e2⟩, fun x x1 x2 => a x x1 x2 x2, fun k hk => ?_, d, e, f (by decide), fun c hc => absurd hc (Nat.not_lt_zero c)⟩
  have w : ∀ k, k < 11 → ∀ b, pfld k = some b → b < 28 := by
    intro k hk b hb
    have w2 : ∀ k, k < 11 → (pfld k).all (fun b => decide (b < 28)) = true := by decide
    have := w2 k hk
    rw [hb] at this
    exact of_decide_eq_true this
  cases q : pfld k with
  | none => exact c' k q
  | some b' => exact b k b' q (w k hk b' q)
def stM (m : xM) (i : Nat) : xM := sR (chP (sNew m 2 0 6) (28 + i) (nI i)) 2 i (some (28 + i))
theorem StL.step {m : xM} {i w : Nat} (h : StL m i w) : StL (stM m i) (i + 1) w := by
  obtain ⟨⟨e1, e2⟩, a, b, d, e, f, g⟩ := h
  obtain ⟨t1, t2, t3, t4⟩ := chP_T (μ := sNew m 2 0 6) (a := 28 + i) (c := nI i)
  have oT : ∀ x, x < 28 + i → mT (stM m i) x = mT m x := fun x hx => by unfold stM; rw [mT_sR, t1, new_T, if_neg (by omega)]
  have oI : ∀ x, x < 28 + i → mI (stM m i) x = mI m x := fun x hx => by unfold stM; rw [mI_sR, (chP_old (by omega)).1]; funext j; rw [new_I, if_neg (by omega)]
  have oR : ∀ x j, x < 28 + i → (x ≠ 2 ∨ j ≠ i) → mR (stM m i) x j = mR m x j := fun x j hx hj => by
    unfold stM
    rw [mR_sR]
    unfold up2
    rw [if_neg (by omega), (chP_old (by omega)).2, new_R, if_neg (by omega)]
  obtain ⟨n1, n2, n3, n4, n5, n6⟩ := chP_f (μ := sNew m 2 0 6) (a := 28 + i) (c := nI i)
  refine ⟨⟨by unfold stM; rw [mN_sR, t3, mN_sNew, e1]; omega, by unfold stM; rw [mS_sR, t4, mS_sNew, e2]; omega⟩, fun x x1 x2 => by rw [oT x (by omega)]; exact a x x1 x2, fun k hk => by rw [oR 1 k (by omega) (by omega)]; exact b k hk, fun x j hx => by rw [oI x (by omega)]; exact d x j hx, fun j => by rw [oR 3 j (by omega) (by omega)]; exact e j, fun j hj => by rw [oR 4 j (by omega) (by omega)]; exact f j hj, fun c hc => ?_⟩
  by_cases q : c = i
  · subst q
    refine ⟨?_, ?_, ?_, ?_, ?_, ?_, ?_, ?_⟩
    · unfold stM; rw [mT_sR, t1, new_T, if_pos e1.symm]
    · unfold stM; rw [mR_s]
    · unfold stM; rw [mI_sR]; exact n1
    · unfold stM; rw [mR_at (by omega)]; exact n2
    · unfold stM; rw [mI_sR]; exact n3
    · unfold stM; rw [mI_sR]; exact n4
    · unfold stM; rw [mI_sR]; exact n5
    · unfold stM; rw [mI_sR]; exact n6
  · have hc2 : 28 + c < 28 + i := by omega
    rw [oT _ hc2, oI _ hc2, oR (28 + c) 1 hc2 (by omega), oR 2 c (by omega) (by omega)]
    exact g c (by omega)
set_option maxRecDepth 100000 in
set_option maxHeartbeats 4000000 in
theorem pb2 {w : Nat} {Q : Option Value → xM → Prop} (K : ∀ m, StL m 16 w → Q none m) : ∀ (n i : Nat) (μ : xM), i + n = 16 → StL μ i w → X kX4_init none 90 (xl [(0, .ref 1), (1, .int (nI i))]) [] μ (fun r μ1 => xrok kX4_init.2.2.2.1 r ∧ Q r μ1) := by
  intro n
  induction n with
  | zero =>
    intro i μ hi hI
    obtain rfl : i = 16 := by omega
    refine X.iload_n dX4_init_90 rfl ?_
    refine X.bipush (v := 16) dX4_init_91 (by decide) ?_
    refine X.icmp_ge_t (tgt := 116) dX4_init_93 (by decide) (by decide) ?_
    refine X.retv dX4_init_116 ⟨trivial, ?_⟩
    exact K _ hI
  | succ n ih =>
    intro i μ hi hI
    have hj : i < 16 := by omega
    have hN := hI.1.1
    have hT1 : mT μ 1 = (4, 0) := hI.2.1 1 (by decide) (by decide)
    have hT2 : mT μ 2 = (10, 16) := hI.2.1 2 (by decide) (by decide)
    refine X.iload_n dX4_init_90 rfl ?_
    refine X.bipush (v := 16) dX4_init_91 (by decide) ?_
    refine X.icmp_ge_f (tgt := 116) dX4_init_93 (by decide) (nI_ge (a := i) (b := 16) hj (by decide)) ?_
    refine X.aload_n dX4_init_96 rfl ?_
    refine X.getR (b := 2) (kf := 0) dX4_init_97 hT1 (by decide) (by decide) rfl wf_X4_11 (hI.2.2.1 0 (by decide)) ?_
    refine X.iload_n dX4_init_100 rfl ?_
    refine X.new (c := 2) dX4_init_101 (by decide) wc_X4_9 wins_RX2 wini_RX2 ?_
    rw [hN]
    refine X.dup dX4_init_104 ?_
    refine X.iload_n dX4_init_105 rfl ?_
    refine X.cI1v (k' := kX2_init) dX4_init_106 ⟨rfl, rfl⟩ v_X2_init wm_X4_56 wi_X2_init ⟨Nat.le_of_ble_eq_true rfl, Nat.le_of_ble_eq_true rfl⟩ n_X2_init (Nat.le_of_ble_eq_true rfl) ?_
    refine x_chanInit (by rw [new_T, if_pos hN.symm]) ?_
    refine ⟨rfl, ?_⟩
    obtain ⟨t1, t2, t3, t4⟩ := chP_T (μ := sNew μ 2 0 6) (a := 28 + i) (c := nI i)
    refine X.aast dX4_init_109 (c := 10) (n := 16) (nb := 0) ((congrFun t1 2).trans (sh_new hT2 (by omega))) (by decide) ((congrFun t1 (28 + i)).trans (by rw [new_T, if_pos hN.symm]; rfl)) rfl hj (by decide) ?_
    refine X.iinc1 dX4_init_110 rfl (Nat.le_of_ble_eq_true rfl) ?_
    refine X.goto (tgt := 90) dX4_init_113 (by decide) ?_
    exact X.at [(0, .ref 1), (1, .int (nI (i + 1)))] ⟨rfl, iN i, trivial⟩ (ih (i + 1) _ (by omega) hI.step)
theorem x_bayInit {m : xM} {w : Nat} {Q : Option Value → xM → Prop} (h : Stg m 2 w) (K : ∀ m, StL m 16 (w + 132) → Q none m) : Mt kX4_init [.ref 1] m Q := by
  refine pb1 h (fun m1 h1 => ?_)
  refine X.iconst (v := 0) dX4_init_88 (by decide) ?_
  refine X.istore_n dX4_init_89 (Nat.le_of_ble_eq_true rfl) ?_
  refine X.at [(0, .ref 1), (1, .int (nI 0))] ⟨rfl, rfl, trivial⟩ ?_
  exact pb2 K 16 0 _ (by omega) h1.start
