/-! the class: a new cable (laid by wip/whole/mkpb13.py) -/
def cabP (μ : xM) (a : Nat) (q k : Int32) (f t : Nat) : xM := sR (sR (sI (sI (sI (sI (sI (sI (sI μ a 4 1) a 5 1) a 6 0) a 7 0) a 8 0) a 0 q) a 1 k) a 2 (some f)) a 3 (some t)
theorem cabP_T {μ : xM} {a : Nat} {q k : Int32} {f t : Nat} : mT (cabP μ a q k f t) = mT μ ∧ mJ (cabP μ a q k f t) = mJ μ ∧ mN (cabP μ a q k f t) = mN μ ∧ mS (cabP μ a q k f t) = mS μ := by
  unfold cabP
  refine ⟨?_, ?_, ?_, ?_⟩
  · rw [mT_sR, mT_sR, mT_sI, mT_sI, mT_sI, mT_sI, mT_sI, mT_sI, mT_sI]
  · rw [mJ_sR, mJ_sR, mJ_sI, mJ_sI, mJ_sI, mJ_sI, mJ_sI, mJ_sI, mJ_sI]
  · rw [mN_sR, mN_sR, mN_sI, mN_sI, mN_sI, mN_sI, mN_sI, mN_sI, mN_sI]
  · rw [mS_sR, mS_sR, mS_sI, mS_sI, mS_sI, mS_sI, mS_sI, mS_sI, mS_sI]
theorem cabP_old {μ : xM} {a : Nat} {q k : Int32} {f t : Nat} {b : Nat} (h : b ≠ a) : mT (cabP μ a q k f t) b = mT μ b ∧ mI (cabP μ a q k f t) b = mI μ b ∧ mJ (cabP μ a q k f t) b = mJ μ b ∧ mR (cabP μ a q k f t) b = mR μ b := by
  refine ⟨by rw [cabP_T.1], ?_, by rw [cabP_T.2.1], ?_⟩
  · unfold cabP
    rw [mI_sR, mI_sR, mI_at h, mI_at h, mI_at h, mI_at h, mI_at h, mI_at h, mI_at h]
  · unfold cabP
    rw [mR_at h, mR_at h, mR_sI, mR_sI, mR_sI, mR_sI, mR_sI, mR_sI, mR_sI]
theorem cabP_f {μ : xM} {a : Nat} {q k : Int32} {f t : Nat} : (mI (cabP μ a q k f t) a 0 = q ∧ mI (cabP μ a q k f t) a 1 = k ∧ mR (cabP μ a q k f t) a 2 = some f ∧ mR (cabP μ a q k f t) a 3 = some t) ∧ mI (cabP μ a q k f t) a 4 = 1 ∧ mI (cabP μ a q k f t) a 5 = 1 ∧ mI (cabP μ a q k f t) a 6 = 0 ∧ mI (cabP μ a q k f t) a 7 = 0 ∧ mI (cabP μ a q k f t) a 8 = 0 := by
  have e : mI (cabP μ a q k f t) = mI (sI (sI (sI (sI (sI (sI (sI μ a 4 1) a 5 1) a 6 0) a 7 0) a 8 0) a 0 q) a 1 k) := by
    unfold cabP
    rw [mI_sR, mI_sR]
  rw [e]
  refine ⟨⟨?_, ?_, ?_, ?_⟩, ?_, ?_, ?_, ?_, ?_⟩
  · rw [mI_k (by decide), mI_s]
  · rw [mI_s]
  · unfold cabP; rw [mR_k (by decide), mR_s]
  · unfold cabP; rw [mR_s]
  · rw [mI_k (by decide), mI_k (by decide), mI_k (by decide), mI_k (by decide), mI_k (by decide), mI_k (by decide), mI_s]
  · rw [mI_k (by decide), mI_k (by decide), mI_k (by decide), mI_k (by decide), mI_k (by decide), mI_s]
  · rw [mI_k (by decide), mI_k (by decide), mI_k (by decide), mI_k (by decide), mI_s]
  · rw [mI_k (by decide), mI_k (by decide), mI_k (by decide), mI_s]
  · rw [mI_k (by decide), mI_k (by decide), mI_s]
set_option maxRecDepth 100000 in
set_option maxHeartbeats 4000000 in
theorem x_cableInit {a k f t : Nat} {q : Int32} {μ : xM} {Q : Option Value → xM → Prop} (hT : mT μ a = (0, 0)) (hq : Q none (cabP μ a q (nI k) f t)) : Mt kX0_init [.ref a, .int q, .int (nI k), .ref f, .ref t] μ Q := by
  refine Mt.enter rfl (Nat.le_of_ble_eq_true rfl) ?_
  refine X.aload_n dX0_init_0 rfl ?_
  refine X.objInit dX0_init_1 wm_X0_1 wi_obj w_objc ⟨Nat.le_of_ble_eq_true rfl, Nat.le_of_ble_eq_true rfl⟩ ?_
  refine X.aload_n dX0_init_4 rfl ?_
  refine X.iconst (v := 1) dX0_init_5 (by decide) ?_
  refine X.putI (kf := 4) dX0_init_6 (hT) (by decide) (by decide) rfl (Or.inl rfl) ⟨rfl, rfl⟩ wf_X0_7 ?_
  refine X.aload_n dX0_init_9 rfl ?_
  refine X.iconst (v := 1) dX0_init_10 (by decide) ?_
  refine X.putI (kf := 5) dX0_init_11 (hT) (by decide) (by decide) rfl (Or.inl rfl) ⟨rfl, rfl⟩ wf_X0_13 ?_
  refine X.aload_n dX0_init_14 rfl ?_
  refine X.iconst (v := 0) dX0_init_15 (by decide) ?_
  refine X.putI (kf := 6) dX0_init_16 (hT) (by decide) (by decide) rfl (Or.inl rfl) ⟨rfl, rfl⟩ wf_X0_17 ?_
  refine X.aload_n dX0_init_19 rfl ?_
  refine X.iconst (v := 0) dX0_init_20 (by decide) ?_
  refine X.putI (kf := 7) dX0_init_21 (hT) (by decide) (by decide) rfl (Or.inl rfl) ⟨rfl, rfl⟩ wf_X0_20 ?_
  refine X.aload_n dX0_init_24 rfl ?_
  refine X.iconst (v := 0) dX0_init_25 (by decide) ?_
  refine X.putI (kf := 8) dX0_init_26 (hT) (by decide) (by decide) rfl (Or.inl rfl) ⟨rfl, rfl⟩ wf_X0_23 ?_
  refine X.aload_n dX0_init_29 rfl ?_
  refine X.iload_n dX0_init_30 rfl ?_
  refine X.putI (kf := 0) dX0_init_31 (hT) (by decide) (by decide) rfl (Or.inr ⟨rfl, rfl, rfl⟩) ⟨rfl, rfl⟩ wf_X0_26 ?_
  refine X.aload_n dX0_init_34 rfl ?_
  refine X.iload_n dX0_init_35 rfl ?_
  refine X.putI (kf := 1) dX0_init_36 (hT) (by decide) (by decide) rfl (Or.inr ⟨rfl, rfl, rfl⟩) ⟨rfl, rfl⟩ wf_X0_29 ?_
  refine X.aload_n dX0_init_39 rfl ?_
  refine X.aload_n dX0_init_40 rfl ?_
  refine X.putR (kf := 2) dX0_init_41 (hT) (by decide) (by decide) rfl (Or.inr ⟨rfl, rfl, rfl⟩) (fun _ => ⟨rfl, rfl⟩) wf_X0_32 ?_
  refine X.aload_n dX0_init_44 rfl ?_
  refine X.aload dX0_init_45 rfl ?_
  refine X.putR (kf := 3) dX0_init_47 (hT) (by decide) (by decide) rfl (Or.inr ⟨rfl, rfl, rfl⟩) (fun _ => ⟨rfl, rfl⟩) wf_X0_36 ?_
  refine X.retv dX0_init_50 ⟨trivial, ?_⟩
  exact hq
theorem cab_q {ρ ν μ : xM} {φ κ : Nat → Nat} {B : Nat × Nat × Nat × (Nat → Prop)} (h : Rel ρ ν μ φ κ B) (h24 : ¬ qM ν = 24) (k f t : Nat) : mI (cabNewM ν k f t) 44 10 = nI (qM ν + 1) ∧ qM (cabNewM ν k f t) = qM ν + 1 := by
  have e : mI (cabNewM ν k f t) 44 10 = nI (qM ν + 1) := by
    unfold cabNewM
    rw [mI_s, h.wc.1.1, nI_1]
  refine ⟨e, ?_⟩
  unfold qM at e ⊢
  rw [e, nI_clamp (by have := h.wc.1.2; unfold qM at this; omega)]
theorem Rel.cabled {ρ ν μ : xM} {φ κ : Nat → Nat} {B : Nat × Nat × Nat × (Nat → Prop)} {a0 : Nat} (h : Rel ρ ν μ φ κ B) (h24 : ¬ qM ν = 24) {k f t : Nat} (hk : k < 4) (hf : f < 16) (ht : t < 16) (hU : Und ν φ κ B.2.2.2 a0) (hN : a0 < mN μ) (hT : mT μ a0 = (0, 0)) (hc : (mI μ a0 0 = nI (qM ν) ∧ mI μ a0 1 = nI k ∧ mR μ a0 2 = some (28 + f) ∧ mR μ a0 3 = some (28 + t)) ∧ mI μ a0 4 = 1 ∧ mI μ a0 5 = 1 ∧ mI μ a0 6 = 0 ∧ mI μ a0 7 = 0 ∧ mI μ a0 8 = 0) :
    Rel ρ (cabNewM ν k f t) (sI (sR μ 3 (qM ν) (some a0)) 1 2 (mI μ 1 2 + 1)) φ (phN κ (qM ν) a0) B := by
  have hq := h.q24
  obtain ⟨q1, q2⟩ := cab_q h h24 k f t
  have hws := h.wc
  obtain ⟨h1, h2, h3, h4, h5, h6, h7, h8⟩ := h
  have ev : cabNewM ν k f t = sI (sI (sI (sI (sI (sI ν 54 (qM ν) (nI k)) 55 (qM ν) (nI f)) 56 (qM ν) (nI t)) 57 (qM ν) 1) 58 (qM ν) 1) 44 10 (mI ν 44 10 + 1) := rfl
  have o : ∀ a, a ≠ 44 → ∀ j, j ≠ qM ν → mI (cabNewM ν k f t) a j = mI ν a j := fun a a1 j hj => by
    rw [ev, mI_at a1]
    by_cases e58 : a = 58
    · subst e58; rw [mI_k hj, mI_at (by decide), mI_at (by decide), mI_at (by decide), mI_at (by decide)]
    · rw [mI_at e58]
      by_cases e57 : a = 57
      · subst e57; rw [mI_k hj, mI_at (by decide), mI_at (by decide), mI_at (by decide)]
      · rw [mI_at e57]
        by_cases e56 : a = 56
        · subst e56; rw [mI_k hj, mI_at (by decide), mI_at (by decide)]
        · rw [mI_at e56]
          by_cases e55 : a = 55
          · subst e55; rw [mI_k hj, mI_at (by decide)]
          · rw [mI_at e55]
            by_cases e54 : a = 54
            · subst e54; rw [mI_k hj]
            · rw [mI_at e54]
  have n54 : mI (cabNewM ν k f t) 54 (qM ν) = nI k := by rw [ev, mI_at (by decide), mI_at (by decide), mI_at (by decide), mI_at (by decide), mI_at (by decide), mI_s]
  have n55 : mI (cabNewM ν k f t) 55 (qM ν) = nI f := by rw [ev, mI_at (by decide), mI_at (by decide), mI_at (by decide), mI_at (by decide), mI_s]
  have n56 : mI (cabNewM ν k f t) 56 (qM ν) = nI t := by rw [ev, mI_at (by decide), mI_at (by decide), mI_at (by decide), mI_s]
  have n57 : mI (cabNewM ν k f t) 57 (qM ν) = 1 := by rw [ev, mI_at (by decide), mI_at (by decide), mI_s]
  have n58 : mI (cabNewM ν k f t) 58 (qM ν) = 1 := by rw [ev, mI_at (by decide), mI_s]
  have o2 : ∀ a, a ≠ 44 → a ≠ 54 → a ≠ 55 → a ≠ 56 → a ≠ 57 → a ≠ 58 → mI (cabNewM ν k f t) a = mI ν a := fun a a1 a2 a3 a4 a5 a6 => by
    rw [ev, mI_at a1, mI_at a6, mI_at a5, mI_at a4, mI_at a3, mI_at a2]
  have o44 : ∀ j, j ≠ 10 → mI (cabNewM ν k f t) 44 j = mI ν 44 j := fun j hj => by
    rw [ev, mI_k hj, mI_at (by decide), mI_at (by decide), mI_at (by decide), mI_at (by decide), mI_at (by decide)]
  have hi : ∀ b, b ≠ 1 → mI (sI (sR μ 3 (qM ν) (some a0)) 1 2 (mI μ 1 2 + 1)) b = mI μ b := fun b hb => by rw [mI_at hb]; rfl
  have hr : ∀ b, b ≠ 3 → mR (sI (sR μ 3 (qM ν) (some a0)) 1 2 (mI μ 1 2 + 1)) b = mR μ b := fun b hb => by show mR (sR μ 3 (qM ν) (some a0)) b = _; exact mR_at hb
  have hHi : HiEq μ (sI (sR μ 3 (qM ν) (some a0)) 1 2 (mI μ 1 2 + 1)) := ((HiEq.rf μ).sR (by omega)).sI (by omega)
  have ck0 : ∀ d, d < qM ν → ck (cabNewM ν k f t) d = ck ν d ∧ cf (cabNewM ν k f t) d = cf ν d ∧ ct (cabNewM ν k f t) d = ct ν d := fun d hd => by
    unfold ck cf ct
    rw [o 54 (by decide) d (by omega), o 55 (by decide) d (by omega), o 56 (by decide) d (by omega)]
    exact ⟨rfl, rfl, rfl⟩
  have ckq : ck (cabNewM ν k f t) (qM ν) = k ∧ cf (cabNewM ν k f t) (qM ν) = f ∧ ct (cabNewM ν k f t) (qM ν) = t := by
    unfold ck cf ct
    rw [n54, n55, n56, nI_clamp (by omega), nI_clamp (by omega), nI_clamp (by omega)]
    exact ⟨rfl, rfl, rfl⟩
  refine ⟨(h1.sR (by omega)).sI (by omega), ?_, ⟨h3.1, ⟨⟨by rw [q1, q2], by rw [q2]; omega⟩, fun d hd => ?_⟩, h3.2.2⟩, ?_, fun c c1 => (h5 c c1).cg (hi _ (by omega)) (by rw [hr _ (by omega)]), h6.hi hHi, ⟨fun d hd => ?_, fun d d1 d2 => ?_, fun d d' l1 l2 e => ?_, fun d hd => ?_⟩, h8⟩
  · exact ShP.sR (μ := μ) h2 (by decide) (by decide) (by decide)
  · rw [q2] at hd
    by_cases e : d = qM ν
    · subst e
      rw [ckq.1, ckq.2.1, ckq.2.2, n54, n55, n56]
      exact ⟨⟨rfl, hk⟩, ⟨rfl, hf⟩, rfl, ht⟩
    · obtain ⟨c1, c2, c3⟩ := ck0 d (by omega)
      rw [c1, c2, c3, o 54 (by decide) d e, o 55 (by decide) d e, o 56 (by decide) d e]
      exact hws.2 d (by omega)
  · obtain ⟨⟨a1, a2, a3, a4, a5⟩, b, c⟩ := h4
    refine ⟨⟨?_, ?_, ?_, ?_, ?_⟩, fun r r1 r2 => ?_, fun i hi2 => ?_⟩
    · rw [mI_s, q1, a1, hws.1.1, nI_1]
    · rw [mI_k (by decide), o44 4 (by decide)]; exact a2
    · rw [mI_k (by decide), o44 19 (by decide)]; exact a3
    · rw [mI_k (by decide), o44 20 (by decide)]; exact a4
    · rw [mI_k (by decide), o44 25 (by decide)]; exact a5
    · rw [hi 25 (by decide), o2 65 (by decide) (by decide) (by decide) (by decide) (by decide) (by decide)]; exact b r r1 r2
    · rw [hi (5 + i) (by omega), o2 62 (by decide) (by decide) (by decide) (by decide) (by decide) (by decide), o2 63 (by decide) (by decide) (by decide) (by decide) (by decide) (by decide), o2 64 (by decide) (by decide) (by decide) (by decide) (by decide) (by decide)]
      exact c i hi2
  · rw [q2] at hd
    by_cases e : d = qM ν
    · subst e
      have z := (h7.2.1 (qM ν) (Nat.le_refl _) (by omega)).2
      refine ⟨?_, ?_⟩
      · show mR (sR μ 3 (qM ν) (some a0)) 3 (qM ν) = some (phN κ (qM ν) a0 (qM ν))
        rw [mR_s, show phN κ (qM ν) a0 (qM ν) = a0 from if_pos rfl]
      · rw [show phN κ (qM ν) a0 (qM ν) = a0 from if_pos rfl]
        have l66 := hU.1
        unfold CR
        rw [hi a0 (by omega), hr a0 (by omega), ckq.2.1, ckq.2.2, n54, n57, n58, o2 59 (by decide) (by decide) (by decide) (by decide) (by decide) (by decide), o2 60 (by decide) (by decide) (by decide) (by decide) (by decide) (by decide), o2 61 (by decide) (by decide) (by decide) (by decide) (by decide) (by decide), z.1, z.2.1, z.2.2]
        exact ⟨⟨l66, hN⟩, hT, hc.1, hc.2⟩
    · have hd2 : d < qM ν := by omega
      obtain ⟨w1, w2⟩ := h7.1 d hd2
      obtain ⟨c1, c2, c3⟩ := ck0 d hd2
      have l66 := w2.1.1
      refine ⟨?_, ?_⟩
      · show mR (sR μ 3 (qM ν) (some a0)) 3 d = some (phN κ (qM ν) a0 d)
        rw [mR_k e, show phN κ (qM ν) a0 d = κ d from if_neg e]
        exact w1
      · rw [show phN κ (qM ν) a0 d = κ d from if_neg e]
        unfold CR
        rw [hi _ (by omega), hr _ (by omega), c2, c3, o 54 (by decide) d e, o 57 (by decide) d e, o 58 (by decide) d e, o 59 (by decide) d e, o 60 (by decide) d e, o 61 (by decide) d e]
        exact w2
  · rw [q2] at d1
    obtain ⟨w1, w2⟩ := h7.2.1 d (by omega) d2
    refine ⟨?_, ?_⟩
    · show mR (sR μ 3 (qM ν) (some a0)) 3 d = none
      rw [mR_k (by omega)]; exact w1
    · rw [o 59 (by decide) d (by omega), o 60 (by decide) d (by omega), o 61 (by decide) d (by omega)]
      exact w2
  · rw [q2] at l1 l2
    unfold phN at e
    by_cases e1 : d = qM ν
    · by_cases e2 : d' = qM ν
      · omega
      · rw [if_pos e1, if_neg e2] at e
        have := hU.2.2 d' (by omega)
        omega
    · by_cases e2 : d' = qM ν
      · rw [if_neg e1, if_pos e2] at e
        have := hU.2.2 d (by omega)
        omega
      · rw [if_neg e1, if_neg e2] at e
        exact h7.2.2.1 d d' (by omega) (by omega) e
  · rw [q2] at hd
    by_cases e : d = qM ν
    · subst e; exact Or.inr n57
    · rw [o 57 (by decide) d e]; exact h7.2.2.2 d (by omega)
set_option maxRecDepth 100000 in
set_option maxHeartbeats 4000000 in
theorem c_cable_full {k a b : Nat} {ρ ν μ : xM} {φ κ : Nat → Nat} {B : Nat × Nat × Nat × (Nat → Prop)} {Q : Option Value → xM → Prop} (hR : Rel ρ ν μ φ κ B) (hk : k < 4) (ha : a < 16) (hb : b < 16) (h24 : qM ν = 24) (hq : ∀ μ1, Rel ρ (ν) μ1 φ κ B → Q (some (.int (-2))) μ1) : Mt kX4_cable [.ref 1, .int (nI k), .int (nI a), .int (nI b)] μ Q := by
  have hB := hR.2.1
  refine Mt.enter rfl (Nat.le_of_ble_eq_true rfl) ?_
  refine X.aload_n dX4_cable_0 rfl ?_
  refine X.iload_n dX4_cable_1 rfl ?_
  refine X.cV1a (k' := kX4_channelAt) dX4_cable_2 (hB.1 1 (by decide) (by decide)) ⟨by decide, rfl⟩ v_X4_channelAt wm_X4_59 wi_X4_channelAt ws_X4_channelAt ⟨Nat.le_of_ble_eq_true rfl, Nat.le_of_ble_eq_true rfl⟩ n_X4_channelAt (Nat.le_of_ble_eq_true rfl) ?_
  refine x_channelAt hB ha ?_
  refine ⟨_, rfl, ?_⟩
  refine X.astore dX4_cable_5 (Nat.le_of_ble_eq_true rfl) ?_
  refine X.aload_n dX4_cable_7 rfl ?_
  refine X.iload_n dX4_cable_8 rfl ?_
  refine X.cV1a (k' := kX4_channelAt) dX4_cable_9 (hB.1 1 (by decide) (by decide)) ⟨by decide, rfl⟩ v_X4_channelAt wm_X4_59 wi_X4_channelAt ws_X4_channelAt ⟨Nat.le_of_ble_eq_true rfl, Nat.le_of_ble_eq_true rfl⟩ n_X4_channelAt (Nat.le_of_ble_eq_true rfl) ?_
  refine x_channelAt hB hb ?_
  refine ⟨_, rfl, ?_⟩
  refine X.astore dX4_cable_12 (Nat.le_of_ble_eq_true rfl) ?_
  refine X.iload_n dX4_cable_14 rfl ?_
  refine X.if_lt_f (tgt := 33) dX4_cable_15 (by decide) (nI_pos (by omega)) ?_
  refine X.iload_n dX4_cable_18 rfl ?_
  refine X.iconst (v := 3) dX4_cable_19 (by decide) ?_
  refine X.icmp_gt_f (tgt := 33) dX4_cable_20 (by decide) ((fun q => absurd q (Int32.not_lt.mpr (nI_le (b := 3) (by omega) (by decide))))) ?_
  refine X.aload dX4_cable_23 rfl ?_
  refine X.ifnull_r dX4_cable_25 ?_
  refine X.aload dX4_cable_28 rfl ?_
  refine X.ifnonnull_r (tgt := 35) dX4_cable_30 (by decide) ?_
  refine X.aload_n dX4_cable_35 rfl ?_
  refine X.getI (kf := 2) dX4_cable_36 (hB.1 1 (by decide) (by decide)) (by decide) (by decide) rfl wf_X4_21 ?_
  refine X.bipush (v := 24) dX4_cable_39 (by decide) ?_
  refine X.icmp_lt_f (tgt := 47) dX4_cable_41 (by decide) ((by rw [hR.2.2.2.1.1.1, hR.wc.1.1, h24]; decide)) ?_
  refine X.bipush (v := -2) dX4_cable_44 (by decide) ?_
  refine X.ret dX4_cable_46 ⟨trivial, ?_⟩
  exact hq _ hR
theorem cab_made {ρ ν μ : xM} {φ κ : Nat → Nat} {B : Nat × Nat × Nat × (Nat → Prop)} (hR : Rel ρ ν μ φ κ B) (h24 : ¬ qM ν = 24) {k a b : Nat} (hk : k < 4) (ha : a < 16) (hb : b < 16) : mT (cabP (sNew μ 0 0 (xnf 0)) (mN μ) (nI (qM ν)) (nI k) (28 + a) (28 + b)) (mN μ) = (0, 0) ∧ Rel ρ (cabNewM ν k a b) (sI (sR (cabP (sNew μ 0 0 (xnf 0)) (mN μ) (nI (qM ν)) (nI k) (28 + a) (28 + b)) 3 (qM ν) (some (mN μ))) 1 2 (mI (cabP (sNew μ 0 0 (xnf 0)) (mN μ) (nI (qM ν)) (nI k) (28 + a) (28 + b)) 1 2 + 1)) φ (phN κ (qM ν) (mN μ)) (B.1, B.2.1 + 1, B.2.2.1 + 9, B.2.2.2) ∧ ShP (cabP (sNew μ 0 0 (xnf 0)) (mN μ) (nI (qM ν)) (nI k) (28 + a) (28 + b)) ∧ mI (cabP (sNew μ 0 0 (xnf 0)) (mN μ) (nI (qM ν)) (nI k) (28 + a) (28 + b)) 1 2 = nI (qM ν) := by
  have hU := hR.und
  have h8 := hR.2.2.2.2.2.2.2
  have e12 : mI μ 1 2 = nI (qM ν) := by rw [hR.2.2.2.1.1.1, hR.wc.1.1]
  have hTa : mT (cabP (sNew μ 0 0 (xnf 0)) (mN μ) (nI (qM ν)) (nI k) (28 + a) (28 + b)) (mN μ) = (0, 0) := by rw [cabP_T.1]; exact xT_new _ _ _ _
  have hN : mN (cabP (sNew μ 0 0 (xnf 0)) (mN μ) (nI (qM ν)) (nI k) (28 + a) (28 + b)) = mN μ + 1 := by rw [cabP_T.2.2.1, mN_sNew]
  have hS : mS (cabP (sNew μ 0 0 (xnf 0)) (mN μ) (nI (qM ν)) (nI k) (28 + a) (28 + b)) = mS μ + 9 := by rw [cabP_T.2.2.2, mS_sNew]; rfl
  have hf := cabP_f (μ := sNew μ 0 0 (xnf 0)) (a := mN μ) (q := nI (qM ν)) (k := nI k) (f := 28 + a) (t := 28 + b)
  have e1 : ∀ y, y < mN μ → mT (cabP (sNew μ 0 0 (xnf 0)) (mN μ) (nI (qM ν)) (nI k) (28 + a) (28 + b)) y = mT μ y ∧ mI (cabP (sNew μ 0 0 (xnf 0)) (mN μ) (nI (qM ν)) (nI k) (28 + a) (28 + b)) y = mI μ y ∧ mJ (cabP (sNew μ 0 0 (xnf 0)) (mN μ) (nI (qM ν)) (nI k) (28 + a) (28 + b)) y = mJ μ y ∧ mR (cabP (sNew μ 0 0 (xnf 0)) (mN μ) (nI (qM ν)) (nI k) (28 + a) (28 + b)) y = mR μ y := by
    intro y hy
    obtain ⟨o1, o2, o3, o4⟩ := cabP_old (μ := sNew μ 0 0 (xnf 0)) (a := mN μ) (q := nI (qM ν)) (k := nI k) (f := 28 + a) (t := 28 + b) (b := y) (by omega)
    rw [o1, o2, o3, o4]
    refine ⟨if_neg (by omega), ?_, ?_, ?_⟩
    · funext j; exact if_neg (by omega)
    · funext j; exact if_neg (by omega)
    · funext j; exact if_neg (by omega)
  revert hTa hN hS hf e1
  generalize (cabP (sNew μ 0 0 (xnf 0)) (mN μ) (nI (qM ν)) (nI k) (28 + a) (28 + b)) = μ5
  intro hTa hN hS hf e1
  have hR2 : Rel ρ ν μ5 φ κ (B.1, B.2.1 + 1, B.2.2.1 + 9, B.2.2.2) := hR.ext hU e1 (by omega) (by omega) (by omega)
  exact ⟨hTa, hR2.cabled h24 hk ha hb hU (by omega) hTa hf, hR2.2.1, by rw [(e1 1 (by have := hU.1; omega)).2.1]; exact e12⟩
set_option maxRecDepth 100000 in
set_option maxHeartbeats 4000000 in
theorem cab_tail {μ5 : xM} {a0 q a b : Nat} {Q : Option Value → xM → Prop} (hTa : mT μ5 a0 = (0, 0)) (hB : ShP μ5) (eq2 : mI μ5 1 2 = nI q) (hq24 : q < 24) (hq : Q (some (.int (nI q))) (sI (sR μ5 3 q (some a0)) 1 2 (mI μ5 1 2 + 1))) : X kX4_cable none 71 (xl [(0, .ref 1), (4, .ref (28 + a)), (5, .ref (28 + b))]) [.ref a0, .int (nI q), .ref 3] μ5 (fun r μ1 => xrok kX4_cable.2.2.2.1 r ∧ Q r μ1) := by
  have hB1 := hB.1 1 (by decide) (by decide)
  refine X.aast dX4_cable_71 ((hB.1 3 (by decide) (by decide))) (by decide) (hTa) (rfl) (hq24) (by omega) ?_
  refine X.aload_n dX4_cable_72 rfl ?_
  refine X.dup dX4_cable_73 ?_
  refine X.getI (kf := 2) dX4_cable_74 (hB1) (by decide) (by decide) rfl wf_X4_21 ?_
  refine X.iconst (v := 1) dX4_cable_77 (by decide) ?_
  refine X.iadd dX4_cable_78 ?_
  refine X.putI (kf := 2) dX4_cable_79 (hB1) (by decide) (by decide) rfl (Or.inl rfl) ⟨rfl, rfl⟩ wf_X4_21 ?_
  refine X.aload_n dX4_cable_82 rfl ?_
  refine X.getI (kf := 2) dX4_cable_83 (hB1) (by decide) (by decide) rfl wf_X4_21 ?_
  refine X.iconst (v := 1) dX4_cable_86 (by decide) ?_
  refine X.isub dX4_cable_87 ?_
  refine X.ret dX4_cable_88 ⟨trivial, ?_⟩
  rw [show mI (sI (sR μ5 3 q (some a0)) 1 2 (mI (sR μ5 3 q (some a0)) 1 2 + 1)) 1 2 - 1 = nI q by
      rw [mI_s]
      show mI μ5 1 2 + 1 - 1 = _
      rw [eq2, nI_1]
      exact nI_pred _]
  exact hq
set_option maxRecDepth 100000 in
set_option maxHeartbeats 4000000 in
theorem c_cable_in {k a b : Nat} {ρ ν μ : xM} {φ κ : Nat → Nat} {B : Nat × Nat × Nat × (Nat → Prop)} {Q : Option Value → xM → Prop} (hR : Rel ρ ν μ φ κ B) (hk : k < 4) (ha : a < 16) (hb : b < 16) (h24 : ¬ qM ν = 24) (hq : ∀ μ1 κ1, Rel ρ (cabNewM ν k a b) μ1 φ κ1 (B.1, B.2.1 + 1, B.2.2.1 + 9, B.2.2.2) → Q (some (.int (nI (qM ν)))) μ1) : Mt kX4_cable [.ref 1, .int (nI k), .int (nI a), .int (nI b)] μ Q := by
  have hB := hR.2.1
  have hB1 := hB.1 1 (by decide) (by decide)
  have hU := hR.und
  have h8 := hR.2.2.2.2.2.2.2
  have hq24 : qM ν < 24 := by have := hR.q24; omega
  have e12 : mI μ 1 2 = nI (qM ν) := by rw [hR.2.2.2.1.1.1, hR.wc.1.1]
  have hm := cab_made hR h24 hk ha hb
  have en : mI (sNew μ 0 0 (xnf 0)) 1 2 = nI (qM ν) := by
    show (if 1 = mN μ then (0 : Int32) else mI μ 1 2) = _
    rw [if_neg (by have := hU.1; omega)]
    exact e12
  refine Mt.enter rfl (Nat.le_of_ble_eq_true rfl) ?_
  refine X.aload_n dX4_cable_0 rfl ?_
  refine X.iload_n dX4_cable_1 rfl ?_
  refine X.cV1a (k' := kX4_channelAt) dX4_cable_2 (hB1) ⟨by decide, rfl⟩ v_X4_channelAt wm_X4_59 wi_X4_channelAt ws_X4_channelAt ⟨Nat.le_of_ble_eq_true rfl, Nat.le_of_ble_eq_true rfl⟩ n_X4_channelAt (Nat.le_of_ble_eq_true rfl) ?_
  refine x_channelAt hB ha ?_
  refine ⟨_, rfl, ?_⟩
  refine X.astore dX4_cable_5 (Nat.le_of_ble_eq_true rfl) ?_
  refine X.aload_n dX4_cable_7 rfl ?_
  refine X.iload_n dX4_cable_8 rfl ?_
  refine X.cV1a (k' := kX4_channelAt) dX4_cable_9 (hB1) ⟨by decide, rfl⟩ v_X4_channelAt wm_X4_59 wi_X4_channelAt ws_X4_channelAt ⟨Nat.le_of_ble_eq_true rfl, Nat.le_of_ble_eq_true rfl⟩ n_X4_channelAt (Nat.le_of_ble_eq_true rfl) ?_
  refine x_channelAt hB hb ?_
  refine ⟨_, rfl, ?_⟩
  refine X.astore dX4_cable_12 (Nat.le_of_ble_eq_true rfl) ?_
  refine X.iload_n dX4_cable_14 rfl ?_
  refine X.if_lt_f (tgt := 33) dX4_cable_15 (by decide) (nI_pos (by omega)) ?_
  refine X.iload_n dX4_cable_18 rfl ?_
  refine X.iconst (v := 3) dX4_cable_19 (by decide) ?_
  refine X.icmp_gt_f (tgt := 33) dX4_cable_20 (by decide) ((fun q => absurd q (Int32.not_lt.mpr (nI_le (b := 3) (by omega) (by decide))))) ?_
  refine X.aload dX4_cable_23 rfl ?_
  refine X.ifnull_r dX4_cable_25 ?_
  refine X.aload dX4_cable_28 rfl ?_
  refine X.ifnonnull_r (tgt := 35) dX4_cable_30 (by decide) ?_
  refine X.aload_n dX4_cable_35 rfl ?_
  refine X.getI (kf := 2) dX4_cable_36 (hB1) (by decide) (by decide) rfl wf_X4_21 ?_
  refine X.bipush (v := 24) dX4_cable_39 (by decide) ?_
  refine X.icmp_lt_t (tgt := 47) dX4_cable_41 (by decide) ((by rw [e12]; exact nI_lt (b := 24) (by omega) (by decide))) ?_
  refine X.aload_n dX4_cable_47 rfl ?_
  refine X.getR (b := 3) (kf := 1) dX4_cable_48 (hB1) (by decide) (by decide) rfl wf_X4_17 (hB.2.1 1 (by decide)) ?_
  refine X.aload_n dX4_cable_51 rfl ?_
  refine X.getI (kf := 2) dX4_cable_52 (hB1) (by decide) (by decide) rfl wf_X4_21 ?_
  refine X.new (c := 0) dX4_cable_55 (by decide) wc_X4_15 wins_RX0 wini_RX0 ?_
  refine X.dup dX4_cable_58 ?_
  refine X.aload_n dX4_cable_59 rfl ?_
  have hB1 : mT (sNew μ 0 0 (xnf 0)) 1 = (4, 0) := sh_new (hB.1 1 (by decide) (by decide)) (by have := hU.1; omega)
  refine X.getI (kf := 2) dX4_cable_60 (hB1) (by decide) (by decide) rfl wf_X4_21 ?_
  refine X.iload_n dX4_cable_63 rfl ?_
  refine X.aload dX4_cable_64 rfl ?_
  refine X.aload dX4_cable_66 rfl ?_
  refine X.cI4v (k' := kX0_init) dX4_cable_68 ⟨rfl, rfl⟩ v_X0_init wm_X4_148 wi_X0_init ⟨Nat.le_of_ble_eq_true rfl, Nat.le_of_ble_eq_true rfl⟩ n_X0_init (Nat.le_of_ble_eq_true rfl) ?_
  rw [show mI (sNew μ 0 0 (xnf 0)) 1 2 = nI (qM ν) from en, e12]
  refine x_cableInit (xT_new _ _ _ _) ?_
  refine ⟨rfl, ?_⟩
  exact X.at [(0, .ref 1), (4, .ref (28 + a)), (5, .ref (28 + b))] ⟨rfl, rfl, rfl, trivial⟩ (cab_tail hm.1 hm.2.2.1 hm.2.2.2 hq24 (hq _ _ hm.2.1))
