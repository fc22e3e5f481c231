/-! both are made: the start of the law's loop -/
theorem z_cl {x : Int32} (h : x = 0) : x.toNatClampNeg = 0 := by rw [h]; rfl
theorem md_sum : (mdL.map (fun x => x.2.1)).sum = 20123 := by simp [mdL]
theorem md_slots (o : Nat) (m0 : xM) : mS (bldM o m0 mdL) = mS m0 + 20123 := by
  rw [bld_S, md_sum]
theorem GG.start {m0 m : xM} {w ns : Nat} (h : StL m0 16 w) (hM : ShM m) (hI : MdI (bldM 44 (sNew m0 5 0 26) mdL) 16 m) (hs : w + 20245 ≤ ns) : GG 0 66 ns m := by
  obtain ⟨⟨e1, e2⟩, a, b, d, e, f, g⟩ := h
  obtain ⟨⟨iT, iJ, iR, iN', iS⟩, iI, i5⟩ := hI
  have hN1 : mN (sNew m0 5 0 26) = 45 := by rw [mN_sNew, e1]
  have oT : ∀ x, x < 44 → mT m x = mT m0 x := fun x hx => by rw [iT, bld_T 44 _ (by omega) mdL, new_T, if_neg (by omega)]
  have oI : ∀ x, x < 44 → mI m x = mI m0 x := fun x hx => by rw [iI x (by omega) (by omega), (bld_I 44 _ (by omega) mdL).1]; funext j; rw [new_I, if_neg (by omega)]
  have oR : ∀ x, x < 44 → mR m x = mR m0 x := fun x hx => by rw [iR, bld_R 44 _ (by omega) (by omega) mdL]; funext j; rw [new_R, if_neg (by omega)]
  have z : ∀ x, 44 ≤ x → x < 66 → x ≠ 50 → x ≠ 52 → ∀ j, mI m x j = 0 := by
    intro x x1 x2 x3 x4 j
    rw [iI x x3 x4]
    by_cases q : x = 44
    · subst q
      rw [(bld_I 44 _ (by omega) mdL).1, new_I, if_pos (by omega)]
    · obtain ⟨i, rfl⟩ : ∃ i, x = 45 + i := ⟨x - 45, by omega⟩
      have w := ((bld_at 44 (sNew m0 5 0 26) mdL i (show i < 21 by omega)).2 j).1
      rw [hN1] at w
      exact w
  have nt : ∀ c, c < 16 → noTapeM m c = 1 := fun c hc => by unfold noTapeM; rw [if_pos (i5 c hc).1]
  have qz : qM m = 0 := z_cl (z 44 (by decide) (by decide) (by decide) (by decide) 10)
  have gz : gM m = 0 := z_cl (z 44 (by decide) (by decide) (by decide) (by decide) 4)
  have fz : fM m = 0 := z_cl (z 44 (by decide) (by decide) (by decide) (by decide) 20)
  have kd0 : ∀ t, kd m t = 0 := fun t => z_cl (z 45 (by decide) (by decide) (by decide) (by decide) t)
  have sz0 : ∀ t, sz m t = 0 := fun t => z_cl (z 46 (by decide) (by decide) (by decide) (by decide) t)
  have lv : ∀ t, ¬ lvE m (fun _ => False) t := by
    intro t h
    rcases h with ⟨c, hc, h1, -⟩ | ⟨h, -⟩
    · rw [nt c hc] at h1; omega
    · exact h
  have hq : ∀ i, i < 20 → shq (5 + i) = (6, 3) := by decide
  have n0 : (0 : Int32) = nI 0 := rfl
  refine ⟨fun _ => 0, fun _ => 0, ⟨⟨fun _ _ _ => ⟨rfl, rfl⟩, rfl, rfl⟩, ⟨fun x x1 x2 => by rw [oT x (by omega)]; exact a x x1 x2, fun k hk => by rw [oR 1 (by decide)]; exact b k hk, fun c hc => ?_, fun i hi => ?_, by rw [iN', bld_N, hN1]; decide⟩, ?_, ?_, fun c hc => ?_, ?_, ?_, ?_, ?_⟩, hM⟩
  · rw [oT _ (by omega), oR 2 (by decide)]
    exact ⟨(g c hc).1, (g c hc).2.1⟩
  · rw [oT _ (by omega), oR 4 (by decide)]
    exact ⟨(a (5 + i) (by omega) (by omega)).trans (hq i hi), f i hi⟩
  · refine ⟨⟨fun c hc h0 => ?_, fun t ht => ⟨⟨?_, ?_⟩, ?_, ?_⟩, fun t ht h8 => ?_⟩, ⟨⟨?_, ?_⟩, fun k hk => ?_⟩, ⟨?_, ?_⟩, ⟨?_, ?_⟩, fun t ht j hj => ?_⟩
    · rw [nt c hc] at h0; omega
    · rw [kd0]; exact z 45 (by decide) (by decide) (by decide) (by decide) t
    · rw [kd0]; omega
    · rw [sz0]; exact z 46 (by decide) (by decide) (by decide) (by decide) t
    · rw [sz0]; omega
    · rw [kd0] at h8; omega
    · rw [qz]; exact z 44 (by decide) (by decide) (by decide) (by decide) 10
    · rw [qz]; omega
    · rw [qz] at hk; omega
    · rw [gz]; exact z 44 (by decide) (by decide) (by decide) (by decide) 4
    · rw [gz]; omega
    · rw [fz]; exact z 44 (by decide) (by decide) (by decide) (by decide) 20
    · show fM m ≤ 0
      rw [fz]; omega
    · rw [sz0] at hj; omega
  · refine ⟨⟨?_, ?_, ?_, ?_, ?_⟩, fun r r1 r2 => ?_, fun i hi => ⟨?_, ?_, ?_⟩⟩
    · rw [oI 1 (by decide), d 1 _ (by decide), z 44 (by decide) (by decide) (by decide) (by decide)]
    · rw [oI 1 (by decide), d 1 _ (by decide), z 44 (by decide) (by decide) (by decide) (by decide)]
    · rw [oI 1 (by decide), d 1 _ (by decide), z 44 (by decide) (by decide) (by decide) (by decide)]
    · rw [oI 1 (by decide), d 1 _ (by decide), z 44 (by decide) (by decide) (by decide) (by decide)]
    · rw [oI 1 (by decide), d 1 _ (by decide), z 44 (by decide) (by decide) (by decide) (by decide)]
    · rw [oI 25 (by decide), d 25 _ (by decide), z 65 (by decide) (by decide) (by decide) (by decide)]
    · rw [oI (5 + i) (by omega), d (5 + i) _ (by omega), z 62 (by decide) (by decide) (by decide) (by decide)]
    · rw [oI (5 + i) (by omega), d (5 + i) _ (by omega), z 63 (by decide) (by decide) (by decide) (by decide)]
    · rw [oI (5 + i) (by omega), d (5 + i) _ (by omega), z 64 (by decide) (by decide) (by decide) (by decide)]
  · obtain ⟨g1, g2, g3, g4, g5, g6, g7, g8⟩ := g c hc
    unfold CH
    rw [oI (28 + c) (by omega), oR (28 + c) (by omega), nt c hc, (i5 c hc).1, (i5 c hc).2, z 51 (by decide) (by decide) (by decide) (by decide), z 53 (by decide) (by decide) (by decide) (by decide)]
    refine ⟨g3, ?_, ?_, g6, g7, g8⟩
    · rw [if_neg (by decide)]; exact g4
    · rw [if_neg (by decide)]; exact g5
  · exact ⟨fun t h => absurd h (lv t), fun t t' h => absurd h (lv t), fun c hc h0 => by rw [nt c hc] at h0; omega⟩
  · refine ⟨fun k hk => ?_, fun k _ _ => ⟨?_, ?_, ?_, ?_⟩, fun k k' hk => ?_, fun k hk => ?_⟩
    · rw [qz] at hk; omega
    · rw [oR 3 (by decide)]; exact e k
    · exact z 59 (by decide) (by decide) (by decide) (by decide) k
    · exact z 60 (by decide) (by decide) (by decide) (by decide) k
    · exact z 61 (by decide) (by decide) (by decide) (by decide) k
    · rw [qz] at hk; omega
    · rw [qz] at hk; omega
  · show mN m ≤ 66
    rw [iN', bld_N, hN1]; decide
  · show mS m ≤ ns
    have e3 := md_slots (o := 44) (sNew m0 5 0 26)
    rw [← iS, mS_sNew, e2] at e3
    clear iS
    omega
/-- nothing is made -/
def x0 : xM := (fun _ => (13, 0), fun _ _ => 0, fun _ _ => 0, fun _ _ => none, 1, 0)
theorem Stg.zero : Stg (sNew x0 4 0 11) 2 11 := by
  have eN : mN x0 = 1 := rfl
  refine ⟨⟨rfl, rfl⟩, fun x x1 x2 _ => ?_, fun k b hb hb' => ?_, fun k _ => ?_, fun x j _ => ?_, fun j => ?_, fun h => absurd h (by decide)⟩
  · obtain rfl : x = 1 := by omega
    rfl
  · have w : ∀ k, k < 11 → (pfld k).all (fun b => decide (2 ≤ b)) = true := by decide
    by_cases q : k < 11
    · have := w k q
      rw [hb] at this
      have := of_decide_eq_true this
      omega
    · rw [pfld_ge k (by omega)] at hb; cases hb
  · rfl
  · rw [new_I]
    split
    · rfl
    · rfl
  · rw [new_R]
    split
    · rfl
    · rfl
set_option maxRecDepth 100000 in
set_option maxHeartbeats 4000000 in
theorem law_init {sc : xsc} {Q : Option Value → xM → Prop} (K : ∀ m, GG 0 66 20484 m → X kL_law sc 18 (xl [(0, .ref 0), (1, .ref 1), (2, .ref 44), (3, .int (nI 0))]) [] m Q) : X kL_law sc 0 (xl [(0, .ref 0)]) [] x0 Q := by
  refine X.new (c := 4) dL_law_0 (by decide) wc_L_7 wins_RX4 wini_RX4 ?_
  rw [show mN x0 = 1 from rfl]
  refine X.dup dL_law_3 ?_
  refine X.cI0v (k' := kX4_init) dL_law_4 ⟨rfl, rfl⟩ v_X4_init wm_L_9 wi_X4_init ⟨Nat.le_of_ble_eq_true rfl, Nat.le_of_ble_eq_true rfl⟩ n_X4_init (Nat.le_of_ble_eq_true rfl) ?_
  refine x_bayInit Stg.zero (fun m0 h => ⟨rfl, ?_⟩)
  refine X.astore_n dL_law_7 (Nat.le_of_ble_eq_true rfl) ?_
  refine X.new (c := 5) dL_law_8 (by decide) wc_L_10 wins_RX5 wini_RX5 ?_
  rw [show mN m0 = 44 from h.1.1]
  refine X.dup dL_law_11 ?_
  refine X.cI0v (k' := kX5_init) dL_law_12 ⟨rfl, rfl⟩ v_X5_init wm_L_12 wi_X5_init ⟨Nat.le_of_ble_eq_true rfl, Nat.le_of_ble_eq_true rfl⟩ n_X5_init (Nat.le_of_ble_eq_true rfl) ?_
  refine x_modelInit (by rw [new_T, if_pos h.1.1.symm]) (by rw [mN_sNew, h.1.1]) (fun k => by rw [new_R, if_pos h.1.1.symm]) (fun m hM hI => ⟨rfl, ?_⟩)
  refine X.astore_n dL_law_15 (Nat.le_of_ble_eq_true rfl) ?_
  refine X.iconst (v := 0) dL_law_16 (by decide) ?_
  refine X.istore_n dL_law_17 (Nat.le_of_ble_eq_true rfl) ?_
  exact X.at [(0, .ref 0), (1, .ref 1), (2, .ref 44), (3, .int (nI 0))] ⟨rfl, rfl, rfl, rfl, trivial⟩ (K m (GG.start h hM hI (by decide)))
