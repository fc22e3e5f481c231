/-! the reference is made (laid by wip/whole/mkpb15.py) -/
theorem bld_at (o : Nat) (m0 : xM) : ∀ (l : List (Nat × Nat × Nat)) (i : Nat), i < l.length → (∀ x, l[l.length - 1 - i]? = some x → mT (bldM o m0 l) (mN m0 + i) = (x.1, x.2.1)) ∧ ∀ j, mI (bldM o m0 l) (mN m0 + i) j = 0 ∧ mJ (bldM o m0 l) (mN m0 + i) j = 0
  | [], i, h => absurd h (Nat.not_lt_zero i)
  | y :: l, i, h => by
    rw [List.length_cons] at h
    have hN := bld_N o m0 l
    unfold bldM
    rw [mT_sR, mT_sNew, mI_sR, mI_sNew, mJ_sR, mJ_sNew]
    by_cases e : i = l.length
    · subst e
      refine ⟨fun x hx => ?_, fun j => ⟨?_, ?_⟩⟩
      · rw [List.length_cons, show l.length + 1 - 1 - l.length = 0 by omega] at hx
        cases hx
        exact if_pos hN.symm
      · exact if_pos hN.symm
      · exact if_pos hN.symm
    · have w := bld_at o m0 l i (by omega)
      have hn : ¬ mN m0 + i = mN (bldM o m0 l) := by omega
      refine ⟨fun x hx => ?_, fun j => ⟨?_, ?_⟩⟩
      · rw [List.length_cons, show l.length + 1 - 1 - i = (l.length - 1 - i) + 1 by omega, List.getElem?_cons_succ] at hx
        rw [← w.1 x hx]
        exact if_neg hn
      · rw [← (w.2 j).1]; exact if_neg hn
      · rw [← (w.2 j).2]; exact if_neg hn
theorem bld_fld (o : Nat) (m0 : xM) (ho : o < mN m0) : ∀ (l : List (Nat × Nat × Nat)) (i : Nat) (x : Nat × Nat × Nat), (l.map (fun x => x.2.2)).Nodup → l[l.length - 1 - i]? = some x → i < l.length → mR (bldM o m0 l) o x.2.2 = some (mN m0 + i)
  | [], i, x, _, _, h => absurd h (Nat.not_lt_zero i)
  | y :: l, i, x, hd, hx, h => by
    rw [List.length_cons] at h
    have hN := bld_N o m0 l
    rw [List.map_cons, List.nodup_cons] at hd
    unfold bldM
    by_cases e : i = l.length
    · subst e
      rw [List.length_cons, show l.length + 1 - 1 - l.length = 0 by omega] at hx
      cases hx
      rw [mR_s, hN]
    · rw [List.length_cons, show l.length + 1 - 1 - i = (l.length - 1 - i) + 1 by omega, List.getElem?_cons_succ] at hx
      have hne : x.2.2 ≠ y.2.2 := fun q => hd.1 (q ▸ List.mem_map.mpr ⟨x, List.mem_of_getElem? hx, rfl⟩)
      rw [mR_k hne, mR_sNew]
      rw [← bld_fld o m0 ho l i x hd.2 hx (by omega)]
      exact if_neg (by omega)
theorem bld_none (o : Nat) (m0 : xM) (ho : o < mN m0) (k : Nat) : ∀ (l : List (Nat × Nat × Nat)), (∀ x ∈ l, x.2.2 ≠ k) → mR (bldM o m0 l) o k = mR m0 o k
  | [], _ => rfl
  | y :: l, h => by
    have hN := bld_N o m0 l
    unfold bldM
    rw [mR_k (fun q => h y List.mem_cons_self q.symm), mR_sNew]
    rw [← bld_none o m0 ho k l (fun x hx => h x (List.mem_cons_of_mem _ hx))]
    exact if_neg (by omega)
def mdL : List (Nat × Nat × Nat) := [(6, 6, 24), (6, 20, 23), (6, 20, 22), (6, 20, 21), (6, 24, 18), (6, 24, 17), (6, 24, 16), (6, 24, 15), (8, 24, 14), (6, 24, 13), (6, 24, 12), (6, 24, 11), (8, 16, 9), (6, 16, 8), (6, 16, 7), (6, 16, 6), (8, 201, 5), (7, 17920, 3), (8, 560, 2), (6, 560, 1), (6, 560, 0)]
set_option maxRecDepth 100000 in
set_option maxHeartbeats 4000000 in
theorem md1 {μ : xM} {Q : Option Value → xM → Prop} (hT0 : mT μ 44 = (5, 0)) (hN : mN μ = 45) (K : X kX5_init none 177 (xl [(0, .ref 44)]) [] (bldM 44 μ mdL) (fun r μ1 => xrok kX5_init.2.2.2.1 r ∧ Q r μ1)) : Mt kX5_init [.ref 44] μ Q := by
  have hT := hT0
  refine Mt.enter rfl (Nat.le_of_ble_eq_true rfl) ?_
  refine X.aload_n dX5_init_0 rfl ?_
  refine X.objInit dX5_init_1 wm_X5_1 wi_obj w_objc ⟨Nat.le_of_ble_eq_true rfl, Nat.le_of_ble_eq_true rfl⟩ ?_
  refine X.aload_n dX5_init_4 rfl ?_
  refine X.sipush (v := 560) dX5_init_5 (by decide) ?_
  refine X.newI (n := 560) dX5_init_8 wa_int (rfl) (by decide) ?_
  have hTn := sh_new (c := 6) (n := 560) (w := 560) hT (by first | (rw [bld_N, hN]; decide) | omega)
  have hTo := hT
  have hT := hTn
  refine X.putR (kf := 0) dX5_init_10 (hT) (by decide) (by decide) rfl (Or.inr ⟨rfl, rfl, rfl⟩) (fun _ => ⟨rfl, rfl⟩) wf_X5_7 ?_
  change X _ _ _ _ _ (bldM 44 μ [(6, 560, 0)]) _
  have hT := (bld_T 44 μ (show 44 < mN μ by omega) [(6, 560, 0)]).trans hT0
  refine X.aload_n dX5_init_13 rfl ?_
  refine X.sipush (v := 560) dX5_init_14 (by decide) ?_
  refine X.newI (n := 560) dX5_init_17 wa_int (rfl) (by decide) ?_
  have hTn := sh_new (c := 6) (n := 560) (w := 560) hT (by first | (rw [bld_N, hN]; decide) | omega)
  have hTo := hT
  have hT := hTn
  refine X.putR (kf := 1) dX5_init_19 (hT) (by decide) (by decide) rfl (Or.inr ⟨rfl, rfl, rfl⟩) (fun _ => ⟨rfl, rfl⟩) wf_X5_13 ?_
  change X _ _ _ _ _ (bldM 44 μ [(6, 560, 1), (6, 560, 0)]) _
  have hT := (bld_T 44 μ (show 44 < mN μ by omega) [(6, 560, 1), (6, 560, 0)]).trans hT0
  refine X.aload_n dX5_init_22 rfl ?_
  refine X.sipush (v := 560) dX5_init_23 (by decide) ?_
  refine X.newZ (n := 560) dX5_init_26 wa_boolean (rfl) (by decide) ?_
  have hTn := sh_new (c := 8) (n := 560) (w := 560) hT (by first | (rw [bld_N, hN]; decide) | omega)
  have hTo := hT
  have hT := hTn
  refine X.putR (kf := 2) dX5_init_28 (hT) (by decide) (by decide) rfl (Or.inr ⟨rfl, rfl, rfl⟩) (fun _ => ⟨rfl, rfl⟩) wf_X5_16 ?_
  change X _ _ _ _ _ (bldM 44 μ [(8, 560, 2), (6, 560, 1), (6, 560, 0)]) _
  have hT := (bld_T 44 μ (show 44 < mN μ by omega) [(8, 560, 2), (6, 560, 1), (6, 560, 0)]).trans hT0
  refine X.aload_n dX5_init_31 rfl ?_
  refine X.sipush (v := 17920) dX5_init_32 (by decide) ?_
  refine X.newJ (n := 17920) dX5_init_35 wa_long (rfl) (by decide) ?_
  have hTn := sh_new (c := 7) (n := 17920) (w := 17920) hT (by first | (rw [bld_N, hN]; decide) | omega)
  have hTo := hT
  have hT := hTn
  refine X.putR (kf := 3) dX5_init_37 (hT) (by decide) (by decide) rfl (Or.inr ⟨rfl, rfl, rfl⟩) (fun _ => ⟨rfl, rfl⟩) wf_X5_20 ?_
  change X _ _ _ _ _ (bldM 44 μ [(7, 17920, 3), (8, 560, 2), (6, 560, 1), (6, 560, 0)]) _
  have hT := (bld_T 44 μ (show 44 < mN μ by omega) [(7, 17920, 3), (8, 560, 2), (6, 560, 1), (6, 560, 0)]).trans hT0
  refine X.aload_n dX5_init_40 rfl ?_
  refine X.sipush (v := 201) dX5_init_41 (by decide) ?_
  refine X.newZ (n := 201) dX5_init_44 wa_boolean (rfl) (by decide) ?_
  have hTn := sh_new (c := 8) (n := 201) (w := 201) hT (by first | (rw [bld_N, hN]; decide) | omega)
  have hTo := hT
  have hT := hTn
  refine X.putR (kf := 5) dX5_init_46 (hT) (by decide) (by decide) rfl (Or.inr ⟨rfl, rfl, rfl⟩) (fun _ => ⟨rfl, rfl⟩) wf_X5_24 ?_
  change X _ _ _ _ _ (bldM 44 μ [(8, 201, 5), (7, 17920, 3), (8, 560, 2), (6, 560, 1), (6, 560, 0)]) _
  have hT := (bld_T 44 μ (show 44 < mN μ by omega) [(8, 201, 5), (7, 17920, 3), (8, 560, 2), (6, 560, 1), (6, 560, 0)]).trans hT0
  refine X.aload_n dX5_init_49 rfl ?_
  refine X.bipush (v := 16) dX5_init_50 (by decide) ?_
  refine X.newI (n := 16) dX5_init_52 wa_int (rfl) (by decide) ?_
  have hTn := sh_new (c := 6) (n := 16) (w := 16) hT (by first | (rw [bld_N, hN]; decide) | omega)
  have hTo := hT
  have hT := hTn
  refine X.putR (kf := 6) dX5_init_54 (hT) (by decide) (by decide) rfl (Or.inr ⟨rfl, rfl, rfl⟩) (fun _ => ⟨rfl, rfl⟩) wf_X5_27 ?_
  change X _ _ _ _ _ (bldM 44 μ [(6, 16, 6), (8, 201, 5), (7, 17920, 3), (8, 560, 2), (6, 560, 1), (6, 560, 0)]) _
  have hT := (bld_T 44 μ (show 44 < mN μ by omega) [(6, 16, 6), (8, 201, 5), (7, 17920, 3), (8, 560, 2), (6, 560, 1), (6, 560, 0)]).trans hT0
  refine X.aload_n dX5_init_57 rfl ?_
  refine X.bipush (v := 16) dX5_init_58 (by decide) ?_
  refine X.newI (n := 16) dX5_init_60 wa_int (rfl) (by decide) ?_
  have hTn := sh_new (c := 6) (n := 16) (w := 16) hT (by first | (rw [bld_N, hN]; decide) | omega)
  have hTo := hT
  have hT := hTn
  refine X.putR (kf := 7) dX5_init_62 (hT) (by decide) (by decide) rfl (Or.inr ⟨rfl, rfl, rfl⟩) (fun _ => ⟨rfl, rfl⟩) wf_X5_30 ?_
  change X _ _ _ _ _ (bldM 44 μ [(6, 16, 7), (6, 16, 6), (8, 201, 5), (7, 17920, 3), (8, 560, 2), (6, 560, 1), (6, 560, 0)]) _
  have hT := (bld_T 44 μ (show 44 < mN μ by omega) [(6, 16, 7), (6, 16, 6), (8, 201, 5), (7, 17920, 3), (8, 560, 2), (6, 560, 1), (6, 560, 0)]).trans hT0
  refine X.aload_n dX5_init_65 rfl ?_
  refine X.bipush (v := 16) dX5_init_66 (by decide) ?_
  refine X.newI (n := 16) dX5_init_68 wa_int (rfl) (by decide) ?_
  have hTn := sh_new (c := 6) (n := 16) (w := 16) hT (by first | (rw [bld_N, hN]; decide) | omega)
  have hTo := hT
  have hT := hTn
  refine X.putR (kf := 8) dX5_init_70 (hT) (by decide) (by decide) rfl (Or.inr ⟨rfl, rfl, rfl⟩) (fun _ => ⟨rfl, rfl⟩) wf_X5_33 ?_
  change X _ _ _ _ _ (bldM 44 μ [(6, 16, 8), (6, 16, 7), (6, 16, 6), (8, 201, 5), (7, 17920, 3), (8, 560, 2), (6, 560, 1), (6, 560, 0)]) _
  have hT := (bld_T 44 μ (show 44 < mN μ by omega) [(6, 16, 8), (6, 16, 7), (6, 16, 6), (8, 201, 5), (7, 17920, 3), (8, 560, 2), (6, 560, 1), (6, 560, 0)]).trans hT0
  refine X.aload_n dX5_init_73 rfl ?_
  refine X.bipush (v := 16) dX5_init_74 (by decide) ?_
  refine X.newZ (n := 16) dX5_init_76 wa_boolean (rfl) (by decide) ?_
  have hTn := sh_new (c := 8) (n := 16) (w := 16) hT (by first | (rw [bld_N, hN]; decide) | omega)
  have hTo := hT
  have hT := hTn
  refine X.putR (kf := 9) dX5_init_78 (hT) (by decide) (by decide) rfl (Or.inr ⟨rfl, rfl, rfl⟩) (fun _ => ⟨rfl, rfl⟩) wf_X5_36 ?_
  change X _ _ _ _ _ (bldM 44 μ [(8, 16, 9), (6, 16, 8), (6, 16, 7), (6, 16, 6), (8, 201, 5), (7, 17920, 3), (8, 560, 2), (6, 560, 1), (6, 560, 0)]) _
  have hT := (bld_T 44 μ (show 44 < mN μ by omega) [(8, 16, 9), (6, 16, 8), (6, 16, 7), (6, 16, 6), (8, 201, 5), (7, 17920, 3), (8, 560, 2), (6, 560, 1), (6, 560, 0)]).trans hT0
  refine X.aload_n dX5_init_81 rfl ?_
  refine X.bipush (v := 24) dX5_init_82 (by decide) ?_
  refine X.newI (n := 24) dX5_init_84 wa_int (rfl) (by decide) ?_
  have hTn := sh_new (c := 6) (n := 24) (w := 24) hT (by first | (rw [bld_N, hN]; decide) | omega)
  have hTo := hT
  have hT := hTn
  refine X.putR (kf := 11) dX5_init_86 (hT) (by decide) (by decide) rfl (Or.inr ⟨rfl, rfl, rfl⟩) (fun _ => ⟨rfl, rfl⟩) wf_X5_39 ?_
  change X _ _ _ _ _ (bldM 44 μ [(6, 24, 11), (8, 16, 9), (6, 16, 8), (6, 16, 7), (6, 16, 6), (8, 201, 5), (7, 17920, 3), (8, 560, 2), (6, 560, 1), (6, 560, 0)]) _
  have hT := (bld_T 44 μ (show 44 < mN μ by omega) [(6, 24, 11), (8, 16, 9), (6, 16, 8), (6, 16, 7), (6, 16, 6), (8, 201, 5), (7, 17920, 3), (8, 560, 2), (6, 560, 1), (6, 560, 0)]).trans hT0
  refine X.aload_n dX5_init_89 rfl ?_
  refine X.bipush (v := 24) dX5_init_90 (by decide) ?_
  refine X.newI (n := 24) dX5_init_92 wa_int (rfl) (by decide) ?_
  have hTn := sh_new (c := 6) (n := 24) (w := 24) hT (by first | (rw [bld_N, hN]; decide) | omega)
  have hTo := hT
  have hT := hTn
  refine X.putR (kf := 12) dX5_init_94 (hT) (by decide) (by decide) rfl (Or.inr ⟨rfl, rfl, rfl⟩) (fun _ => ⟨rfl, rfl⟩) wf_X5_42 ?_
  change X _ _ _ _ _ (bldM 44 μ [(6, 24, 12), (6, 24, 11), (8, 16, 9), (6, 16, 8), (6, 16, 7), (6, 16, 6), (8, 201, 5), (7, 17920, 3), (8, 560, 2), (6, 560, 1), (6, 560, 0)]) _
  have hT := (bld_T 44 μ (show 44 < mN μ by omega) [(6, 24, 12), (6, 24, 11), (8, 16, 9), (6, 16, 8), (6, 16, 7), (6, 16, 6), (8, 201, 5), (7, 17920, 3), (8, 560, 2), (6, 560, 1), (6, 560, 0)]).trans hT0
  refine X.aload_n dX5_init_97 rfl ?_
  refine X.bipush (v := 24) dX5_init_98 (by decide) ?_
  refine X.newI (n := 24) dX5_init_100 wa_int (rfl) (by decide) ?_
  have hTn := sh_new (c := 6) (n := 24) (w := 24) hT (by first | (rw [bld_N, hN]; decide) | omega)
  have hTo := hT
  have hT := hTn
  refine X.putR (kf := 13) dX5_init_102 (hT) (by decide) (by decide) rfl (Or.inr ⟨rfl, rfl, rfl⟩) (fun _ => ⟨rfl, rfl⟩) wf_X5_45 ?_
  change X _ _ _ _ _ (bldM 44 μ [(6, 24, 13), (6, 24, 12), (6, 24, 11), (8, 16, 9), (6, 16, 8), (6, 16, 7), (6, 16, 6), (8, 201, 5), (7, 17920, 3), (8, 560, 2), (6, 560, 1), (6, 560, 0)]) _
  have hT := (bld_T 44 μ (show 44 < mN μ by omega) [(6, 24, 13), (6, 24, 12), (6, 24, 11), (8, 16, 9), (6, 16, 8), (6, 16, 7), (6, 16, 6), (8, 201, 5), (7, 17920, 3), (8, 560, 2), (6, 560, 1), (6, 560, 0)]).trans hT0
  refine X.aload_n dX5_init_105 rfl ?_
  refine X.bipush (v := 24) dX5_init_106 (by decide) ?_
  refine X.newZ (n := 24) dX5_init_108 wa_boolean (rfl) (by decide) ?_
  have hTn := sh_new (c := 8) (n := 24) (w := 24) hT (by first | (rw [bld_N, hN]; decide) | omega)
  have hTo := hT
  have hT := hTn
  refine X.putR (kf := 14) dX5_init_110 (hT) (by decide) (by decide) rfl (Or.inr ⟨rfl, rfl, rfl⟩) (fun _ => ⟨rfl, rfl⟩) wf_X5_48 ?_
  change X _ _ _ _ _ (bldM 44 μ [(8, 24, 14), (6, 24, 13), (6, 24, 12), (6, 24, 11), (8, 16, 9), (6, 16, 8), (6, 16, 7), (6, 16, 6), (8, 201, 5), (7, 17920, 3), (8, 560, 2), (6, 560, 1), (6, 560, 0)]) _
  have hT := (bld_T 44 μ (show 44 < mN μ by omega) [(8, 24, 14), (6, 24, 13), (6, 24, 12), (6, 24, 11), (8, 16, 9), (6, 16, 8), (6, 16, 7), (6, 16, 6), (8, 201, 5), (7, 17920, 3), (8, 560, 2), (6, 560, 1), (6, 560, 0)]).trans hT0
  refine X.aload_n dX5_init_113 rfl ?_
  refine X.bipush (v := 24) dX5_init_114 (by decide) ?_
  refine X.newI (n := 24) dX5_init_116 wa_int (rfl) (by decide) ?_
  have hTn := sh_new (c := 6) (n := 24) (w := 24) hT (by first | (rw [bld_N, hN]; decide) | omega)
  have hTo := hT
  have hT := hTn
  refine X.putR (kf := 15) dX5_init_118 (hT) (by decide) (by decide) rfl (Or.inr ⟨rfl, rfl, rfl⟩) (fun _ => ⟨rfl, rfl⟩) wf_X5_51 ?_
  change X _ _ _ _ _ (bldM 44 μ [(6, 24, 15), (8, 24, 14), (6, 24, 13), (6, 24, 12), (6, 24, 11), (8, 16, 9), (6, 16, 8), (6, 16, 7), (6, 16, 6), (8, 201, 5), (7, 17920, 3), (8, 560, 2), (6, 560, 1), (6, 560, 0)]) _
  have hT := (bld_T 44 μ (show 44 < mN μ by omega) [(6, 24, 15), (8, 24, 14), (6, 24, 13), (6, 24, 12), (6, 24, 11), (8, 16, 9), (6, 16, 8), (6, 16, 7), (6, 16, 6), (8, 201, 5), (7, 17920, 3), (8, 560, 2), (6, 560, 1), (6, 560, 0)]).trans hT0
  refine X.aload_n dX5_init_121 rfl ?_
  refine X.bipush (v := 24) dX5_init_122 (by decide) ?_
  refine X.newI (n := 24) dX5_init_124 wa_int (rfl) (by decide) ?_
  have hTn := sh_new (c := 6) (n := 24) (w := 24) hT (by first | (rw [bld_N, hN]; decide) | omega)
  have hTo := hT
  have hT := hTn
  refine X.putR (kf := 16) dX5_init_126 (hT) (by decide) (by decide) rfl (Or.inr ⟨rfl, rfl, rfl⟩) (fun _ => ⟨rfl, rfl⟩) wf_X5_54 ?_
  change X _ _ _ _ _ (bldM 44 μ [(6, 24, 16), (6, 24, 15), (8, 24, 14), (6, 24, 13), (6, 24, 12), (6, 24, 11), (8, 16, 9), (6, 16, 8), (6, 16, 7), (6, 16, 6), (8, 201, 5), (7, 17920, 3), (8, 560, 2), (6, 560, 1), (6, 560, 0)]) _
  have hT := (bld_T 44 μ (show 44 < mN μ by omega) [(6, 24, 16), (6, 24, 15), (8, 24, 14), (6, 24, 13), (6, 24, 12), (6, 24, 11), (8, 16, 9), (6, 16, 8), (6, 16, 7), (6, 16, 6), (8, 201, 5), (7, 17920, 3), (8, 560, 2), (6, 560, 1), (6, 560, 0)]).trans hT0
  refine X.aload_n dX5_init_129 rfl ?_
  refine X.bipush (v := 24) dX5_init_130 (by decide) ?_
  refine X.newI (n := 24) dX5_init_132 wa_int (rfl) (by decide) ?_
  have hTn := sh_new (c := 6) (n := 24) (w := 24) hT (by first | (rw [bld_N, hN]; decide) | omega)
  have hTo := hT
  have hT := hTn
  refine X.putR (kf := 17) dX5_init_134 (hT) (by decide) (by decide) rfl (Or.inr ⟨rfl, rfl, rfl⟩) (fun _ => ⟨rfl, rfl⟩) wf_X5_57 ?_
  change X _ _ _ _ _ (bldM 44 μ [(6, 24, 17), (6, 24, 16), (6, 24, 15), (8, 24, 14), (6, 24, 13), (6, 24, 12), (6, 24, 11), (8, 16, 9), (6, 16, 8), (6, 16, 7), (6, 16, 6), (8, 201, 5), (7, 17920, 3), (8, 560, 2), (6, 560, 1), (6, 560, 0)]) _
  have hT := (bld_T 44 μ (show 44 < mN μ by omega) [(6, 24, 17), (6, 24, 16), (6, 24, 15), (8, 24, 14), (6, 24, 13), (6, 24, 12), (6, 24, 11), (8, 16, 9), (6, 16, 8), (6, 16, 7), (6, 16, 6), (8, 201, 5), (7, 17920, 3), (8, 560, 2), (6, 560, 1), (6, 560, 0)]).trans hT0
  refine X.aload_n dX5_init_137 rfl ?_
  refine X.bipush (v := 24) dX5_init_138 (by decide) ?_
  refine X.newI (n := 24) dX5_init_140 wa_int (rfl) (by decide) ?_
  have hTn := sh_new (c := 6) (n := 24) (w := 24) hT (by first | (rw [bld_N, hN]; decide) | omega)
  have hTo := hT
  have hT := hTn
  refine X.putR (kf := 18) dX5_init_142 (hT) (by decide) (by decide) rfl (Or.inr ⟨rfl, rfl, rfl⟩) (fun _ => ⟨rfl, rfl⟩) wf_X5_60 ?_
  change X _ _ _ _ _ (bldM 44 μ [(6, 24, 18), (6, 24, 17), (6, 24, 16), (6, 24, 15), (8, 24, 14), (6, 24, 13), (6, 24, 12), (6, 24, 11), (8, 16, 9), (6, 16, 8), (6, 16, 7), (6, 16, 6), (8, 201, 5), (7, 17920, 3), (8, 560, 2), (6, 560, 1), (6, 560, 0)]) _
  have hT := (bld_T 44 μ (show 44 < mN μ by omega) [(6, 24, 18), (6, 24, 17), (6, 24, 16), (6, 24, 15), (8, 24, 14), (6, 24, 13), (6, 24, 12), (6, 24, 11), (8, 16, 9), (6, 16, 8), (6, 16, 7), (6, 16, 6), (8, 201, 5), (7, 17920, 3), (8, 560, 2), (6, 560, 1), (6, 560, 0)]).trans hT0
  refine X.aload_n dX5_init_145 rfl ?_
  refine X.bipush (v := 20) dX5_init_146 (by decide) ?_
  refine X.newI (n := 20) dX5_init_148 wa_int (rfl) (by decide) ?_
  have hTn := sh_new (c := 6) (n := 20) (w := 20) hT (by first | (rw [bld_N, hN]; decide) | omega)
  have hTo := hT
  have hT := hTn
  refine X.putR (kf := 21) dX5_init_150 (hT) (by decide) (by decide) rfl (Or.inr ⟨rfl, rfl, rfl⟩) (fun _ => ⟨rfl, rfl⟩) wf_X5_63 ?_
  change X _ _ _ _ _ (bldM 44 μ [(6, 20, 21), (6, 24, 18), (6, 24, 17), (6, 24, 16), (6, 24, 15), (8, 24, 14), (6, 24, 13), (6, 24, 12), (6, 24, 11), (8, 16, 9), (6, 16, 8), (6, 16, 7), (6, 16, 6), (8, 201, 5), (7, 17920, 3), (8, 560, 2), (6, 560, 1), (6, 560, 0)]) _
  have hT := (bld_T 44 μ (show 44 < mN μ by omega) [(6, 20, 21), (6, 24, 18), (6, 24, 17), (6, 24, 16), (6, 24, 15), (8, 24, 14), (6, 24, 13), (6, 24, 12), (6, 24, 11), (8, 16, 9), (6, 16, 8), (6, 16, 7), (6, 16, 6), (8, 201, 5), (7, 17920, 3), (8, 560, 2), (6, 560, 1), (6, 560, 0)]).trans hT0
  refine X.aload_n dX5_init_153 rfl ?_
  refine X.bipush (v := 20) dX5_init_154 (by decide) ?_
  refine X.newI (n := 20) dX5_init_156 wa_int (rfl) (by decide) ?_
  have hTn := sh_new (c := 6) (n := 20) (w := 20) hT (by first | (rw [bld_N, hN]; decide) | omega)
  have hTo := hT
  have hT := hTn
  refine X.putR (kf := 22) dX5_init_158 (hT) (by decide) (by decide) rfl (Or.inr ⟨rfl, rfl, rfl⟩) (fun _ => ⟨rfl, rfl⟩) wf_X5_66 ?_
  change X _ _ _ _ _ (bldM 44 μ [(6, 20, 22), (6, 20, 21), (6, 24, 18), (6, 24, 17), (6, 24, 16), (6, 24, 15), (8, 24, 14), (6, 24, 13), (6, 24, 12), (6, 24, 11), (8, 16, 9), (6, 16, 8), (6, 16, 7), (6, 16, 6), (8, 201, 5), (7, 17920, 3), (8, 560, 2), (6, 560, 1), (6, 560, 0)]) _
  have hT := (bld_T 44 μ (show 44 < mN μ by omega) [(6, 20, 22), (6, 20, 21), (6, 24, 18), (6, 24, 17), (6, 24, 16), (6, 24, 15), (8, 24, 14), (6, 24, 13), (6, 24, 12), (6, 24, 11), (8, 16, 9), (6, 16, 8), (6, 16, 7), (6, 16, 6), (8, 201, 5), (7, 17920, 3), (8, 560, 2), (6, 560, 1), (6, 560, 0)]).trans hT0
  refine X.aload_n dX5_init_161 rfl ?_
  refine X.bipush (v := 20) dX5_init_162 (by decide) ?_
  refine X.newI (n := 20) dX5_init_164 wa_int (rfl) (by decide) ?_
  have hTn := sh_new (c := 6) (n := 20) (w := 20) hT (by first | (rw [bld_N, hN]; decide) | omega)
  have hTo := hT
  have hT := hTn
  refine X.putR (kf := 23) dX5_init_166 (hT) (by decide) (by decide) rfl (Or.inr ⟨rfl, rfl, rfl⟩) (fun _ => ⟨rfl, rfl⟩) wf_X5_69 ?_
  change X _ _ _ _ _ (bldM 44 μ [(6, 20, 23), (6, 20, 22), (6, 20, 21), (6, 24, 18), (6, 24, 17), (6, 24, 16), (6, 24, 15), (8, 24, 14), (6, 24, 13), (6, 24, 12), (6, 24, 11), (8, 16, 9), (6, 16, 8), (6, 16, 7), (6, 16, 6), (8, 201, 5), (7, 17920, 3), (8, 560, 2), (6, 560, 1), (6, 560, 0)]) _
  have hT := (bld_T 44 μ (show 44 < mN μ by omega) [(6, 20, 23), (6, 20, 22), (6, 20, 21), (6, 24, 18), (6, 24, 17), (6, 24, 16), (6, 24, 15), (8, 24, 14), (6, 24, 13), (6, 24, 12), (6, 24, 11), (8, 16, 9), (6, 16, 8), (6, 16, 7), (6, 16, 6), (8, 201, 5), (7, 17920, 3), (8, 560, 2), (6, 560, 1), (6, 560, 0)]).trans hT0
  refine X.aload_n dX5_init_169 rfl ?_
  refine X.bipush (v := 6) dX5_init_170 (by decide) ?_
  refine X.newI (n := 6) dX5_init_172 wa_int (rfl) (by decide) ?_
  have hTn := sh_new (c := 6) (n := 6) (w := 6) hT (by first | (rw [bld_N, hN]; decide) | omega)
  have hTo := hT
  have hT := hTn
  refine X.putR (kf := 24) dX5_init_174 (hT) (by decide) (by decide) rfl (Or.inr ⟨rfl, rfl, rfl⟩) (fun _ => ⟨rfl, rfl⟩) wf_X5_72 ?_
  exact K
/-- what the loop of the reference's making has done after i turns -/
def MdI (m0 : xM) (i : Nat) (m : xM) : Prop := (mT m = mT m0 ∧ mJ m = mJ m0 ∧ mR m = mR m0 ∧ mN m = mN m0 ∧ mS m = mS m0) ∧ (∀ a, a ≠ 50 → a ≠ 52 → mI m a = mI m0 a) ∧ ∀ c, c < i → mI m 50 c = -1 ∧ mI m 52 c = 1
theorem MdI.step {m0 m : xM} {i : Nat} (h : MdI m0 i m) : MdI m0 (i + 1) (sI (sI m 50 i (-1)) 52 i 1) := by
  obtain ⟨⟨h1, h2, h3, h4, h5⟩, h6, h7⟩ := h
  refine ⟨⟨by rw [mT_sI, mT_sI, h1], by rw [mJ_sI, mJ_sI, h2], by rw [mR_sI, mR_sI, h3], by rw [mN_sI, mN_sI, h4], by rw [mS_sI, mS_sI, h5]⟩, fun a a1 a2 => by rw [mI_at a2, mI_at a1, h6 a a1 a2], fun c hc => ?_⟩
  by_cases e : c = i
  · subst e
    rw [mI_at (by decide), mI_s, mI_s]
    exact ⟨rfl, rfl⟩
  · rw [mI_at (by decide), mI_k e, mI_k e, mI_at (by decide)]
    exact h7 c (by omega)
set_option maxRecDepth 100000 in
set_option maxHeartbeats 4000000 in
theorem md2 {m0 : xM} {Q : Option Value → xM → Prop} (hM : ShM m0) (K : ∀ m, MdI m0 16 m → Q none m) : ∀ (n i : Nat) (μ : xM), i + n = 16 → MdI m0 i μ → X kX5_init none 179 (xl [(0, .ref 44), (1, .int (nI i))]) [] μ (fun r μ1 => xrok kX5_init.2.2.2.1 r ∧ Q r μ1) := by
  intro n
  induction n with
  | zero =>
    intro i μ hi hI
    obtain rfl : i = 16 := by omega
    have hM : ShM μ := ⟨fun a a1 a2 => by rw [hI.1.1]; exact hM.1 a a1 a2, fun k hk => by rw [hI.1.2.2.1]; exact hM.2 k hk⟩
    refine X.iload_n dX5_init_179 rfl ?_
    refine X.bipush (v := 16) dX5_init_180 (by decide) ?_
    refine X.icmp_ge_t (tgt := 205) dX5_init_182 (by decide) ((by decide)) ?_
    refine X.retv dX5_init_205 ⟨trivial, ?_⟩
    exact K _ hI
  | succ n ih =>
    intro i μ hi hI
    have hj : i < 16 := by omega
    have hM : ShM μ := ⟨fun a a1 a2 => by rw [hI.1.1]; exact hM.1 a a1 a2, fun k hk => by rw [hI.1.2.2.1]; exact hM.2 k hk⟩
    refine X.iload_n dX5_init_179 rfl ?_
    refine X.bipush (v := 16) dX5_init_180 (by decide) ?_
    refine X.icmp_ge_f (tgt := 205) dX5_init_182 (by decide) (nI_ge (a := i) (b := 16) hj (by decide)) ?_
    refine X.aload_n dX5_init_185 rfl ?_
    refine X.getR (b := 50) (kf := 6) dX5_init_186 (hM.1 44 (by decide) (by decide)) (by decide) (by decide) rfl wf_X5_27 (hM.2 6 (by decide)) ?_
    refine X.iload_n dX5_init_189 rfl ?_
    refine X.iconst (v := -1) dX5_init_190 (by decide) ?_
    refine X.iast dX5_init_191 (hM.1 50 (by decide) (by decide)) (rfl) (hj) (by omega) ?_
    refine X.aload_n dX5_init_192 rfl ?_
    refine X.getR (b := 52) (kf := 8) dX5_init_193 (hM.1 44 (by decide) (by decide)) (by decide) (by decide) rfl wf_X5_33 (hM.2 8 (by decide)) ?_
    refine X.iload_n dX5_init_196 rfl ?_
    refine X.iconst (v := 1) dX5_init_197 (by decide) ?_
    refine X.iast dX5_init_198 (hM.1 52 (by decide) (by decide)) (rfl) (hj) (by omega) ?_
    refine X.iinc1 dX5_init_199 rfl (Nat.le_of_ble_eq_true rfl) ?_
    refine X.goto (tgt := 179) dX5_init_202 (by decide) ?_
    exact X.at [(0, .ref 44), (1, .int (nI (i + 1)))] ⟨rfl, iN i, trivial⟩ (ih (i + 1) _ (by omega) hI.step)
theorem md_sh {μ : xM} (hT0 : mT μ 44 = (5, 0)) (hN : mN μ = 45) (hz : ∀ k, mR μ 44 k = none) : ShM (bldM 44 μ mdL) := by
  have ho : 44 < mN μ := by omega
  have hd : (mdL.map (fun x => x.2.2)).Nodup := by decide
  have e : ∀ j x, mdL[mdL.length - 1 - j]? = some x → j < 21 → mT (bldM 44 μ mdL) (45 + j) = (x.1, x.2.1) ∧ mR (bldM 44 μ mdL) 44 x.2.2 = some (45 + j) := by
    intro j x hx hj
    have w1 := (bld_at 44 μ mdL j hj).1 x hx
    have w2 := bld_fld 44 μ ho mdL j x hd hx hj
    rw [hN] at w1 w2
    exact ⟨w1, w2⟩
  have n0 : ∀ k, (∀ x ∈ mdL, x.2.2 ≠ k) → mR (bldM 44 μ mdL) 44 k = none := fun k hk => by rw [bld_none 44 μ ho k mdL hk]; exact hz k
  refine ⟨fun a a1 a2 => ?_, fun k hk => ?_⟩
  · match a, a1, a2 with
    | 44, _, _ => exact (bld_T 44 μ ho mdL).trans hT0
    | 45, _, _ => exact (e 0 (6, 560, 0) rfl (by decide)).1
    | 46, _, _ => exact (e 1 (6, 560, 1) rfl (by decide)).1
    | 47, _, _ => exact (e 2 (8, 560, 2) rfl (by decide)).1
    | 48, _, _ => exact (e 3 (7, 17920, 3) rfl (by decide)).1
    | 49, _, _ => exact (e 4 (8, 201, 5) rfl (by decide)).1
    | 50, _, _ => exact (e 5 (6, 16, 6) rfl (by decide)).1
    | 51, _, _ => exact (e 6 (6, 16, 7) rfl (by decide)).1
    | 52, _, _ => exact (e 7 (6, 16, 8) rfl (by decide)).1
    | 53, _, _ => exact (e 8 (8, 16, 9) rfl (by decide)).1
    | 54, _, _ => exact (e 9 (6, 24, 11) rfl (by decide)).1
    | 55, _, _ => exact (e 10 (6, 24, 12) rfl (by decide)).1
    | 56, _, _ => exact (e 11 (6, 24, 13) rfl (by decide)).1
    | 57, _, _ => exact (e 12 (8, 24, 14) rfl (by decide)).1
    | 58, _, _ => exact (e 13 (6, 24, 15) rfl (by decide)).1
    | 59, _, _ => exact (e 14 (6, 24, 16) rfl (by decide)).1
    | 60, _, _ => exact (e 15 (6, 24, 17) rfl (by decide)).1
    | 61, _, _ => exact (e 16 (6, 24, 18) rfl (by decide)).1
    | 62, _, _ => exact (e 17 (6, 20, 21) rfl (by decide)).1
    | 63, _, _ => exact (e 18 (6, 20, 22) rfl (by decide)).1
    | 64, _, _ => exact (e 19 (6, 20, 23) rfl (by decide)).1
    | 65, _, _ => exact (e 20 (6, 6, 24) rfl (by decide)).1
    | z + 66, _, h => exact absurd h (by omega)
  · match k, hk with
    | 0, _ => exact (e 0 (6, 560, 0) rfl (by decide)).2
    | 1, _ => exact (e 1 (6, 560, 1) rfl (by decide)).2
    | 2, _ => exact (e 2 (8, 560, 2) rfl (by decide)).2
    | 3, _ => exact (e 3 (7, 17920, 3) rfl (by decide)).2
    | 4, _ => exact n0 4 (by decide)
    | 5, _ => exact (e 4 (8, 201, 5) rfl (by decide)).2
    | 6, _ => exact (e 5 (6, 16, 6) rfl (by decide)).2
    | 7, _ => exact (e 6 (6, 16, 7) rfl (by decide)).2
    | 8, _ => exact (e 7 (6, 16, 8) rfl (by decide)).2
    | 9, _ => exact (e 8 (8, 16, 9) rfl (by decide)).2
    | 10, _ => exact n0 10 (by decide)
    | 11, _ => exact (e 9 (6, 24, 11) rfl (by decide)).2
    | 12, _ => exact (e 10 (6, 24, 12) rfl (by decide)).2
    | 13, _ => exact (e 11 (6, 24, 13) rfl (by decide)).2
    | 14, _ => exact (e 12 (8, 24, 14) rfl (by decide)).2
    | 15, _ => exact (e 13 (6, 24, 15) rfl (by decide)).2
    | 16, _ => exact (e 14 (6, 24, 16) rfl (by decide)).2
    | 17, _ => exact (e 15 (6, 24, 17) rfl (by decide)).2
    | 18, _ => exact (e 16 (6, 24, 18) rfl (by decide)).2
    | 19, _ => exact n0 19 (by decide)
    | 20, _ => exact n0 20 (by decide)
    | 21, _ => exact (e 17 (6, 20, 21) rfl (by decide)).2
    | 22, _ => exact (e 18 (6, 20, 22) rfl (by decide)).2
    | 23, _ => exact (e 19 (6, 20, 23) rfl (by decide)).2
    | 24, _ => exact (e 20 (6, 6, 24) rfl (by decide)).2
    | 25, _ => exact n0 25 (by decide)
    | z + 26, h => exact absurd h (by omega)
theorem x_modelInit {μ : xM} {Q : Option Value → xM → Prop} (hT0 : mT μ 44 = (5, 0)) (hN : mN μ = 45) (hz : ∀ k, mR μ 44 k = none) (K : ∀ m, ShM m → MdI (bldM 44 μ mdL) 16 m → Q none m) : Mt kX5_init [.ref 44] μ Q := by
  have hS := md_sh hT0 hN hz
  refine md1 hT0 hN ?_
  refine X.iconst (v := 0) dX5_init_177 (by decide) ?_
  refine X.istore_n dX5_init_178 (Nat.le_of_ble_eq_true rfl) ?_
  refine X.at [(0, .ref 44), (1, .int (nI 0))] ⟨rfl, rfl, trivial⟩ ?_
  exact md2 hS (fun m hm => K m ⟨fun a a1 a2 => by rw [hm.1.1]; exact hS.1 a a1 a2, fun k hk => by rw [hm.1.2.2.1]; exact hS.2 k hk⟩ hm) 16 0 _ (by omega) ⟨⟨rfl, rfl, rfl, rfl, rfl⟩, fun _ _ _ => rfl, fun c hc => absurd hc (Nat.not_lt_zero c)⟩
