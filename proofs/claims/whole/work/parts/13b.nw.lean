/-! the reference's nearest: walked -/
theorem dec1 (x : Int32) : x + Int32.ofInt (-1) = x - 1 := by
  rw [Int32.sub_eq_add_neg]
  rfl
theorem nI_sb {a b : Nat} (h : b ≤ a) : nI a - nI b = nI (a - b) := by
  have e : nI (a - b) + nI b = nI a := by rw [nI_add, Nat.sub_add_cancel h]
  rw [← e, Int32.add_sub_cancel]
theorem lN_int (n : Nat) : lN n = Int64.ofInt (n : Int) := Int64.ofInt_eq_ofNat.symm
theorem neg_lN (n : Nat) : -(lN n) = Int64.ofInt (-(n : Int)) := by rw [lN_int, Int64.ofInt_neg]
theorem abs_neg {v : Int64} (h : v.toInt < 0) : -v = lN v.toInt.natAbs := by
  rw [lN_int, show (v.toInt.natAbs : Int) = -v.toInt by omega, Int64.ofInt_neg, Int64.ofInt_toInt]
theorem abs_pos {v : Int64} (h : ¬ v.toInt < 0) : v = lN v.toInt.natAbs := by
  rw [lN_int, show (v.toInt.natAbs : Int) = v.toInt by omega, Int64.ofInt_toInt]
theorem v_neg {v : Int64} : 0 ≤ lg_cmp v 0 ↔ ¬ v.toInt < 0 := by
  rw [lg_cmp_ge, Int64.le_iff_toInt_le, show (0 : Int64).toInt = 0 by decide]
  omega
theorem nr_small {p : Nat} {v : Int64} (h : v.toInt.natAbs.log2 < p) : nrM p v = v := by
  have h1 := v.toInt_lt
  have h2 := v.le_toInt
  unfold nrM nrN
  rw [if_pos h]
  have e : FP.Core.signed (decide (v.toInt < 0)) v.toInt.natAbs = v.toInt := by
    unfold FP.Core.signed
    by_cases q : v.toInt < 0
    · rw [decide_eq_true q, if_pos rfl]; omega
    · rw [decide_eq_false q, if_neg (by decide)]; omega
  rw [e]
  unfold clL
  rw [show max (-2 ^ 63) (min (2 ^ 63 - 1) v.toInt) = v.toInt by omega, Int64.ofInt_toInt]
theorem pw63 {s : Nat} (h : s ≤ 62) : 2 ^ s ≤ 2 ^ 62 := Nat.pow_le_pow_right (by decide) h
set_option maxRecDepth 100000 in
set_option maxHeartbeats 4000000 in
theorem nr_q {v : Int64} {c s : Nat} {μ : xM} {Q : Option Value → xM → Prop} (hs : 1 ≤ s) (hs2 : s ≤ 62) (hc : c < 2 ^ 64) (K : X kX5_nearest none 130 (xl [(0, .long v), (6, .int (nI s))]) [.long (lN (FP.Core.nearest c (2 ^ s)))] μ Q) :
    X kX5_nearest none 96 (xl [(0, .long v), (6, .int (nI s)), (7, .long (lN (c / 2 ^ s))), (9, .long (lN (c % 2 ^ s))), (11, .long (lN (2 ^ (s - 1))))]) [] μ Q := by
  have hh : 2 ^ s = 2 * 2 ^ (s - 1) := by
    obtain ⟨j, rfl⟩ : ∃ j, s = j + 1 := ⟨s - 1, by omega⟩
    rw [Nat.pow_succ, Nat.mul_comm]
    rfl
  have hw := pw63 hs2
  have hr : c % 2 ^ s < 2 ^ s := Nat.mod_lt _ (Nat.two_pow_pos _)
  have hq : c / 2 ^ s < 2 ^ 64 := Nat.lt_of_le_of_lt (Nat.div_le_self _ _) hc
  have en : FP.Core.nearest c (2 ^ s) = if 2 * (c % 2 ^ s) < 2 ^ s then c / 2 ^ s else if 2 ^ s < 2 * (c % 2 ^ s) then c / 2 ^ s + 1 else c / 2 ^ s + c / 2 ^ s % 2 := rfl
  rw [en] at K
  generalize c % 2 ^ s = R at hr K ⊢
  generalize c / 2 ^ s = q at hq K ⊢
  generalize 2 ^ (s - 1) = h at hh ⊢
  generalize 2 ^ s = B at hh hr hw K
  have up : (if 2 * R < B then q else if B < 2 * R then q + 1 else q + q % 2) = q + 1 → X kX5_nearest none 121 (xl [(0, .long v), (6, .int (nI s)), (7, .long (lN q)), (9, .long (lN R)), (11, .long (lN h))]) [] μ Q := by
    intro e
    rw [e, ← lN_1] at K
    refine X.lload dX5_nearest_121 rfl ?_
    refine X.lconst (v := 1) dX5_nearest_123 (by decide) ?_
    refine X.ladd dX5_nearest_124 ?_
    refine X.goto (tgt := 130) dX5_nearest_125 (by decide) ?_
    exact X.at [(0, .long v), (6, .int (nI s))] ⟨rfl, rfl, trivial⟩ K
  have dn : (if 2 * R < B then q else if B < 2 * R then q + 1 else q + q % 2) = q → X kX5_nearest none 128 (xl [(0, .long v), (6, .int (nI s)), (7, .long (lN q)), (9, .long (lN R)), (11, .long (lN h))]) [] μ Q := by
    intro e
    rw [e] at K
    refine X.lload dX5_nearest_128 rfl ?_
    exact X.at [(0, .long v), (6, .int (nI s))] ⟨rfl, rfl, trivial⟩ K
  refine X.lload dX5_nearest_96 rfl ?_
  refine X.lload dX5_nearest_98 rfl ?_
  refine X.lcmp dX5_nearest_100 ?_
  by_cases g : h < R
  · refine X.if_gt_t (tgt := 121) dX5_nearest_101 (by decide) ((lg_cmp_gt _ _).mpr ((pk_lLT (by omega) (by omega)).mpr g)) ?_
    exact up (by rw [if_neg (by omega), if_pos (by omega)])
  · refine X.if_gt_f (tgt := 121) dX5_nearest_101 (by decide) (fun z => g ((pk_lLT (by omega) (by omega)).mp ((lg_cmp_gt _ _).mp z))) ?_
    refine X.lload dX5_nearest_104 rfl ?_
    refine X.lload dX5_nearest_106 rfl ?_
    refine X.lcmp dX5_nearest_108 ?_
    by_cases g2 : R = h
    · refine X.if_ne_f (tgt := 128) dX5_nearest_109 (by decide) ((lg_cmp_eq _ _).mpr (by rw [g2])) ?_
      refine X.lload dX5_nearest_112 rfl ?_
      refine X.lconst (v := 1) dX5_nearest_114 (by decide) ?_
      refine X.land dX5_nearest_115 ?_
      rw [wb_a1 hq]
      refine X.lconst (v := 1) dX5_nearest_116 (by decide) ?_
      refine X.lcmp dX5_nearest_117 ?_
      by_cases g3 : q % 2 = 1
      · refine X.if_ne_f (tgt := 128) dX5_nearest_118 (by decide) ((lg_cmp_eq _ _).mpr (by rw [g3]; rfl)) ?_
        exact up (by rw [if_neg (by omega), if_neg (by omega)]; omega)
      · refine X.if_ne_t (tgt := 128) dX5_nearest_118 (by decide) (fun z => g3 ((pk_lEQ (a := q % 2) (b := 1) (by omega) (by decide)).mp ((lg_cmp_eq _ _).mp z))) ?_
        exact dn (by rw [if_neg (by omega), if_neg (by omega)]; omega)
    · refine X.if_ne_t (tgt := 128) dX5_nearest_109 (by decide) (fun z => g2 ((pk_lEQ (by omega) (by omega)).mp ((lg_cmp_eq _ _).mp z))) ?_
      exact dn (by rw [if_pos (by omega)])
set_option maxRecDepth 100000 in
set_option maxHeartbeats 4000000 in
theorem nr_end {v : Int64} {s N D : Nat} {μ : xM} {Q : Option Value → xM → Prop} (hs2 : s ≤ 62) (hD : N * 2 ^ s = D) (hD2 : D ≤ 2 ^ 63) (hq : Q (some (.long (clL (FP.Core.signed (decide (v.toInt < 0)) D)))) μ) :
    X kX5_nearest none 130 (xl [(0, .long v), (6, .int (nI s))]) [.long (lN N)] μ Q := by
  refine X.lstore dX5_nearest_130 (Nat.le_of_ble_eq_true rfl) ?_
  refine X.lload dX5_nearest_132 rfl ?_
  refine X.iload dX5_nearest_134 rfl ?_
  refine X.lshl dX5_nearest_136 ?_
  rw [wb_shl N (by omega), hD]
  refine X.lstore dX5_nearest_137 (Nat.le_of_ble_eq_true rfl) ?_
  refine X.lload_n dX5_nearest_139 rfl ?_
  refine X.lconst (v := 0) dX5_nearest_140 (by decide) ?_
  refine X.lcmp dX5_nearest_141 ?_
  by_cases h : v.toInt < 0
  · refine X.if_ge_f (tgt := 151) dX5_nearest_142 (by decide) (fun z => v_neg.mp z h) ?_
    refine X.lload dX5_nearest_145 rfl ?_
    refine X.lneg dX5_nearest_147 ?_
    refine X.goto (tgt := 166) dX5_nearest_148 (by decide) ?_
    refine X.ret dX5_nearest_166 ?_
    have e : clL (FP.Core.signed (decide (v.toInt < 0)) D) = -(lN D) := by
      rw [neg_lN, decide_eq_true h]
      show clL (-(D : Int)) = _
      unfold clL
      rw [show max (-2 ^ 63) (min (2 ^ 63 - 1) (-(D : Int))) = -(D : Int) by omega]
    rw [e] at hq
    exact hq
  · refine X.if_ge_t (tgt := 151) dX5_nearest_142 (by decide) (v_neg.mpr h) ?_
    have es : FP.Core.signed (decide (v.toInt < 0)) D = (D : Int) := by rw [decide_eq_false h]; rfl
    rw [es] at hq
    refine X.lload dX5_nearest_151 rfl ?_
    refine X.lconst (v := 0) dX5_nearest_153 (by decide) ?_
    refine X.lcmp dX5_nearest_154 ?_
    by_cases g : D < 2 ^ 63
    · refine X.if_ge_t (tgt := 164) dX5_nearest_155 (by decide) ((lg_cmp_ge _ _).mpr ((pk_lLE (a := 0) (by decide) g).mpr (Nat.zero_le _))) ?_
      refine X.lload dX5_nearest_164 rfl ?_
      refine X.ret dX5_nearest_166 ?_
      have e : clL (D : Int) = lN D := by
        rw [lN_int]
        unfold clL
        rw [show max (-2 ^ 63) (min (2 ^ 63 - 1) (D : Int)) = (D : Int) by omega]
      rw [e] at hq
      exact hq
    · have eD : D = 2 ^ 63 := by omega
      refine X.if_ge_f (tgt := 164) dX5_nearest_155 (by decide) (by rw [eD]; decide +kernel) ?_
      refine X.ldc2 dX5_nearest_158 wk_X5_90 ?_
      refine X.goto (tgt := 166) dX5_nearest_161 (by decide) ?_
      refine X.ret dX5_nearest_166 ?_
      have e : clL ((2 ^ 63 : Nat) : Int) = 9223372036854775807 := by decide +kernel
      rw [eD, e] at hq
      exact hq
set_option maxRecDepth 100000 in
set_option maxHeartbeats 4000000 in
theorem nr_top2 {v : Int64} {p : Nat} {t : Int32} {μ : xM} {Q : Option Value → xM → Prop} (hp : 2 ≤ p) (hp2 : p ≤ 63) (ht : (t = -1 ∧ v.toInt.natAbs.log2 < p) ∨ t = nI v.toInt.natAbs.log2) (hq : Q (some (.long (nrM p v))) μ) :
    X kX5_nearest none 56 (xl [(0, .long v), (2, .int (nI p)), (3, .long (lN v.toInt.natAbs)), (5, .int t)]) [] μ Q := by
  have hc := i64_abs v
  have hk := nr_bits hc
  refine X.iload dX5_nearest_56 rfl ?_
  refine X.iload_n dX5_nearest_58 rfl ?_
  by_cases h : v.toInt.natAbs.log2 < p
  · have hlt : ¬ nI p ≤ t := by
      rcases ht with ⟨rfl, -⟩ | rfl
      · rw [Int32.le_iff_toInt_le, nI_toInt (by omega), show (-1 : Int32).toInt = -1 by decide]; omega
      · rw [nI_leI (by omega) (by omega)]; omega
    refine X.icmp_ge_f (tgt := 64) dX5_nearest_59 (by decide) hlt ?_
    refine X.lload_n dX5_nearest_62 rfl ?_
    refine X.ret dX5_nearest_63 ?_
    rw [nr_small h] at hq
    exact hq
  · have et : t = nI v.toInt.natAbs.log2 := by
      rcases ht with ⟨-, q⟩ | q
      · exact absurd q h
      · exact q
    subst et
    refine X.icmp_ge_t (tgt := 64) dX5_nearest_59 (by decide) ((nI_leI (by omega) (by omega)).mpr (by omega)) ?_
    have eN : nrN p v.toInt.natAbs = FP.Core.nearest v.toInt.natAbs (2 ^ (v.toInt.natAbs.log2 - p + 1)) * 2 ^ (v.toInt.natAbs.log2 - p + 1) := if_neg h
    have hD := nrN_le (p := p) (by omega) hc
    have hq2 : Q (some (.long (clL (FP.Core.signed (decide (v.toInt < 0)) (nrN p v.toInt.natAbs))))) μ := hq
    rw [eN] at hD hq2
    have es : nI v.toInt.natAbs.log2 - nI p + 1 = nI (v.toInt.natAbs.log2 - p + 1) := by
      rw [nI_sb (by omega), nI_1]
    have hs1 : 1 ≤ v.toInt.natAbs.log2 - p + 1 := by omega
    have hs2 : v.toInt.natAbs.log2 - p + 1 ≤ 62 := by omega
    refine X.iload dX5_nearest_64 rfl ?_
    refine X.iload_n dX5_nearest_66 rfl ?_
    refine X.isub dX5_nearest_67 ?_
    refine X.iconst (v := 1) dX5_nearest_68 (by decide) ?_
    refine X.iadd dX5_nearest_69 ?_
    rw [es]
    generalize v.toInt.natAbs.log2 - p + 1 = s at hs1 hs2 hD hq2 ⊢
    have hc2 : v.toInt.natAbs < 2 ^ 64 := by omega
    have hw := pw63 hs2
    refine X.istore dX5_nearest_70 (Nat.le_of_ble_eq_true rfl) ?_
    refine X.lload_n dX5_nearest_72 rfl ?_
    refine X.iload dX5_nearest_73 rfl ?_
    refine X.lushr dX5_nearest_75 ?_
    rw [wb_shr hc2 (by omega)]
    refine X.lstore dX5_nearest_76 (Nat.le_of_ble_eq_true rfl) ?_
    refine X.lload_n dX5_nearest_78 rfl ?_
    refine X.lconst (v := lN 1) dX5_nearest_79 rfl ?_
    refine X.iload dX5_nearest_80 rfl ?_
    refine X.lshl dX5_nearest_82 ?_
    rw [wb_shl 1 (by omega), Nat.one_mul]
    refine X.lconst (v := lN 1) dX5_nearest_83 rfl ?_
    refine X.lsub dX5_nearest_84 ?_
    rw [lN_sub (Nat.two_pow_pos s)]
    refine X.land dX5_nearest_85 ?_
    rw [wb_mask hc2 (by omega)]
    refine X.lstore dX5_nearest_86 (Nat.le_of_ble_eq_true rfl) ?_
    refine X.lconst (v := lN 1) dX5_nearest_88 rfl ?_
    refine X.iload dX5_nearest_89 rfl ?_
    refine X.iconst (v := nI 1) dX5_nearest_91 (by decide) ?_
    refine X.isub dX5_nearest_92 ?_
    rw [nI_sb hs1]
    refine X.lshl dX5_nearest_93 ?_
    rw [wb_shl 1 (by omega), Nat.one_mul]
    refine X.lstore dX5_nearest_94 (Nat.le_of_ble_eq_true rfl) ?_
    refine X.at [(0, .long v), (6, .int (nI s)), (7, .long (lN (v.toInt.natAbs / 2 ^ s))), (9, .long (lN (v.toInt.natAbs % 2 ^ s))), (11, .long (lN (2 ^ (s - 1))))] ⟨rfl, rfl, rfl, rfl, rfl, trivial⟩ ?_
    exact nr_q hs1 hs2 hc2 (nr_end hs2 rfl hD hq2)
set_option maxRecDepth 100000 in
set_option maxHeartbeats 4000000 in
theorem nr_found {v : Int64} {p j : Nat} {k : Int32} {μ : xM} {Q : Option Value → xM → Prop} (hj : j < 64) (K : ∀ t : Int32, ((t = -1 ∧ v.toInt.natAbs.log2 < p) ∨ t = nI v.toInt.natAbs.log2) → X kX5_nearest none 56 (xl [(0, .long v), (2, .int (nI p)), (3, .long (lN v.toInt.natAbs)), (5, .int t)]) [] μ Q) (hl : v.toInt.natAbs.log2 = j) :
    X kX5_nearest none 20 (xl [(0, .long v), (2, .int (nI p)), (3, .long (lN v.toInt.natAbs)), (5, .int (nI j)), (6, .int k)]) [] μ Q := by
  have e : X kX5_nearest none 56 (xl [(0, .long v), (2, .int (nI p)), (3, .long (lN v.toInt.natAbs)), (5, .int (nI j)), (6, .int k)]) [] μ Q :=
    X.at [(0, .long v), (2, .int (nI p)), (3, .long (lN v.toInt.natAbs)), (5, .int (nI j))] ⟨rfl, rfl, rfl, rfl, trivial⟩ (K _ (Or.inr (by rw [hl])))
  refine X.iload dX5_nearest_20 rfl ?_
  refine X.if_lt (tgt := 56) dX5_nearest_22 (by decide) (fun _ => e) (fun _ => ?_)
  refine X.iload dX5_nearest_25 rfl ?_
  refine X.if_ge_t (tgt := 56) dX5_nearest_27 (by decide) ((nI_leI (a := 0) (by decide) (by omega)).mpr (Nat.zero_le _)) ?_
  exact e
set_option maxRecDepth 100000 in
set_option maxHeartbeats 4000000 in
theorem nr_loop {v : Int64} {p : Nat} {μ : xM} {Q : Option Value → xM → Prop} (hp : 2 ≤ p) (K : ∀ t : Int32, ((t = -1 ∧ v.toInt.natAbs.log2 < p) ∨ t = nI v.toInt.natAbs.log2) → X kX5_nearest none 56 (xl [(0, .long v), (2, .int (nI p)), (3, .long (lN v.toInt.natAbs)), (5, .int t)]) [] μ Q) : ∀ j : Nat, j ≤ 64 → v.toInt.natAbs < 2 ^ j →
    X kX5_nearest none 20 (xl [(0, .long v), (2, .int (nI p)), (3, .long (lN v.toInt.natAbs)), (5, .int (-1)), (6, .int (nI j - 1))]) [] μ Q := by
  have hc2 : v.toInt.natAbs < 2 ^ 64 := by have := i64_abs v; omega
  intro j
  induction j with
  | zero =>
    intro _ h
    have h0 : v.toInt.natAbs = 0 := by rw [Nat.pow_zero] at h; omega
    refine X.iload dX5_nearest_20 rfl ?_
    refine X.if_lt_t (tgt := 56) dX5_nearest_22 (by decide) (by decide) ?_
    exact X.at [(0, .long v), (2, .int (nI p)), (3, .long (lN v.toInt.natAbs)), (5, .int (-1))] ⟨rfl, rfl, rfl, rfl, trivial⟩ (K _ (Or.inl ⟨rfl, by rw [h0, lg2_0]; omega⟩))
  | succ j ih =>
    intro hj h
    have ek : nI (j + 1) - 1 = nI j := by rw [show (1 : Int32) = nI 1 from rfl, nI_sb (by omega)]; rfl
    rw [ek]
    refine X.iload dX5_nearest_20 rfl ?_
    refine X.if_lt_f (tgt := 56) dX5_nearest_22 (by decide) (by rw [Int32.lt_iff_toInt_lt, nI_toInt (by omega), i0]; omega) ?_
    refine X.iload dX5_nearest_25 rfl ?_
    refine X.if_ge_f (tgt := 56) dX5_nearest_27 (by decide) (by decide) ?_
    refine X.lload_n dX5_nearest_30 rfl ?_
    refine X.iload dX5_nearest_31 rfl ?_
    refine X.lushr dX5_nearest_33 ?_
    rw [wb_shr hc2 (by omega)]
    refine X.lconst (v := 1) dX5_nearest_34 (by decide) ?_
    refine X.land dX5_nearest_35 ?_
    rw [wb_a1 (Nat.lt_of_le_of_lt (Nat.div_le_self _ _) hc2)]
    refine X.lconst (v := 1) dX5_nearest_36 (by decide) ?_
    refine X.lcmp dX5_nearest_37 ?_
    by_cases g : v.toInt.natAbs < 2 ^ j
    · have ed : v.toInt.natAbs / 2 ^ j = 0 := Nat.div_eq_of_lt g
      rw [ed]
      refine X.if_ne_t (tgt := 46) dX5_nearest_38 (by decide) (by decide) ?_
      refine X.iload dX5_nearest_46 rfl ?_
      refine X.istore dX5_nearest_48 (Nat.le_of_ble_eq_true rfl) ?_
      refine X.iinc (v := nI j - 1) dX5_nearest_50 rfl (dec1 _) (Nat.le_of_ble_eq_true rfl) ?_
      refine X.goto (tgt := 20) dX5_nearest_53 (by decide) ?_
      exact X.at [(0, .long v), (2, .int (nI p)), (3, .long (lN v.toInt.natAbs)), (5, .int (-1)), (6, .int (nI j - 1))] ⟨rfl, rfl, rfl, rfl, rfl, trivial⟩ (ih (by omega) g)
    · have hpos := Nat.two_pow_pos j
      have ed : v.toInt.natAbs / 2 ^ j = 1 := by
        rw [Nat.pow_succ] at h
        exact Nat.div_eq_of_lt_le (by omega) (by omega)
      rw [ed]
      refine X.if_ne_f (tgt := 46) dX5_nearest_38 (by decide) (by decide) ?_
      refine X.iload dX5_nearest_41 rfl ?_
      refine X.goto (tgt := 48) dX5_nearest_43 (by decide) ?_
      refine X.istore dX5_nearest_48 (Nat.le_of_ble_eq_true rfl) ?_
      refine X.iinc (v := nI j - 1) dX5_nearest_50 rfl (dec1 _) (Nat.le_of_ble_eq_true rfl) ?_
      refine X.goto (tgt := 20) dX5_nearest_53 (by decide) ?_
      have hl : v.toInt.natAbs.log2 = j := by
        have h0 : v.toInt.natAbs ≠ 0 := by omega
        have u1 : v.toInt.natAbs.log2 < j + 1 := (Nat.log2_lt h0).mpr h
        have u2 : ¬ v.toInt.natAbs.log2 < j := fun z => g ((Nat.log2_lt h0).mp z)
        omega
      exact X.at [(0, .long v), (2, .int (nI p)), (3, .long (lN v.toInt.natAbs)), (5, .int (nI j)), (6, .int (nI j - 1))] ⟨rfl, rfl, rfl, rfl, rfl, trivial⟩ (nr_found (by omega) K hl)
set_option maxRecDepth 100000 in
set_option maxHeartbeats 4000000 in
theorem m_nearest {p : Nat} {v : Int64} {μ : xM} {Q : Option Value → xM → Prop} (hp : 2 ≤ p) (hp2 : p ≤ 63) (hq : Q (some (.long (nrM p v))) μ) : Mt kX5_nearest [.long v, .int (nI p)] μ Q := by
  refine Mt.enter rfl (Nat.le_of_ble_eq_true rfl) ?_
  have go : X kX5_nearest none 12 (xl [(0, .long v), (2, .int (nI p))]) [.long (lN v.toInt.natAbs)] μ (fun r μ' => xrok kX5_nearest.2.2.2.1 r ∧ Q r μ') := by
    refine X.lstore_n dX5_nearest_12 (Nat.le_of_ble_eq_true rfl) ?_
    refine X.iconst (v := -1) dX5_nearest_13 (by decide) ?_
    refine X.istore dX5_nearest_14 (Nat.le_of_ble_eq_true rfl) ?_
    refine X.bipush (v := nI 64 - 1) dX5_nearest_16 (by decide) ?_
    refine X.istore dX5_nearest_18 (Nat.le_of_ble_eq_true rfl) ?_
    refine X.at [(0, .long v), (2, .int (nI p)), (3, .long (lN v.toInt.natAbs)), (5, .int (-1)), (6, .int (nI 64 - 1))] ⟨rfl, rfl, rfl, rfl, rfl, trivial⟩ ?_
    exact nr_loop hp (fun t ht => nr_top2 hp hp2 ht ⟨trivial, hq⟩) 64 (Nat.le_refl _) (by have := i64_abs v; omega)
  refine X.lload_n dX5_nearest_0 rfl ?_
  refine X.lconst (v := 0) dX5_nearest_1 (by decide) ?_
  refine X.lcmp dX5_nearest_2 ?_
  by_cases h : v.toInt < 0
  · refine X.if_ge_f (tgt := 11) dX5_nearest_3 (by decide) (fun z => v_neg.mp z h) ?_
    refine X.lload_n dX5_nearest_6 rfl ?_
    refine X.lneg dX5_nearest_7 ?_
    refine X.goto (tgt := 12) dX5_nearest_8 (by decide) ?_
    rw [abs_neg h]
    exact X.at [(0, .long v), (2, .int (nI p))] ⟨rfl, rfl, trivial⟩ go
  · refine X.if_ge_t (tgt := 11) dX5_nearest_3 (by decide) (v_neg.mpr h) ?_
    refine X.lload_n dX5_nearest_11 rfl ?_
    have e := abs_pos h
    refine X.at [(0, .long v), (2, .int (nI p))] ⟨rfl, rfl, trivial⟩ ?_
    generalize hz : v.toInt.natAbs = z at go e
    rw [← e] at go
    exact go
