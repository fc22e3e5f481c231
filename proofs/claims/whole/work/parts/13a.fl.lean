/-! floats and doubles: whole numbers rounded (the wb rows are the kit's, of its BITS text) -/
theorem wb_tb (n : Nat) : (lN n).toBitVec = BitVec.ofNat 64 n := rfl
theorem wb_inj {a b : Int64} (h : a.toBitVec = b.toBitVec) : a = b := Int64.toBitVec_inj.mp h
theorem wb_tn {n : Nat} (h : n < 2 ^ 64) : (lN n).toBitVec.toNat = n := by rw [wb_tb, BitVec.toNat_ofNat, Nat.mod_eq_of_lt h]
theorem wb_of (x : Int64) : ∃ n, n < 2 ^ 64 ∧ x = lN n := ⟨x.toBitVec.toNat, x.toBitVec.isLt, wb_inj (by rw [wb_tb]; simp)⟩
theorem wb_of32 (x : Int32) : ∃ n, n < 2 ^ 32 ∧ x = nI n := ⟨x.toBitVec.toNat, x.toBitVec.isLt, Int32.toBitVec_inj.mp (by show _ = BitVec.ofNat 32 _; simp)⟩
theorem wb_c : ∀ k, k < 64 → ((nI k).toInt64 &&& 63) = lN k := by decide +kernel
theorem wb_cu : ∀ k, k < 64 → ((nI k).toInt64.toUInt64 &&& Int64.toUInt64 63) = UInt64.ofNat k := by decide +kernel
theorem wb_sm : ∀ k, k < 64 → (BitVec.ofNat 64 k).smod 64 = BitVec.ofNat 64 k := by decide +kernel
theorem wb_pw {a b : Nat} (h : a ≤ b) : 2 ^ b = 2 ^ a * 2 ^ (b - a) := by rw [← Nat.pow_add]; congr 1; omega
theorem wb_lt2 {a b : Nat} (h : a < b) : 2 ^ a < 2 ^ b := Nat.pow_lt_pow_right (by decide) h
theorem wb_mod (n : Nat) : lN n = lN (n % 2 ^ 64) := wb_inj (by rw [wb_tb, wb_tb]; apply BitVec.eq_of_toNat_eq; rw [BitVec.toNat_ofNat, BitVec.toNat_ofNat, Nat.mod_mod])
theorem wb_shr {n k : Nat} (hn : n < 2 ^ 64) (hk : k < 64) : ((lN n).toUInt64 >>> ((nI k).toInt64.toUInt64 &&& Int64.toUInt64 63)).toInt64 = lN (n / 2 ^ k) := by
  rw [wb_cu k hk]
  apply wb_inj
  apply BitVec.eq_of_toNat_eq
  show ((lN n).toUInt64 >>> UInt64.ofNat k).toNat = (BitVec.ofNat 64 _).toNat
  have h1 : (UInt64.ofNat k).toNat = k := by
    show (BitVec.ofNat 64 k).toNat = k
    rw [BitVec.toNat_ofNat, Nat.mod_eq_of_lt (by omega)]
  have h2 : (lN n).toUInt64.toNat = n := wb_tn hn
  rw [UInt64.toNat_shiftRight, h1, h2, Nat.mod_eq_of_lt hk, Nat.shiftRight_eq_div_pow, BitVec.toNat_ofNat, Nat.mod_eq_of_lt (Nat.lt_of_le_of_lt (Nat.div_le_self _ _) hn)]
theorem wb_shl (n : Nat) {k : Nat} (hk : k < 64) : lN n <<< ((nI k).toInt64 &&& 63) = lN (n * 2 ^ k) := by
  rw [wb_c k hk]
  apply wb_inj
  rw [Int64.toBitVec_shiftLeft, wb_tb, wb_tb, wb_tb, wb_sm k hk]
  apply BitVec.eq_of_toNat_eq
  rw [BitVec.shiftLeft_eq', BitVec.toNat_shiftLeft, BitVec.toNat_ofNat, BitVec.toNat_ofNat, BitVec.toNat_ofNat, Nat.mod_eq_of_lt (show k < 2 ^ 64 by omega), Nat.shiftLeft_eq, Nat.mul_mod, Nat.mod_mod, ← Nat.mul_mod]
theorem wb_and {a b : Nat} (ha : a < 2 ^ 64) (hb : b < 2 ^ 64) : lN a &&& lN b = lN (a &&& b) := by
  apply wb_inj
  rw [Int64.toBitVec_and, wb_tb, wb_tb, wb_tb]
  apply BitVec.eq_of_toNat_eq
  rw [BitVec.toNat_and, BitVec.toNat_ofNat, BitVec.toNat_ofNat, BitVec.toNat_ofNat, Nat.mod_eq_of_lt ha, Nat.mod_eq_of_lt hb, Nat.mod_eq_of_lt (Nat.and_lt_two_pow _ hb)]
theorem wb_or {a b : Nat} (ha : a < 2 ^ 64) (hb : b < 2 ^ 64) : lN a ||| lN b = lN (a ||| b) := by
  apply wb_inj
  rw [Int64.toBitVec_or, wb_tb, wb_tb, wb_tb]
  apply BitVec.eq_of_toNat_eq
  rw [BitVec.toNat_or, BitVec.toNat_ofNat, BitVec.toNat_ofNat, BitVec.toNat_ofNat, Nat.mod_eq_of_lt ha, Nat.mod_eq_of_lt hb, Nat.mod_eq_of_lt (Nat.or_lt_two_pow ha hb)]
theorem wb_mask {n k : Nat} (hn : n < 2 ^ 64) (hk : k < 64) : lN n &&& lN (2 ^ k - 1) = lN (n % 2 ^ k) := by
  rw [wb_and hn (by have := wb_lt2 hk; omega), Nat.and_two_pow_sub_one_eq_mod]
theorem wb_a1 {n : Nat} (hn : n < 2 ^ 64) : lN n &&& 1 = lN (n % 2) := wb_mask (k := 1) hn (by decide)
theorem wb_bit {n k : Nat} (hn : n < 2 ^ 64) (hk : k < 64) : ((lN n).toUInt64 >>> ((nI k).toInt64.toUInt64 &&& Int64.toUInt64 63)).toInt64 &&& 1 = lN (n / 2 ^ k % 2) := by
  rw [wb_shr hn hk, wb_a1 (Nat.lt_of_le_of_lt (Nat.div_le_self _ _) hn)]
theorem lg2_0 : Nat.log2 0 = 0 := by decide
/-- the nearest whole number of p leading bits -/
def nrN (p c : Nat) : Nat := if c.log2 < p then c else FP.Core.nearest c (2 ^ (c.log2 - p + 1)) * 2 ^ (c.log2 - p + 1)
def clL (i : Int) : Int64 := Int64.ofInt (max (-2 ^ 63) (min (2 ^ 63 - 1) i))
def nrM (p : Nat) (v : Int64) : Int64 := clL (FP.Core.signed (decide (v.toInt < 0)) (nrN p v.toInt.natAbs))
theorem nr_bits {c : Nat} (h : c ≤ 2 ^ 63) : c.log2 < 64 := by
  by_cases e : c = 0
  · subst e; rw [lg2_0]; decide
  · exact (Nat.log2_lt e).mpr (by omega)
theorem nr_top {p c : Nat} (hp : 1 ≤ p) (h : ¬ c.log2 < p) : FP.Core.nearest c (2 ^ (c.log2 - p + 1)) ≤ 2 ^ p ∧ 2 ^ (p - 1) ≤ FP.Core.nearest c (2 ^ (c.log2 - p + 1)) := by
  have h0 : c ≠ 0 := fun q => h (by rw [q, lg2_0]; omega)
  have a1 : 2 ^ c.log2 ≤ c := Nat.log2_self_le h0
  have a2 : c < 2 ^ (c.log2 + 1) := Nat.lt_log2_self
  refine ⟨FP.Core.nearest_le (Nat.two_pow_pos _) ?_, FP.Core.nearest_ge (Nat.two_pow_pos _) ?_⟩
  · rw [← Nat.pow_add, show p + (c.log2 - p + 1) = c.log2 + 1 by omega]
    omega
  · rw [← Nat.pow_add, show p - 1 + (c.log2 - p + 1) = c.log2 by omega]
    exact a1
theorem tr_up (s : Bool) (n j : Nat) : FP.Core.truncate s n (j : Int) = FP.Core.signed s (n * 2 ^ j) := by
  unfold FP.Core.truncate
  rw [show (-(j : Int)).toNat = 0 by omega, show ((j : Int)).toNat = j by omega, Nat.pow_zero, Nat.div_one]
theorem tr_dn (s : Bool) (n j : Nat) : FP.Core.truncate s (n * 2 ^ j) (-(j : Int)) = FP.Core.signed s n := by
  unfold FP.Core.truncate
  rw [show (-(j : Int)).toNat = 0 by omega, show (- -(j : Int)).toNat = j by omega, Nat.pow_zero, Nat.mul_one, Nat.mul_div_cancel _ (Nat.two_pow_pos _)]
theorem toL_fin (s : Bool) (n : Nat) (q : Int) : FP.Core.toL (.fin s n q) = clL (FP.Core.truncate s n q) := rfl
theorem lead_1 {c : Nat} (h : c ≠ 0) : FP.Core.leading c 1 = c.log2 := by
  unfold FP.Core.leading
  have e : Nat.log2 1 = 0 := by decide
  rw [e]
  dsimp only
  rw [show ((c.log2 : Int) - ((0 : Nat) : Int)) = (c.log2 : Int) by omega, show (-(c.log2 : Int)).toNat = 0 by omega, show ((c.log2 : Int)).toNat = c.log2 by omega, if_pos]
  rw [Nat.one_mul, Nat.pow_zero, Nat.mul_one]
  exact Nat.log2_self_le h
theorem round_tr {f : FP.Core.Fmt} (hp : 1 ≤ f.p) (hp2 : f.p ≤ 64) (hq : f.qmin ≤ -64) (hm : 66 ≤ f.qmax) (s : Bool) {c : Nat} (hc : c ≤ 2 ^ 63) : FP.Core.toL (FP.Core.roundRatio f s c 1 0) = clL (FP.Core.signed s (nrN f.p c)) := by
  unfold FP.Core.roundRatio
  by_cases h0 : c = 0
  · subst h0
    rw [if_pos rfl, toL_fin]
    unfold FP.Core.truncate nrN
    rw [Nat.zero_mul, Nat.zero_div, if_pos (by rw [lg2_0]; omega)]
  · rw [if_neg h0]
    have hk := nr_bits hc
    have a1 : 2 ^ c.log2 ≤ c := Nat.log2_self_le h0
    have a2 : c < 2 ^ (c.log2 + 1) := Nat.lt_log2_self
    unfold FP.Core.quantum
    rw [lead_1 h0]
    unfold FP.Core.roundAt FP.Core.unitsNum FP.Core.unitsDen
    by_cases h : c.log2 < f.p
    · have eq : max f.qmin ((c.log2 : Int) + 0 - ((f.p : Int) - 1)) = -((f.p - 1 - c.log2 : Nat) : Int) := by omega
      have lt : c * 2 ^ (f.p - 1 - c.log2) < 2 ^ f.p := by
        have : c * 2 ^ (f.p - 1 - c.log2) < 2 ^ (c.log2 + 1) * 2 ^ (f.p - 1 - c.log2) := Nat.mul_lt_mul_of_pos_right a2 (Nat.two_pow_pos _)
        rw [← Nat.pow_add, show c.log2 + 1 + (f.p - 1 - c.log2) = f.p by omega] at this
        exact this
      rw [eq]
      generalize hj : f.p - 1 - c.log2 = j at lt ⊢
      rw [show (0 - -(j : Int)).toNat = j by omega, show (-(j : Int) - 0).toNat = 0 by omega, Nat.pow_zero, Nat.mul_one]
      have en : FP.Core.nearest (c * 2 ^ j) 1 = c * 2 ^ j := by
        have := FP.Core.nearest_exact (B := 1) (c * 2 ^ j) (by decide)
        rw [Nat.mul_one] at this
        exact this
      rw [en]
      unfold FP.Core.settle FP.Core.bound
      rw [if_pos lt, if_pos (by omega), toL_fin, tr_dn]
      unfold nrN
      rw [if_pos h]
    · have eq : max f.qmin ((c.log2 : Int) + 0 - ((f.p : Int) - 1)) = ((c.log2 - f.p + 1 : Nat) : Int) := by omega
      obtain ⟨t1, t2⟩ := nr_top hp h
      rw [eq]
      unfold nrN
      rw [if_neg h]
      have hj2 : c.log2 - f.p + 1 ≤ 64 := by omega
      generalize hj : c.log2 - f.p + 1 = j at t1 t2 hj2 ⊢
      rw [show (0 - (j : Int)).toNat = 0 by omega, show ((j : Int) - 0).toNat = j by omega, Nat.pow_zero, Nat.mul_one, Nat.one_mul]
      generalize FP.Core.nearest c (2 ^ j) = N at t1 t2 ⊢
      unfold FP.Core.settle FP.Core.bound
      by_cases hN : N < 2 ^ f.p
      · rw [if_pos hN, if_pos (by omega), toL_fin, tr_up]
      · have eN : N = 2 ^ f.p := by omega
        rw [if_neg hN, if_pos (by omega), toL_fin, show ((j : Int) + 1) = ((j + 1 : Nat) : Int) by omega, tr_up]
        unfold FP.Core.Fmt.tails
        rw [eN, ← Nat.pow_add, ← Nat.pow_add, show f.p - 1 + (j + 1) = f.p + j by omega]
theorem i64_abs (v : Int64) : v.toInt.natAbs ≤ 2 ^ 63 := FP.Core.int64_abs v
theorem fit6_nr (v : Int64) : fitM 6 v = nrM 24 v := by
  show FP.Core.toL (FP.Core.val32 (FP.Core.l2f v)) = _
  rw [FP.Core.val32_l2f]
  exact round_tr (f := FP.Core.b32) (by decide) (by decide) (by decide) (by decide) (decide (v.toInt < 0)) (i64_abs v)
theorem fit7_nr (v : Int64) : fitM 7 v = nrM 53 v := by
  show FP.Core.toL (FP.Core.val64 (FP.Core.l2d v)) = _
  rw [FP.Core.val64_l2d]
  exact round_tr (f := FP.Core.b64) (by decide) (by decide) (by decide) (by decide) (decide (v.toInt < 0)) (i64_abs v)
theorem nrN_le {p c : Nat} (hp : 1 ≤ p) (h : c ≤ 2 ^ 63) : nrN p c ≤ 2 ^ 63 := by
  have hk := nr_bits h
  unfold nrN
  by_cases e : c.log2 < p
  · rw [if_pos e]; exact h
  · rw [if_neg e]
    have hs : c.log2 - p + 1 ≤ 63 := by omega
    generalize c.log2 - p + 1 = j at hs ⊢
    have w : FP.Core.nearest c (2 ^ j) ≤ 2 ^ (63 - j) := FP.Core.nearest_le (Nat.two_pow_pos _) (by rw [← Nat.pow_add, show 63 - j + j = 63 by omega]; exact h)
    have w2 := Nat.mul_le_mul_right (2 ^ j) w
    rw [← Nat.pow_add, show 63 - j + j = 63 by omega] at w2
    exact w2
theorem nrN_idem {p : Nat} (hp : 1 ≤ p) (c : Nat) : nrN p (nrN p c) = nrN p c := by
  by_cases e : c.log2 < p
  · have h1 : nrN p c = c := if_pos e
    rw [h1, h1]
  · have h1 : nrN p c = FP.Core.nearest c (2 ^ (c.log2 - p + 1)) * 2 ^ (c.log2 - p + 1) := if_neg e
    obtain ⟨t1, t2⟩ := nr_top hp e
    rw [h1]
    generalize c.log2 - p + 1 = j at t1 t2 ⊢
    generalize FP.Core.nearest c (2 ^ j) = N at t1 t2 ⊢
    by_cases e2 : (N * 2 ^ j).log2 < p
    · exact if_pos e2
    · have hN0 : N * 2 ^ j ≠ 0 := fun q => e2 (by rw [q, lg2_0]; omega)
      have b1 : 2 ^ (N * 2 ^ j).log2 ≤ N * 2 ^ j := Nat.log2_self_le hN0
      have key : ∃ M, N * 2 ^ j = M * 2 ^ ((N * 2 ^ j).log2 - p + 1) := by
        by_cases q : N < 2 ^ p
        · have u : N * 2 ^ j < 2 ^ (p + j) := by
            rw [Nat.pow_add]
            exact Nat.mul_lt_mul_of_pos_right q (Nat.two_pow_pos _)
          have u2 : (N * 2 ^ j).log2 < p + j := (Nat.log2_lt hN0).mpr u
          refine ⟨N * 2 ^ (j - ((N * 2 ^ j).log2 - p + 1)), ?_⟩
          rw [Nat.mul_assoc, ← Nat.pow_add, show j - ((N * 2 ^ j).log2 - p + 1) + ((N * 2 ^ j).log2 - p + 1) = j by omega]
        · have eN : N = 2 ^ p := by omega
          have u2 : (N * 2 ^ j).log2 < p + j + 1 := (Nat.log2_lt hN0).mpr (by rw [eN, ← Nat.pow_add]; exact Nat.pow_lt_pow_right (by decide) (by omega))
          refine ⟨2 ^ (p + j - ((N * 2 ^ j).log2 - p + 1)), ?_⟩
          rw [← Nat.pow_add, show p + j - ((N * 2 ^ j).log2 - p + 1) + ((N * 2 ^ j).log2 - p + 1) = p + j by omega, eN, ← Nat.pow_add]
      obtain ⟨M, hM⟩ := key
      unfold nrN
      rw [if_neg e2]
      generalize (N * 2 ^ j).log2 - p + 1 = k at hM ⊢
      rw [hM, FP.Core.nearest_exact _ (Nat.two_pow_pos _)]
theorem ofInt_toInt {i : Int} (h1 : -2 ^ 63 ≤ i) (h2 : i < 2 ^ 63) : (Int64.ofInt i).toInt = i := Int64.toInt_ofInt_of_le h1 h2
theorem clL_in {i : Int} (h1 : -2 ^ 63 ≤ i) (h2 : i < 2 ^ 63) : (clL i).toInt = i := by
  unfold clL
  rw [show max (-2 ^ 63) (min (2 ^ 63 - 1) i) = i by omega]
  exact ofInt_toInt h1 h2
theorem nrM_idem {p : Nat} (hp : 1 ≤ p) (hmax : nrM p (Int64.ofInt (2 ^ 63 - 1)) = Int64.ofInt (2 ^ 63 - 1)) (v : Int64) : nrM p (nrM p v) = nrM p v := by
  have hD := nrN_le hp (i64_abs v)
  have hI := nrN_idem hp v.toInt.natAbs
  have e : nrM p v = clL (FP.Core.signed (decide (v.toInt < 0)) (nrN p v.toInt.natAbs)) := rfl
  rw [e]
  generalize nrN p v.toInt.natAbs = D at hD hI ⊢
  have h00 : nrN p 0 = 0 := if_pos (by rw [lg2_0]; omega)
  by_cases hs : v.toInt < 0
  · have es : FP.Core.signed (decide (v.toInt < 0)) D = -(D : Int) := by unfold FP.Core.signed; rw [decide_eq_true hs]; rfl
    rw [es]
    have ei : (clL (-(D : Int))).toInt = -(D : Int) := clL_in (by omega) (by omega)
    unfold nrM
    rw [ei, show (-(D : Int)).natAbs = D by omega, hI]
    by_cases q : D = 0
    · subst q; rfl
    · rw [decide_eq_true (show -(D : Int) < 0 by omega)]; rfl
  · have es : FP.Core.signed (decide (v.toInt < 0)) D = (D : Int) := by unfold FP.Core.signed; rw [decide_eq_false hs]; rfl
    rw [es]
    by_cases q : D < 2 ^ 63
    · have ei : (clL (D : Int)).toInt = (D : Int) := clL_in (by omega) (by omega)
      unfold nrM
      rw [ei, Int.natAbs_natCast, hI, decide_eq_false (show ¬ (D : Int) < 0 by omega)]
      rfl
    · have ec : clL (D : Int) = Int64.ofInt (2 ^ 63 - 1) := by
        unfold clL
        rw [show max (-2 ^ 63) (min (2 ^ 63 - 1) (D : Int)) = 2 ^ 63 - 1 by omega]
      rw [ec]
      exact hmax
theorem nr24_max : nrM 24 (Int64.ofInt (2 ^ 63 - 1)) = Int64.ofInt (2 ^ 63 - 1) := by decide +kernel
theorem nr53_max : nrM 53 (Int64.ofInt (2 ^ 63 - 1)) = Int64.ofInt (2 ^ 63 - 1) := by decide +kernel
theorem fit_fit_n (k : Nat) (v : Int64) : fitM k (fitM k v) = fitM k v := by
  match k with
  | 0 =>
    show (if (if v = 0 then (0 : Int64) else 1) = 0 then (0 : Int64) else 1) = if v = 0 then (0 : Int64) else 1
    by_cases q : v = 0
    · rw [if_pos q]; rfl
    · rw [if_neg q]; rfl
  | 1 => show (v.toInt32.toInt8.toInt32.toInt64).toInt32.toInt8.toInt32.toInt64 = v.toInt32.toInt8.toInt32.toInt64; simp
  | 2 => show (v.toInt32.toInt16.toInt32.toInt64).toInt32.toInt16.toInt32.toInt64 = v.toInt32.toInt16.toInt32.toInt64; simp
  | 3 => show (v &&& 65535) &&& 65535 = v &&& 65535; rw [Int64.and_assoc]; rfl
  | 4 => show (v.toInt32.toInt64).toInt32.toInt64 = v.toInt32.toInt64; simp
  | 5 => rfl
  | 6 => rw [fit6_nr v, fit6_nr]; exact nrM_idem (by decide) nr24_max v
  | 7 => rw [fit7_nr v, fit7_nr]; exact nrM_idem (by decide) nr53_max v
  | z + 8 => rfl
