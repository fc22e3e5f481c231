/-! the law's loop (laid by wip/whole/mklaw.py) -/
theorem and31 (x : Int32) : ∃ n, n < 32 ∧ x &&& 31 = nI n := by
  refine ⟨(x.toBitVec &&& 31#32).toNat, ?_, ?_⟩
  · rw [BitVec.toNat_and]
    exact Nat.lt_of_le_of_lt Nat.and_le_right (by decide)
  · apply Int32.toBitVec_inj.mp
    show (x &&& 31).toBitVec = (Int32.ofNat _).toBitVec
    rw [Int32.toBitVec_and, Int32.toBitVec_ofNat', BitVec.ofNat_toNat, BitVec.setWidth_eq]
    rfl
theorem GG.up {nf nc ns nf' nc' ns' : Nat} {μ : xM} (h : GG nf nc ns μ) (h1 : nf ≤ nf') (h2 : nc ≤ nc') (h3 : ns ≤ ns') : GG nf' nc' ns' μ := by
  obtain ⟨φ, κ, hR, hM⟩ := h
  exact ⟨φ, κ, hR.upB h1 h2 h3, hM⟩
set_option maxRecDepth 100000 in
set_option maxHeartbeats 4000000 in
theorem law_sw {L i nf nc ns : Nat} {xs : Nat → Int32} {μ : xM} {Q : Option Value → xM → Prop} (hL : L ≤ 3072) (hi : i + 6 ≤ L) (hG : GG nf nc ns μ) (hf : nf + 40 < 2 ^ 30) (K : ∀ μ2, GG (nf + 40) (nc + 4) (ns + 101) μ2 → X kL_law (some (L, xs)) 1196 (xl [(0, .ref 0), (1, .ref 1), (2, .ref 44), (3, .int (nI i))]) [] μ2 Q) (x : Int32) : X kL_law (some (L, xs)) 33 (xl [(0, .ref 0), (1, .ref 1), (2, .ref 44), (3, .int (nI i))]) [.int (x &&& 31)] μ Q := by
  obtain ⟨n, hn, e⟩ := and31 x
  rw [e]
  match n, hn with
  | 0, _ => exact X.tabIn (tgt := 164) dL_law_33 (by decide) (by decide) rfl (by decide) (law_c0 hL hi hG hf K)
  | 1, _ => exact X.tabIn (tgt := 207) dL_law_33 (by decide) (by decide) rfl (by decide) (law_c1 hL hi hG hf K)
  | 2, _ => exact X.tabIn (tgt := 230) dL_law_33 (by decide) (by decide) rfl (by decide) (law_c2 hL hi hG hf K)
  | 3, _ => exact X.tabIn (tgt := 253) dL_law_33 (by decide) (by decide) rfl (by decide) (law_c3 hL hi hG hf K)
  | 4, _ => exact X.tabIn (tgt := 286) dL_law_33 (by decide) (by decide) rfl (by decide) (law_c4 hL hi hG hf K)
  | 5, _ => exact X.tabIn (tgt := 319) dL_law_33 (by decide) (by decide) rfl (by decide) (law_c5 hL hi hG hf K)
  | 6, _ => exact X.tabIn (tgt := 352) dL_law_33 (by decide) (by decide) rfl (by decide) (law_c6 hL hi hG hf K)
  | 7, _ => exact X.tabIn (tgt := 401) dL_law_33 (by decide) (by decide) rfl (by decide) (law_c7 hL hi hG hf K)
  | 8, _ => exact X.tabIn (tgt := 484) dL_law_33 (by decide) (by decide) rfl (by decide) (law_c8 hL hi hG hf K)
  | 9, _ => exact X.tabIn (tgt := 528) dL_law_33 (by decide) (by decide) rfl (by decide) (law_c9 hL hi hG hf K)
  | 10, _ => exact X.tabIn (tgt := 587) dL_law_33 (by decide) (by decide) rfl (by decide) (law_c10 hL hi hG hf K)
  | 11, _ => exact X.tabIn (tgt := 630) dL_law_33 (by decide) (by decide) rfl (by decide) (law_c11 hL hi hG hf K)
  | 12, _ => exact X.tabIn (tgt := 673) dL_law_33 (by decide) (by decide) rfl (by decide) (law_c12 hL hi hG hf K)
  | 13, _ => exact X.tabIn (tgt := 716) dL_law_33 (by decide) (by decide) rfl (by decide) (law_c13 hL hi hG hf K)
  | 14, _ => exact X.tabIn (tgt := 749) dL_law_33 (by decide) (by decide) rfl (by decide) (law_c14 hL hi hG hf K)
  | 15, _ => exact X.tabIn (tgt := 772) dL_law_33 (by decide) (by decide) rfl (by decide) (law_c15 hL hi hG hf K)
  | 16, _ => exact X.tabIn (tgt := 795) dL_law_33 (by decide) (by decide) rfl (by decide) (law_c16 hL hi hG hf K)
  | 17, _ => exact X.tabIn (tgt := 808) dL_law_33 (by decide) (by decide) rfl (by decide) (law_c17 hL hi hG hf K)
  | 18, _ => exact X.tabIn (tgt := 871) dL_law_33 (by decide) (by decide) rfl (by decide) (law_c18 hL hi hG hf K)
  | 19, _ => exact X.tabIn (tgt := 914) dL_law_33 (by decide) (by decide) rfl (by decide) (law_c19 hL hi hG hf K)
  | 20, _ => exact X.tabIn (tgt := 938) dL_law_33 (by decide) (by decide) rfl (by decide) (law_c20 hL hi hG hf K)
  | 21, _ => exact X.tabIn (tgt := 971) dL_law_33 (by decide) (by decide) rfl (by decide) (law_c21 hL hi hG hf K)
  | 22, _ => exact X.tabIn (tgt := 984) dL_law_33 (by decide) (by decide) rfl (by decide) (law_c22 hL hi hG hf K)
  | 23, _ => exact X.tabIn (tgt := 1018) dL_law_33 (by decide) (by decide) rfl (by decide) (law_c23 hL hi hG hf K)
  | 24, _ => exact X.tabIn (tgt := 1051) dL_law_33 (by decide) (by decide) rfl (by decide) (law_c24 hL hi hG hf K)
  | 25, _ => exact X.tabIn (tgt := 1074) dL_law_33 (by decide) (by decide) rfl (by decide) (law_c25 hL hi hG hf K)
  | 26, _ => exact X.tabIn (tgt := 1107) dL_law_33 (by decide) (by decide) rfl (by decide) (law_c26 hL hi hG hf K)
  | 27, _ => exact X.tabIn (tgt := 1140) dL_law_33 (by decide) (by decide) rfl (by decide) (law_c27 hL hi hG hf K)
  | 28, _ => exact X.tabIn (tgt := 1173) dL_law_33 (by decide) (by decide) rfl (by decide) (law_c28 hL hi hG hf K)
  | 29, _ => exact X.tabOut (tgt := 1196) dL_law_33 (by decide) (by decide) (K μ (hG.up (by omega) (by omega) (by omega)))
  | 30, _ => exact X.tabOut (tgt := 1196) dL_law_33 (by decide) (by decide) (K μ (hG.up (by omega) (by omega) (by omega)))
  | 31, _ => exact X.tabOut (tgt := 1196) dL_law_33 (by decide) (by decide) (K μ (hG.up (by omega) (by omega) (by omega)))
  | z + 32, h => exact absurd h (by omega)
set_option maxRecDepth 100000 in
set_option maxHeartbeats 4000000 in
theorem law_loop {L : Nat} {xs : Nat → Int32} (hL : L ≤ 3072) : ∀ (n i nf nc ns : Nat) (μ : xM), L ≤ i + 6 * n + 5 → i < 10000 → n ≤ 1000 → GG nf nc ns μ → nf + 40 * n < 2 ^ 30 → X kL_law (some (L, xs)) 18 (xl [(0, .ref 0), (1, .ref 1), (2, .ref 44), (3, .int (nI i))]) [] μ (fun r μ' => r = some (.int 1) ∧ mN μ' ≤ nc + 4 * n ∧ mS μ' ≤ ns + 101 * n) := by
  intro n
  induction n with
  | zero =>
    intro i nf nc ns μ hn hi10 hn1 hG hf
    refine X.iload_n dL_law_18 rfl ?_
    refine X.aload_n dL_law_19 rfl ?_
    refine X.slen dL_law_20 ?_
    refine X.bipush (v := 6) dL_law_21 (by decide) ?_
    refine X.isub dL_law_23 ?_
    refine X.icmp_gt_t (tgt := 1202) dL_law_24 (by decide) (by rw [Int32.lt_iff_toInt_lt, show (6 : Int32) = nI 6 from rfl, pk_sub_toInt (by omega) (by decide), nI_toInt (by omega)]; omega) ?_
    refine X.iconst (v := 1) dL_law_1202 (by decide) ?_
    exact X.ret dL_law_1203 ⟨rfl, hG.bd.1, hG.bd.2⟩
  | succ n ih =>
    intro i nf nc ns μ hn hi10 hn1 hG hf
    refine X.iload_n dL_law_18 rfl ?_
    refine X.aload_n dL_law_19 rfl ?_
    refine X.slen dL_law_20 ?_
    refine X.bipush (v := 6) dL_law_21 (by decide) ?_
    refine X.isub dL_law_23 ?_
    by_cases hi : i + 6 ≤ L
    · refine X.icmp_gt_f (tgt := 1202) dL_law_24 (by decide) (by rw [Int32.lt_iff_toInt_lt, show (6 : Int32) = nI 6 from rfl, pk_sub_toInt (by omega) (by decide), nI_toInt (by omega)]; omega) ?_
      refine X.aload_n dL_law_27 rfl ?_
      refine X.iload_n dL_law_28 rfl ?_
      refine X.sld (i := i) dL_law_29 rfl (by omega) (by omega) ?_
      refine X.bipush (v := 31) dL_law_30 (by decide) ?_
      refine X.iand dL_law_32 ?_
      refine law_sw hL hi hG (by omega) (fun μ2 hG2 => ?_) _
      refine X.iinc (v := nI (i + 6)) dL_law_1196 rfl (ixs rfl) (Nat.le_of_ble_eq_true rfl) ?_
      refine X.goto (tgt := 18) dL_law_1199 (by decide) ?_
      refine X.at [(0, .ref 0), (1, .ref 1), (2, .ref 44), (3, .int (nI (i + 6)))] ⟨rfl, rfl, rfl, rfl, trivial⟩ ?_
      refine X.mono (ih (i + 6) _ _ _ μ2 (by omega) (by omega) (by omega) hG2 (by omega)) (fun r μ' h => ⟨h.1, ?_, ?_⟩)
      · have := h.2.1; omega
      · have := h.2.2; omega
    · refine X.icmp_gt_t (tgt := 1202) dL_law_24 (by decide) (by rw [Int32.lt_iff_toInt_lt, show (6 : Int32) = nI 6 from rfl, pk_sub_toInt (by omega) (by decide), nI_toInt (by omega)]; omega) ?_
      refine X.iconst (v := 1) dL_law_1202 (by decide) ?_
      have hb := hG.bd
      exact X.ret dL_law_1203 ⟨rfl, by omega, by omega⟩
theorem law_X {L : Nat} {xs : Nat → Int32} (hL : L ≤ 3072) : X kL_law (some (L, xs)) 0 (xl [(0, .ref 0)]) [] x0 (fun r μ' => r = some (.int 1) ∧ mN μ' ≤ 2114 ∧ mS μ' ≤ 72196) := by
  refine law_init (fun m hG => ?_)
  refine X.mono (law_loop hL 512 0 _ _ _ m (by omega) (by omega) (by omega) hG (by omega)) (fun r μ' h => ⟨h.1, ?_, ?_⟩)
  · have := h.2.1; omega
  · have := h.2.2; omega
