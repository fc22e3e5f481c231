/-! a new tape (laid by wip/whole/mkpb10.py) -/
theorem sh_new {μ : xM} {a c n w : Nat} {s : Nat × Nat} (h : mT μ a = s) (hn : a ≠ mN μ) : mT (sNew μ c n w) a = s := by
  show (if a = mN μ then (c, n) else mT μ a) = s
  rw [if_neg hn]
  exact h
/-- an array is made for a new tape -/
theorem st_arr {m m2 : xM} {a c n j : Nat} (hm : sR (sNew m c n n) a j (some (mN m)) = m2) (hT : mT m a = (3, 0)) (ha : a < mN m) : mT m2 a = (3, 0) ∧ mT m2 (mN m) = (c, n) ∧ (∀ b, b < mN m → mT m2 b = mT m b ∧ mI m2 b = mI m b ∧ mJ m2 b = mJ m b) ∧ mR m2 a j = some (mN m) ∧ (∀ b i, b < mN m → (b ≠ a ∨ i ≠ j) → mR m2 b i = mR m b i) ∧ (∀ i, mJ m2 (mN m) i = 0 ∧ mR m2 (mN m) i = none) ∧ mN m2 = mN m + 1 ∧ mS m2 = mS m + n := by
  subst hm
  refine ⟨sh_new (w := n) hT (by omega), if_pos rfl, fun b hb => ⟨if_neg (by omega), ?_, ?_⟩, mR_s, fun b i hb h => ?_, fun i => ⟨if_pos rfl, ?_⟩, rfl, rfl⟩
  · funext i; exact if_neg (by omega)
  · funext i; exact if_neg (by omega)
  · rw [mR_sR]
    unfold up2
    rw [if_neg (by omega)]
    exact if_neg (by omega)
  · rw [mR_at (by omega)]
    exact if_pos rfl
def NewT (μ : xM) (a k n : Nat) (μ' : xM) : Prop := TS μ' a k n ∧ (∀ j, j < n → mI μ' (a + 1) j = (if k < 8 then nI k else nI 11) ∧ mJ μ' (a + 2) j = 0 ∧ mR μ' (a + 3) j = none) ∧ (∀ b, b < a → mT μ' b = mT μ b ∧ mI μ' b = mI μ b ∧ mJ μ' b = mJ μ b ∧ mR μ' b = mR μ b) ∧ mN μ' = mN μ + 3 ∧ mS μ' = mS μ + n + n + n
theorem fill_upd (x : Int32) (u : Nat → Int32) (i : Nat) : upd (fun j => if j < i then x else u j) i x = fun j => if j < i + 1 then x else u j := by
  funext j
  unfold upd
  by_cases e : j = i
  · rw [if_pos e, if_pos (by omega)]
  · rw [if_neg e]
    by_cases h : j < i
    · rw [if_pos (show j < i + 1 by omega)]; exact if_pos h
    · rw [if_neg (show ¬ j < i + 1 by omega)]; exact if_neg h
theorem fill_0 (μ : xM) (b : Nat) (x : Int32) : sA μ b (fun j => if j < 0 then x else mI μ b j) = μ := by
  have e : (fun j => if j < 0 then x else mI μ b j) = mI μ b := by funext j; rw [if_neg (Nat.not_lt_zero j)]
  rw [e]
  exact sA_self μ b
set_option maxRecDepth 100000 in
set_option maxHeartbeats 4000000 in
theorem tinp {a b k n : Nat} {μ : xM} {u : Nat → Int32} {Q : Option Value → xM → Prop} (hT : mT μ a = (3, 0)) (hb : mR μ a 2 = some b) (hS : mT μ b = (6, n)) (hn : n ≤ 32) (hk : k ≤ 10) (h8 : k < 8) (hq : Q none (sA μ b (fun j => if j < n then nI k else u j))) : ∀ (m i : Nat), i + m = n → X kX3_init none 38 (xl [(0, .ref a), (1, .int (nI k)), (2, .int (nI n)), (3, .int (nI i))]) [] (sA μ b (fun j => if j < i then nI k else u j)) (fun r μ' => xrok kX3_init.2.2.2.1 r ∧ Q r μ') := by
  intro m
  induction m with
  | zero =>
    intro i hi
    obtain rfl : i = n := by omega
    refine X.iload_n dX3_init_38 rfl ?_
    refine X.iload_n dX3_init_39 rfl ?_
    refine X.icmp_ge_t (tgt := 68) dX3_init_40 (by decide) (nI_le (Nat.le_refl _) (by omega)) ?_
    refine X.retv dX3_init_68 ⟨trivial, ?_⟩
    exact hq
  | succ m ih =>
    intro i hi
    have hj : i < n := by omega
    refine X.iload_n dX3_init_38 rfl ?_
    refine X.iload_n dX3_init_39 rfl ?_
    refine X.icmp_ge_f (tgt := 68) dX3_init_40 (by decide) (nI_ge hj (by omega)) ?_
    refine X.aload_n dX3_init_43 rfl ?_
    refine X.getR (b := b) (kf := 2) dX3_init_44 (hT) (by decide) (by decide) rfl wf_X3_18 (hb) ?_
    refine X.iload_n dX3_init_47 rfl ?_
    refine X.iload_n dX3_init_48 rfl ?_
    refine X.cSN1i (k' := kX4_isPlain) dX3_init_49 v_X4_isPlain (host := "PatchBay") (List.mem_of_getElem? (i := 1) rfl) wt_X4_isPlain ⟨Nat.le_of_ble_eq_true rfl, Nat.le_of_ble_eq_true rfl⟩ n_X4_isPlain (Nat.le_of_ble_eq_true rfl) ?_
    refine x_isPlain_t (rng_nI h8 (by decide)) ?_
    refine ⟨_, rfl, ?_⟩
    refine X.if_eq_f (tgt := 59) dX3_init_52 (by decide) ((by decide)) ?_
    refine X.iload_n dX3_init_55 rfl ?_
    refine X.goto (tgt := 61) dX3_init_56 (by decide) ?_
    refine X.iast dX3_init_61 (hS) (rfl) (hj) (by omega) ?_
    refine X.iinc1 dX3_init_62 rfl (Nat.le_of_ble_eq_true rfl) ?_
    refine X.goto (tgt := 38) dX3_init_65 (by decide) ?_
    rw [sA_sI]
    exact X.at [(0, .ref a), (1, .int (nI k)), (2, .int (nI n)), (3, .int (nI (i + 1)))] ⟨rfl, rfl, rfl, iN i, trivial⟩ (by have w := ih (i + 1) (by omega); rw [← fill_upd] at w; exact w)
set_option maxRecDepth 100000 in
set_option maxHeartbeats 4000000 in
theorem tins {a b k n : Nat} {μ : xM} {u : Nat → Int32} {Q : Option Value → xM → Prop} (hT : mT μ a = (3, 0)) (hb : mR μ a 2 = some b) (hS : mT μ b = (6, n)) (hn : n ≤ 32) (hk : k ≤ 10) (h8 : ¬ k < 8) (hq : Q none (sA μ b (fun j => if j < n then nI 11 else u j))) : ∀ (m i : Nat), i + m = n → X kX3_init none 38 (xl [(0, .ref a), (1, .int (nI k)), (2, .int (nI n)), (3, .int (nI i))]) [] (sA μ b (fun j => if j < i then nI 11 else u j)) (fun r μ' => xrok kX3_init.2.2.2.1 r ∧ Q r μ') := by
  intro m
  induction m with
  | zero =>
    intro i hi
    obtain rfl : i = n := by omega
    refine X.iload_n dX3_init_38 rfl ?_
    refine X.iload_n dX3_init_39 rfl ?_
    refine X.icmp_ge_t (tgt := 68) dX3_init_40 (by decide) (nI_le (Nat.le_refl _) (by omega)) ?_
    refine X.retv dX3_init_68 ⟨trivial, ?_⟩
    exact hq
  | succ m ih =>
    intro i hi
    have hj : i < n := by omega
    refine X.iload_n dX3_init_38 rfl ?_
    refine X.iload_n dX3_init_39 rfl ?_
    refine X.icmp_ge_f (tgt := 68) dX3_init_40 (by decide) (nI_ge hj (by omega)) ?_
    refine X.aload_n dX3_init_43 rfl ?_
    refine X.getR (b := b) (kf := 2) dX3_init_44 (hT) (by decide) (by decide) rfl wf_X3_18 (hb) ?_
    refine X.iload_n dX3_init_47 rfl ?_
    refine X.iload_n dX3_init_48 rfl ?_
    refine X.cSN1i (k' := kX4_isPlain) dX3_init_49 v_X4_isPlain (host := "PatchBay") (List.mem_of_getElem? (i := 1) rfl) wt_X4_isPlain ⟨Nat.le_of_ble_eq_true rfl, Nat.le_of_ble_eq_true rfl⟩ n_X4_isPlain (Nat.le_of_ble_eq_true rfl) ?_
    refine x_isPlain_f (rng_out (Nat.not_lt.mp h8) (by omega)) ?_
    refine ⟨_, rfl, ?_⟩
    refine X.if_eq_t (tgt := 59) dX3_init_52 (by decide) ((by decide)) ?_
    refine X.bipush (v := 11) dX3_init_59 (by decide) ?_
    refine X.iast dX3_init_61 (hS) (rfl) (hj) (by omega) ?_
    refine X.iinc1 dX3_init_62 rfl (Nat.le_of_ble_eq_true rfl) ?_
    refine X.goto (tgt := 38) dX3_init_65 (by decide) ?_
    rw [sA_sI]
    exact X.at [(0, .ref a), (1, .int (nI k)), (2, .int (nI n)), (3, .int (nI (i + 1)))] ⟨rfl, rfl, rfl, iN i, trivial⟩ (by have w := ih (i + 1) (by omega); rw [← fill_upd] at w; exact w)
theorem tape_facts {μ m2 m3 m4 : xM} {a k n : Nat} {x : Int32} (hx : x = if k < 8 then nI k else nI 11) (ha : mN μ = a + 1) (hT : mT m4 a = (3, 0))
    (F2 : mT m2 a = (3, 0) ∧ mT m2 (mN (sI (sI μ a 0 (nI k)) a 1 (nI n))) = (6, n) ∧ (∀ b, b < mN (sI (sI μ a 0 (nI k)) a 1 (nI n)) → mT m2 b = mT (sI (sI μ a 0 (nI k)) a 1 (nI n)) b ∧ mI m2 b = mI (sI (sI μ a 0 (nI k)) a 1 (nI n)) b ∧ mJ m2 b = mJ (sI (sI μ a 0 (nI k)) a 1 (nI n)) b) ∧ mR m2 a 2 = some (mN (sI (sI μ a 0 (nI k)) a 1 (nI n))) ∧ (∀ b i, b < mN (sI (sI μ a 0 (nI k)) a 1 (nI n)) → (b ≠ a ∨ i ≠ 2) → mR m2 b i = mR (sI (sI μ a 0 (nI k)) a 1 (nI n)) b i) ∧ (∀ i, mJ m2 (mN (sI (sI μ a 0 (nI k)) a 1 (nI n))) i = 0 ∧ mR m2 (mN (sI (sI μ a 0 (nI k)) a 1 (nI n))) i = none) ∧ mN m2 = mN (sI (sI μ a 0 (nI k)) a 1 (nI n)) + 1 ∧ mS m2 = mS (sI (sI μ a 0 (nI k)) a 1 (nI n)) + n)
    (F3 : mT m3 a = (3, 0) ∧ mT m3 (mN m2) = (7, n) ∧ (∀ b, b < mN m2 → mT m3 b = mT m2 b ∧ mI m3 b = mI m2 b ∧ mJ m3 b = mJ m2 b) ∧ mR m3 a 3 = some (mN m2) ∧ (∀ b i, b < mN m2 → (b ≠ a ∨ i ≠ 3) → mR m3 b i = mR m2 b i) ∧ (∀ i, mJ m3 (mN m2) i = 0 ∧ mR m3 (mN m2) i = none) ∧ mN m3 = mN m2 + 1 ∧ mS m3 = mS m2 + n)
    (F4 : mT m4 a = (3, 0) ∧ mT m4 (mN m3) = (11, n) ∧ (∀ b, b < mN m3 → mT m4 b = mT m3 b ∧ mI m4 b = mI m3 b ∧ mJ m4 b = mJ m3 b) ∧ mR m4 a 4 = some (mN m3) ∧ (∀ b i, b < mN m3 → (b ≠ a ∨ i ≠ 4) → mR m4 b i = mR m3 b i) ∧ (∀ i, mJ m4 (mN m3) i = 0 ∧ mR m4 (mN m3) i = none) ∧ mN m4 = mN m3 + 1 ∧ mS m4 = mS m3 + n) :
    NewT μ a k n (sA m4 (a + 1) (fun j => if j < n then x else mI m4 (a + 1) j)) := by
  obtain ⟨-, b2, c2, d2, e2, f2, n2, s2⟩ := F2
  obtain ⟨-, b3, c3, d3, e3, f3, n3, s3⟩ := F3
  obtain ⟨-, b4, c4, d4, e4, f4, n4, s4⟩ := F4
  have n1 : mN (sI (sI μ a 0 (nI k)) a 1 (nI n)) = a + 1 := ha
  have s1 : mS (sI (sI μ a 0 (nI k)) a 1 (nI n)) = mS μ := rfl
  rw [n1] at b2 c2 d2 e2 f2 n2
  rw [s1] at s2
  rw [n2] at b3 c3 d3 e3 f3 n3
  rw [n3] at b4 c4 d4 e4 f4 n4
  have hA : ∀ b, b ≠ a + 1 → mI (sA m4 (a + 1) (fun j => if j < n then x else mI m4 (a + 1) j)) b = mI m4 b := fun b hb => by funext j; exact if_neg hb
  have i4 : mI m4 a = mI (sI (sI μ a 0 (nI k)) a 1 (nI n)) a := by rw [(c4 a (by omega)).2.1, (c3 a (by omega)).2.1, (c2 a (by omega)).2.1]
  refine ⟨⟨⟨hT, ?_, ?_, b4⟩, ⟨?_, ?_⟩, ?_, ?_, d4⟩, fun j hj => ⟨?_, ?_, (f4 j).2⟩, fun b hb => ⟨?_, ?_, ?_, ?_⟩, ?_, ?_⟩
  · show mT m4 (a + 1) = _
    rw [(c4 _ (by omega)).1, (c3 _ (by omega)).1, b2]
  · show mT m4 (a + 2) = _
    rw [(c4 _ (by omega)).1]; exact b3
  · rw [hA a (by omega), i4, mI_k (by decide), mI_s]
  · rw [hA a (by omega), i4, mI_s]
  · show mR m4 a 2 = _
    rw [e4 a 2 (by omega) (Or.inr (by decide)), e3 a 2 (by omega) (Or.inr (by decide)), d2]
  · show mR m4 a 3 = _
    rw [e4 a 3 (by omega) (Or.inr (by decide)), d3]
  · show (if a + 1 = a + 1 then (if j < n then x else mI m4 (a + 1) j) else _) = _
    rw [if_pos rfl, if_pos hj, hx]
  · show mJ m4 (a + 2) j = 0
    rw [(c4 _ (by omega)).2.2]; exact (f3 j).1
  · show mT m4 b = _
    rw [(c4 b (by omega)).1, (c3 b (by omega)).1, (c2 b (by omega)).1]; rfl
  · rw [hA b (by omega), (c4 b (by omega)).2.1, (c3 b (by omega)).2.1, (c2 b (by omega)).2.1, mI_at (by omega), mI_at (by omega)]
  · show mJ m4 b = _
    rw [(c4 b (by omega)).2.2, (c3 b (by omega)).2.2, (c2 b (by omega)).2.2]; rfl
  · show mR m4 b = _
    funext i
    rw [e4 b i (by omega) (Or.inl (by omega)), e3 b i (by omega) (Or.inl (by omega)), e2 b i (by omega) (Or.inl (by omega))]; rfl
  · show mN m4 = _
    omega
  · show mS m4 = _
    omega
set_option maxRecDepth 100000 in
set_option maxHeartbeats 4000000 in
theorem x_tapeInit {a k n : Nat} {μ : xM} {Q : Option Value → xM → Prop} (hT : mT μ a = (3, 0)) (ha : mN μ = a + 1) (hk : k ≤ 10) (hn : n ≤ 32) (hq : ∀ μ2, NewT μ a k n μ2 → Q none μ2) : Mt kX3_init [.ref a, .int (nI k), .int (nI n)] μ Q := by
  refine Mt.enter rfl (Nat.le_of_ble_eq_true rfl) ?_
  refine X.aload_n dX3_init_0 rfl ?_
  refine X.objInit dX3_init_1 wm_X3_3 wi_obj w_objc ⟨Nat.le_of_ble_eq_true rfl, Nat.le_of_ble_eq_true rfl⟩ ?_
  refine X.aload_n dX3_init_4 rfl ?_
  refine X.iload_n dX3_init_5 rfl ?_
  refine X.putI (kf := 0) dX3_init_6 (hT) (by decide) (by decide) rfl (Or.inr ⟨rfl, rfl, rfl⟩) ⟨rfl, rfl⟩ wf_X3_9 ?_
  refine X.aload_n dX3_init_9 rfl ?_
  refine X.iload_n dX3_init_10 rfl ?_
  refine X.putI (kf := 1) dX3_init_11 (hT) (by decide) (by decide) rfl (Or.inr ⟨rfl, rfl, rfl⟩) ⟨rfl, rfl⟩ wf_X3_15 ?_
  refine X.aload_n dX3_init_14 rfl ?_
  refine X.iload_n dX3_init_15 rfl ?_
  refine X.newI (n := n) dX3_init_16 wa_int (rfl) (by omega) ?_
  have hTn := sh_new (c := 6) (n := n) (w := n) (μ := (sI (sI μ a 0 (nI k)) a 1 (nI n))) hT (show a ≠ mN μ by omega)
  have hTo := hT
  have hT := hTn
  refine X.putR (kf := 2) dX3_init_18 (hT) (by decide) (by decide) rfl (Or.inr ⟨rfl, rfl, rfl⟩) (fun _ => ⟨rfl, rfl⟩) wf_X3_18 ?_
  generalize hm2 : sR (sNew (sI (sI μ a 0 (nI k)) a 1 (nI n)) 6 n n) a 2 (some (mN (sI (sI μ a 0 (nI k)) a 1 (nI n)))) = m2
  have F2 := st_arr hm2 hTo (show a < mN μ by omega)
  have hT := F2.1
  have hN2 : mN m2 = mN μ + 1 := F2.2.2.2.2.2.2.1
  refine X.aload_n dX3_init_21 rfl ?_
  refine X.iload_n dX3_init_22 rfl ?_
  refine X.newJ (n := n) dX3_init_23 wa_long (rfl) (by omega) ?_
  have hTn := sh_new (c := 7) (n := n) (w := n) (μ := m2) hT (show a ≠ mN m2 by omega)
  have hTo := hT
  have hT := hTn
  refine X.putR (kf := 3) dX3_init_25 (hT) (by decide) (by decide) rfl (Or.inr ⟨rfl, rfl, rfl⟩) (fun _ => ⟨rfl, rfl⟩) wf_X3_22 ?_
  generalize hm3 : sR (sNew m2 7 n n) a 3 (some (mN m2)) = m3
  have F3 := st_arr hm3 hTo (by omega)
  have hT := F3.1
  have hN3 : mN m3 = mN m2 + 1 := F3.2.2.2.2.2.2.1
  refine X.aload_n dX3_init_28 rfl ?_
  refine X.iload_n dX3_init_29 rfl ?_
  refine X.anew (c := 11) (n := n) dX3_init_30 (by decide) wc_X3_10 (rfl) (by omega) ?_
  have hTn := sh_new (c := 11) (n := n) (w := n) (μ := m3) hT (show a ≠ mN m3 by omega)
  have hTo := hT
  have hT := hTn
  refine X.putR (kf := 4) dX3_init_33 (hT) (by decide) (by decide) rfl (Or.inr ⟨rfl, rfl, rfl⟩) (fun _ => ⟨rfl, rfl⟩) wf_X3_26 ?_
  generalize hm4 : sR (sNew m3 11 n n) a 4 (some (mN m3)) = m4
  have F4 := st_arr hm4 hTo (by omega)
  have hT := F4.1
  have e42 : mR m4 a 2 = some (a + 1) := by
    rw [F4.2.2.2.2.1 a 2 (by omega) (Or.inr (by decide)), F3.2.2.2.2.1 a 2 (by omega) (Or.inr (by decide)), F2.2.2.2.1]
    exact congrArg some ha
  have e4S1 : mT m4 (a + 1) = (6, n) := by
    rw [(F4.2.2.1 (a + 1) (by omega)).1, (F3.2.2.1 (a + 1) (by omega)).1]
    have w := F2.2.1
    rw [show mN (sI (sI μ a 0 (nI k)) a 1 (nI n)) = a + 1 from ha] at w
    exact w
  refine X.iconst (v := 0) dX3_init_36 (by decide) ?_
  refine X.istore_n dX3_init_37 (Nat.le_of_ble_eq_true rfl) ?_
  refine X.at [(0, .ref a), (1, .int (nI k)), (2, .int (nI n)), (3, .int (nI 0))] ⟨rfl, rfl, rfl, rfl, trivial⟩ ?_
  by_cases h8 : k < 8
  · have w := tinp (Q := Q) (u := mI m4 (a + 1)) hT e42 e4S1 hn hk h8 (hq _ (tape_facts (x := nI k) (if_pos h8).symm ha hT F2 F3 F4)) n 0 (by omega)
    rw [fill_0] at w
    exact w
  · have w := tins (Q := Q) (u := mI m4 (a + 1)) hT e42 e4S1 hn hk h8 (hq _ (tape_facts (x := nI 11) (if_neg h8).symm ha hT F2 F3 F4)) n 0 (by omega)
    rw [fill_0] at w
    exact w
def NewP (μ : xM) (k n : Nat) (μ' : xM) : Prop := TS μ' (mN μ) k n ∧ (∀ j, j < n → mI μ' (mN μ + 1) j = (if k < 8 then nI k else nI 11) ∧ mJ μ' (mN μ + 2) j = 0 ∧ mR μ' (mN μ + 3) j = none) ∧ (∀ b, b < mN μ → mT μ' b = mT μ b ∧ mI μ' b = mI μ b ∧ mJ μ' b = mJ μ b ∧ mR μ' b = mR μ b) ∧ mN μ' = mN μ + 4 ∧ mS μ' = mS μ + (5 + n + n + n)
theorem NewT.p {μ μ2 : xM} {k n : Nat} (h : NewT (sNew μ 3 0 5) (mN μ) k n μ2) : NewP μ k n μ2 := by
  obtain ⟨h1, h2, h3, h4, h5⟩ := h
  refine ⟨h1, h2, fun b hb => ?_, by rw [h4]; rfl, by rw [h5, mS_sNew]; omega⟩
  obtain ⟨e1, e2, e3, e4⟩ := h3 b hb
  rw [e1, e2, e3, e4]
  refine ⟨if_neg (by omega), ?_, ?_, ?_⟩
  · funext j; exact if_neg (by omega)
  · funext j; exact if_neg (by omega)
  · funext j; exact if_neg (by omega)
def Und (ν : xM) (φ κ : Nat → Nat) (E : Nat → Prop) (b : Nat) : Prop := 66 ≤ b ∧ (∀ t, lvE ν E t → φ t + 3 < b) ∧ ∀ k, k < qM ν → κ k < b
theorem Rel.und {ρ ν μ : xM} {φ κ : Nat → Nat} {B : Nat × Nat × Nat × (Nat → Prop)} (h : Rel ρ ν μ φ κ B) : Und ν φ κ B.2.2.2 (mN μ) := ⟨h.2.1.2.2.2.2, fun t q => (h.2.2.2.2.2.1.1 t q).1.2, fun k q => (h.2.2.2.2.2.2.1.1 k q).2.1.2⟩
/-- cells beyond what the relation speaks of may change -/
theorem Rel.ext {ρ ν μ : xM} {φ κ : Nat → Nat} {B : Nat × Nat × Nat × (Nat → Prop)} {μ' : xM} {b N S : Nat} (h : Rel ρ ν μ φ κ B) (hu : Und ν φ κ B.2.2.2 b) (e : ∀ a, a < b → mT μ' a = mT μ a ∧ mI μ' a = mI μ a ∧ mJ μ' a = mJ μ a ∧ mR μ' a = mR μ a) (hb : mN μ ≤ mN μ') (hN : mN μ' ≤ N) (hS : mS μ' ≤ S) : Rel ρ ν μ' φ κ (B.1, N, S, B.2.2.2) := by
  obtain ⟨h1, h2, h3, h4, h5, h6, h7, h8⟩ := h
  obtain ⟨u1, u2, u3⟩ := hu
  refine ⟨⟨fun a a1 a2 => ?_, ?_, ?_⟩, ⟨fun a a1 a2 => ?_, fun k hk => ?_, fun c hc => ⟨?_, ?_⟩, fun i hi => ⟨?_, ?_⟩, ?_⟩, h3, ⟨?_, fun r r1 r2 => ?_, fun i hi => ?_⟩, fun c hc => (h5 c hc).cg (e _ (by omega)).2.1 ?_, ⟨fun t q => (h6.1 t q).cg (fun i hi => ?_) hb, h6.2⟩, ⟨fun k hk => ⟨?_, (h7.1 k hk).2.cg ?_ hb⟩, fun k k1 k2 => ?_, h7.2.2⟩, hN, hS⟩
  · rw [(e a (by omega)).1, (e a (by omega)).2.1]; exact h1.1 a a1 a2
  · rw [(e 48 (by omega)).2.2.1]; exact h1.2.1
  · rw [(e 44 (by omega)).2.2.2]; exact h1.2.2
  · rw [(e a (by omega)).1]; exact h2.1 a a1 a2
  · rw [(e 1 (by omega)).2.2.2]; exact h2.2.1 k hk
  · rw [(e _ (by omega)).1]; exact (h2.2.2.1 c hc).1
  · rw [(e 2 (by omega)).2.2.2]; exact (h2.2.2.1 c hc).2
  · rw [(e _ (by omega)).1]; exact (h2.2.2.2.1 i hi).1
  · rw [(e 4 (by omega)).2.2.2]; exact (h2.2.2.2.1 i hi).2
  · have := h2.2.2.2.2; omega
  · rw [(e 1 (by omega)).2.1]; exact h4.1
  · rw [(e 25 (by omega)).2.1]; exact h4.2.1 r r1 r2
  · rw [(e _ (by omega)).2.1]; exact h4.2.2 i hi
  · rw [(e _ (by omega)).2.2.2]
  · have := u2 t q; exact e _ (by omega)
  · rw [(e 3 (by omega)).2.2.2]; exact (h7.1 k hk).1
  · have := e _ (u3 k hk); exact ⟨this.1, this.2.1, this.2.2.2⟩
  · rw [(e 3 (by omega)).2.2.2]; exact h7.2.1 k k1 k2
theorem Rel.newP {ρ ν μ : xM} {φ κ : Nat → Nat} {B : Nat × Nat × Nat × (Nat → Prop)} {μ' : xM} (h : Rel ρ ν μ φ κ B) {k n : Nat} (hn : NewP μ k n μ') : Rel ρ ν μ' φ κ (B.1, B.2.1 + 4, B.2.2.1 + (5 + n + n + n), B.2.2.2) := by
  have h8 := h.2.2.2.2.2.2.2
  obtain ⟨-, -, h3, h4, h5⟩ := hn
  exact h.ext h.und h3 (by omega) (by omega) (by omega)
/-- the reference's memory is another one at the tape t0 alone -/
def AtT (ν ν' : xM) (t0 : Nat) : Prop := (∀ a, a ≠ 45 → a ≠ 46 → a ≠ 47 → mI ν' a = mI ν a) ∧ (∀ t, t ≠ t0 → mI ν' 45 t = mI ν 45 t ∧ mI ν' 46 t = mI ν 46 t) ∧ ∀ t, t ≠ t0 → ∀ j, j < 32 → cv ν' t j = cv ν t j
theorem Rel.born {ρ ν μ : xM} {φ κ : Nat → Nat} {B : Nat × Nat × Nat × (Nat → Prop)} {ν' : xM} {φ' : Nat → Nat} {t0 : Nat} (h : Rel ρ ν μ φ κ B) (hE : ∀ t, ¬ B.2.2.2 t) (ht : t0 < 560) (hl : ¬ liveM ν t0) (hA : AtT ν ν' t0) (eφ : ∀ t, t ≠ t0 → φ' t = φ t) (hφ : ∀ t, lvE ν B.2.2.2 t → φ t ≠ φ' t0)
    (hk : mI ν' 45 t0 = nI (kd ν' t0) ∧ kd ν' t0 ≤ 10) (hs : mI ν' 46 t0 = nI (sz ν' t0) ∧ sz ν' t0 ≤ 32)
    (hc : ∀ j, j < sz ν' t0 → OKc ν (kd ν' t0) (cv ν' t0 j) ∧ (8 ≤ kd ν' t0 → cv ν' t0 j = lN (lx (cv ν' t0 j)) ∧ lx (cv ν' t0 j) ≤ 560 ∧ (kd ν' t0 < 10 → lx (cv ν' t0 j) ≤ 200)) ∧ (kd ν' t0 = 10 → lx (cv ν' t0 j) ≠ 0 → liveM ν (lx (cv ν' t0 j) - 1) ∧ kd ν (lx (cv ν' t0 j) - 1) = 4))
    (hTR : TR ν' μ φ' t0) : Rel ρ ν' μ φ' κ B ∧ HoldOK ν' μ φ' B.2.2.2 t0 := by
  have hw := h.wt
  have hws := h.ws
  obtain ⟨A1, A2, A3⟩ := hA
  have e50 : mI ν' 50 = mI ν 50 := A1 50 (by decide) (by decide) (by decide)
  have nt : ∀ c, noTapeM ν' c = noTapeM ν c := fun c => by unfold noTapeM; rw [e50]
  have et : ∀ c, tp ν' c = tp ν c := fun c => by unfold tp; rw [e50]
  have ek : ∀ t, t ≠ t0 → kd ν' t = kd ν t := fun t q => by unfold kd; rw [(A2 t q).1]
  have es : ∀ t, t ≠ t0 → sz ν' t = sz ν t := fun t q => by unfold sz; rw [(A2 t q).2]
  have ntp : ∀ c, c < 16 → noTapeM ν c = 0 → tp ν c ≠ t0 := fun c c1 c2 q => hl (q ▸ live_c c1 c2)
  have lE : ∀ t, lvE ν B.2.2.2 t → liveM ν t := fun t q => q.elim id (fun w => absurd w.1 (hE t))
  have lv : ∀ t, lvE ν' B.2.2.2 t ↔ lvE ν B.2.2.2 t := by
    intro t
    constructor
    · intro q
      refine q.elim (fun q => Or.inl ?_) (fun w => absurd w.1 (hE t))
      obtain ⟨c, c1, c2, q⟩ := q
      rw [nt] at c2
      have c3 := ntp c c1 c2
      rw [et, ek _ c3, es _ c3] at q
      refine ⟨c, c1, c2, q.elim Or.inl (fun ⟨k10, j, hj, w⟩ => Or.inr ⟨k10, j, hj, ?_⟩)⟩
      rw [← A3 _ c3 j (by have := sz_le hw (tp_lt hw c1 c2); omega)]; exact w
    · intro q
      obtain ⟨c, c1, c2, q⟩ := lE t q
      have c3 := ntp c c1 c2
      refine Or.inl ⟨c, c1, by rw [nt]; exact c2, ?_⟩
      rw [et, ek _ c3, es _ c3]
      refine q.elim Or.inl (fun ⟨k10, j, hj, w⟩ => Or.inr ⟨k10, j, hj, ?_⟩)
      rw [A3 _ c3 j (by have := sz_le hw (tp_lt hw c1 c2); omega)]; exact w
  have nel : ∀ t, lvE ν B.2.2.2 t → t ≠ t0 := fun t q w => hl (w ▸ lE t q)
  have e49 := A1 49 (by decide) (by decide) (by decide)
  have e44 := A1 44 (by decide) (by decide) (by decide)
  have eg : gM ν' = gM ν := by unfold gM; rw [e44]
  have eq : qM ν' = qM ν := by unfold qM; rw [e44]
  have ef : fM ν' = fM ν := by unfold fM; rw [e44]
  have hT : ∀ t, lvE ν B.2.2.2 t → TR ν' μ φ' t := by
    intro t q
    have n0 := nel t q
    have hlt := lvE_lt hw q
    have hsz := sz_le hw hlt
    refine TR.nu (φ := φ) (ν := ν) (h.2.2.2.2.2.1.1 t q) (ek t n0) (es t n0) (fun j hj => ?_) (eφ t n0)
    have ec := A3 t n0 j (by omega)
    refine ⟨?_, ?_, ?_⟩
    · unfold cellKindM; rw [ek t n0, ec, e49]
    · unfold numM
      rw [ek t n0, ec]
      by_cases k10 : kd ν t = 10
      · rw [if_pos k10, if_pos k10]
        by_cases h0 : 0 < cv ν t j
        · rw [if_pos h0, if_pos h0]
          have hx : lx (cv ν t j) ≠ 0 := fun w => by
            have := (hw.2.2 t hlt (by omega) j hj).1
            rw [w] at this; rw [this] at h0; exact absurd h0 (by decide)
          have hd : lx (cv ν t j) - 1 ≠ t0 := by
            obtain ⟨c, c1, c2, w⟩ := lE t q
            rcases w with w | ⟨w10, i, hi, w⟩
            · rw [← w] at k10 hj hx ⊢
              exact nel _ (Or.inl ⟨c, c1, c2, Or.inr ⟨k10, j, hj, by omega⟩⟩)
            · have := h.2.2.2.2.2.1.2.2 c c1 c2 w10 i hi (by omega)
              rw [w, Nat.add_sub_cancel] at this
              omega
          rw [(A2 _ hd).2]
        · rw [if_neg h0, if_neg h0]
      · rw [if_neg k10, if_neg k10]
    · unfold tref
      rw [ek t n0, ec]
      by_cases k10 : kd ν t = 10
      · rw [if_pos k10, if_pos k10]
        by_cases h0 : lx (cv ν t j) = 0
        · rw [if_pos h0, if_pos h0]
        · rw [if_neg h0, if_neg h0]
          have hd : lx (cv ν t j) - 1 ≠ t0 := by
            obtain ⟨c, c1, c2, w⟩ := lE t q
            rcases w with w | ⟨w10, i, hi, w⟩
            · rw [← w] at k10 hj h0 ⊢
              exact nel _ (Or.inl ⟨c, c1, c2, Or.inr ⟨k10, j, hj, by omega⟩⟩)
            · have := h.2.2.2.2.2.1.2.2 c c1 c2 w10 i hi (by omega)
              rw [w, Nat.add_sub_cancel] at this
              omega
          rw [eφ _ hd]
      · rw [if_neg k10, if_neg k10]
  obtain ⟨h1, h2, h3, h4, h5, h6, h7, h8⟩ := h
  refine ⟨⟨h1, h2, ⟨⟨fun c c1 c2 => ?_, fun t ht' => ?_, fun t ht' k8 j hj => ?_⟩, ?_, ?_, ?_, fun t ht' j hj => ?_⟩, ?_, fun c c1 => ?_, ⟨fun t q => hT t ((lv t).mp q), fun t t' q q' w => ?_, fun c c1 c2 k10 j hj hx => ?_⟩, ?_, h8⟩, ht, hTR, fun t q w => ?_, fun k10 j hj hx => ?_⟩
  · rw [nt] at c2; rw [et, e50]; exact h3.1.1 c c1 c2
  · by_cases q : t = t0
    · rw [q]; exact ⟨hk, hs⟩
    · rw [ek t q, es t q, (A2 t q).1, (A2 t q).2]; exact h3.1.2.1 t ht'
  · by_cases q : t = t0
    · rw [q] at k8 hj ⊢; exact (hc j hj).2.1 k8
    · rw [ek t q] at k8 ⊢
      rw [es t q] at hj
      rw [A3 t q j (by have := sz_le hw ht'; omega)]
      exact h3.1.2.2 t ht' k8 j hj
  · unfold WFc ck cf ct
    rw [eq, e44, A1 54 (by decide) (by decide) (by decide), A1 55 (by decide) (by decide) (by decide), A1 56 (by decide) (by decide) (by decide)]
    exact h3.2.1
  · unfold WFg; rw [eg, e44]; exact h3.2.2.1
  · rw [ef, e44]; exact h3.2.2.2.1
  · unfold OKc
    rw [eg, e49]
    by_cases q : t = t0
    · rw [q] at hj ⊢; exact (hc j hj).1
    · rw [ek t q]
      rw [es t q] at hj
      rw [A3 t q j (by have := sz_le hw ht'; omega)]
      exact hws t ht' j hj
  · unfold RSc
    rw [e44, A1 65 (by decide) (by decide) (by decide), A1 62 (by decide) (by decide) (by decide), A1 63 (by decide) (by decide) (by decide), A1 64 (by decide) (by decide) (by decide)]
    exact h4
  · have w := h5 c c1
    unfold CH at w ⊢
    rw [nt, et, e50, A1 51 (by decide) (by decide) (by decide), A1 52 (by decide) (by decide) (by decide), A1 53 (by decide) (by decide) (by decide)]
    by_cases z : noTapeM ν c = 0
    · rw [if_pos z] at w ⊢
      rw [eφ _ (ntp c c1 z)]; exact w
    · rw [if_neg z] at w ⊢; exact w
  · have n0 := nel t ((lv t).mp q)
    have n1 := nel t' ((lv t').mp q')
    rw [eφ t n0, eφ t' n1] at w
    exact h6.2.1 t t' ((lv t).mp q) ((lv t').mp q') w
  · rw [nt] at c2
    have c3 := ntp c c1 c2
    rw [et] at k10 hj hx ⊢
    rw [ek _ c3] at k10
    rw [es _ c3] at hj
    have l := sz_le hw (tp_lt hw c1 c2)
    rw [A3 _ c3 j (by omega)] at hx ⊢
    have hd := nel _ (Or.inl ⟨c, c1, c2, Or.inr ⟨k10, j, hj, by omega⟩⟩ : lvE ν B.2.2.2 (lx (cv ν (tp ν c) j) - 1))
    rw [ek _ hd]
    exact h6.2.2 c c1 c2 k10 j hj hx
  · unfold RCb CR cf ct
    rw [eq, A1 54 (by decide) (by decide) (by decide), A1 55 (by decide) (by decide) (by decide), A1 56 (by decide) (by decide) (by decide), A1 57 (by decide) (by decide) (by decide), A1 58 (by decide) (by decide) (by decide), A1 59 (by decide) (by decide) (by decide), A1 60 (by decide) (by decide) (by decide), A1 61 (by decide) (by decide) (by decide)]
    exact h7
  · have q2 := (lv t).mp q
    rw [eφ t (nel t q2)] at w
    exact absurd w (hφ t q2)
  · obtain ⟨w1, w2⟩ := (hc j hj).2.2 k10 hx
    have hd := nel _ (Or.inl w1)
    exact ⟨(lv _).mpr (Or.inl w1), by rw [ek _ hd]; exact w2⟩
