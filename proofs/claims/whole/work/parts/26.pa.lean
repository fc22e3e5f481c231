/-! the class: its small methods (laid by wip/whole/mkpb1.py) -/
theorem Met.ofWF {l : Launch} {y : MethodName} {ws ws' : List Cond} {rm : Room} {Pc : Array Value → State → Prop} {Qc : Array Value → State → Outcome → State → Prop} {mc ms : Nat} {free : Addr → Prop} {cc : ByteArray} {maxL : Nat} {ret : Option FieldType}
    (hy : plainFor y = true) (hw : ws = Cond.code y cc maxL ret :: ws')
    (body : ∀ p e s m args below meth c s₁, BodyLoose p l y (headSpec ws rm) cc maxL ret e s m args below meth c s₁ → c.maxLocals = maxL → Pc args s →
      W p l e (headSpec ws rm).room s m args below meth c s.heap [] 0 0 (MQ below Qc args s mc ms free) (entryFrame m args maxL)) : Met l y ws rm Pc Qc mc ms free := by
  refine MetFree.of_bodySF (code := cc) (maxLocals := maxL) (ret := ret) hy ?_ ?_
  · intro args s m h hn
    obtain ⟨meth, c, h1, h2, h3, h4, h5, h6, -, -⟩ := Cond.code_spec hn (atoms_spec (ws := ws) h _ (by rw [hw]; exact List.mem_cons_self))
    exact ⟨meth, c, h1, h2, h3, h4, h5, h6⟩
  · intro p e s m args below meth c s₁ B hml hP _
    have hh0 : s₁.heap = s.heap := by rw [B.state]; rfl
    obtain ⟨t, a1, o, b1, b2, b3⟩ := body p e s m args below meth c s₁ B hml hP s₁ hh0 (Stand.of_body B)
    exact ⟨t, o, a1, b1, b2, ⟨b3.1, b3.2⟩⟩
theorem Mt.enterF {k : xk} {as : List Value} {μ : xM} {Q : Option Value → xM → Prop} (hk : plainFor k.1 = true) (hsl : (lg_sl as).length ≤ k.2.2.1)
    (h : X k none 0 (xl (lv_args 0 as)) [] μ (fun r μ' => xrok k.2.2.2.1 r ∧ Q r μ')) : Mt k as μ Q := by
  obtain ⟨r, μ', ⟨hm, hw⟩, hok, hq⟩ := h
  refine ⟨r, μ', ⟨hm, fun l g => ?_⟩, hq⟩
  refine Met.ofWF (cc := k.2.1) (maxL := k.2.2.1) (ret := k.2.2.2.1) hk rfl ?_
  intro p e s m args below meth c s₁ B hml hv
  obtain ⟨rfl, hR, hKs⟩ := hv
  have hr := B.returns
  have hx := B.exec
  have hb := B.bytes
  have hts := atoms_spec (ws := xws k) B.pre
  have hlocks := B.notSynchronized
  rw [lg_entry_eq]
  have hbase : xbase g ≤ s.heap.size := by rw [hR.2.1]; omega
  have hS : xS k none g p (headSpec (xws k) (xrm k (mN μ' - mN μ) (mS μ' - mS μ))).room s m (as.map (xv g)).toArray meth c :=
    ⟨hx, hb, hml, findClass_of_methodNamed B.named, fun w hw => hts w (List.mem_cons_of_mem _ hw), (name_of_methodNamed B.named B.method).1, hKs, Nat.le_refl _, Nat.le_refl _, hbase, fun L xs h => by cases h⟩
  have hent := lv_entry (as.map (xv g)) (n := k.2.2.1) (by rw [xsl_map]; exact hsl)
  refine hw p l e _ s m _ below meth c g hS s.heap [] 0 0 _ _ ⟨hR, fun _ _ => rfl, fun q hq => by cases hq⟩ (by rw [Nat.zero_add]; exact Nat.le_refl _) (by rw [Nat.zero_add]; exact Nat.le_refl _) ⟨hent.1, hent.2.1, fun i v hi => ?_⟩ (fun H' locs' pc' ls' hH' hd => ?_)
  · refine hent.2.2 (i, xv g v) ?_
    rw [xargs_map]
    exact List.mem_map.mpr ⟨(i, v), xl_mem _ i v hi, rfl⟩
  · rw [Nat.zero_add, Nat.zero_add]
    generalize hret : k.2.2.2.1 = ret at hr hd hok
    have hQ : ∀ t : State, t.heap = H' → s.WarmedH t.vm → xQc g μ' r (as.map (xv g)).toArray s (.returned (r.map (xv g))) t := fun t ht _ => ⟨rfl, by rw [ht]; exact hH'.1, fun q hq => by rw [ht]; exact hH'.2.1 q hq⟩
    have hf : ∀ q ∈ locs', (fun q => xbase g ≤ q) q.base := hH'.2.2
    cases ret with
    | none =>
      cases r with
      | some v => exact hok.elim
      | none => exact W.vret hx hb hr hQ hf hd
    | some ty =>
      cases r with
      | none => cases ty <;> exact hok.elim
      | some v =>
        cases ty with
        | int =>
          cases v with
          | int v => exact W.iret hx hb hr hQ hf hd
          | _ => exact hok.elim
        | boolean =>
          cases v with
          | int v => exact W.zret hx hb hr (by rcases hok with rfl | rfl <;> rfl) hQ hf hd
          | _ => exact hok.elim
        | long =>
          cases v with
          | long v => exact W.lret hx hb hr hQ hf hd
          | _ => exact hok.elim
        | object n =>
          cases v with
          | null => exact W.aret hx hb hr (Or.inl ⟨n, rfl⟩) (Or.inl rfl) hQ hf hd
          | ref a => exact W.aret hx hb hr (Or.inl ⟨n, rfl⟩) (Or.inr ⟨_, rfl⟩) hQ hf hd
          | _ => exact hok.elim
        | _ => cases v <;> exact hok.elim
def shq : Nat → Nat × Nat := fun a => match a with
  | 1 => (4, 0)
  | 2 => (10, 16)
  | 3 => (9, 24)
  | 4 => (12, 20)
  | 25 => (6, 6)
  | 26 => (1, 0)
  | 27 => (1, 0)
  | _ => (6, 3)
def pfld : Nat → Option Nat := fun k => match k with
  | 0 => some 2
  | 1 => some 3
  | 5 => some 4
  | 7 => some 25
  | 9 => some 26
  | 10 => some 27
  | _ => none
/-- the class's own cells that never change their shape or what they lead to -/
def ShP (μ : xM) : Prop := (∀ a, 1 ≤ a → a < 28 → mT μ a = shq a) ∧ (∀ k, k < 11 → mR μ 1 k = pfld k) ∧ (∀ c, c < 16 → mT μ (28 + c) = (2, 0) ∧ mR μ 2 c = some (28 + c)) ∧ (∀ i, i < 20 → mT μ (5 + i) = (6, 3) ∧ mR μ 4 i = some (5 + i)) ∧ 66 ≤ mN μ
def noteP (μ : xM) (r : Nat) : xM := sI (sI μ 1 8 (nI r)) 25 r (if r = 0 then mI μ 25 0 else mI μ 25 r + 1)
def meetP (μ : xM) (r : Nat) : xM := sI μ 25 r (if r = 0 then mI μ 25 0 else mI μ 25 r + 1)
theorem meetP_0 (μ : xM) : meetP μ 0 = μ := by
  unfold meetP
  rw [if_pos rfl]
  exact sI_self μ 25 0
theorem meetP_pos (μ : xM) {r : Nat} (h : r ≠ 0) : meetP μ r = sI μ 25 r (mI μ 25 r + 1) := by
  unfold meetP
  rw [if_neg h]
theorem i32_nn {x : Int32} : 0 ≤ x ↔ 0 ≤ x.toInt := by rw [Int32.le_iff_toInt_le, i0]
theorem i32_msb (x : Int32) : x.toBitVec.msb = decide (x.toInt < 0) := BitVec.msb_eq_toInt
theorem xor_nn {x y : Int32} (hy : 0 ≤ y.toInt) : 0 ≤ x ^^^ y ↔ 0 ≤ x.toInt := by
  rw [i32_nn]
  have e1 := i32_msb (x ^^^ y)
  have e2 : (x ^^^ y).toBitVec = x.toBitVec ^^^ y.toBitVec := rfl
  rw [e2, BitVec.msb_xor, i32_msb x, i32_msb y, show decide (y.toInt < 0) = false from decide_eq_false (by omega), Bool.xor_false] at e1
  have e3 : x.toInt < 0 ↔ (x ^^^ y).toInt < 0 := by
    constructor
    · intro h; rw [decide_eq_true h] at e1; exact of_decide_eq_true e1.symm
    · intro h; rw [decide_eq_true h] at e1; exact of_decide_eq_true e1
  omega
theorem char_and (v : Int64) : (v.toInt32.toUInt32 % 65536).toInt32.toInt64 = v &&& 65535 := by
  have key : ∀ x : BitVec 64, ((x.signExtend 32) % 65536#32).signExtend 64 = x &&& 65535#64 := by
    intro x
    have e1 : ((x.signExtend 32) % 65536#32).toNat = x.toNat % 65536 := by
      rw [BitVec.toNat_umod, BitVec.signExtend_eq_setWidth_of_le x (by decide), BitVec.toNat_setWidth]
      show x.toNat % 2 ^ 32 % 65536 = _
      omega
    have hm : ((x.signExtend 32) % 65536#32).msb = false := by
      rw [BitVec.msb_eq_false_iff_two_mul_lt, e1]
      omega
    apply BitVec.eq_of_toNat_eq
    rw [BitVec.signExtend_eq_setWidth_of_msb_false hm, BitVec.toNat_setWidth, e1, BitVec.toNat_and]
    show x.toNat % 65536 % 2 ^ 64 = x.toNat &&& (2 ^ 16 - 1)
    rw [Nat.and_two_pow_sub_one_eq_mod]
    omega
  apply Int64.toBitVec_inj.mp
  exact key v.toBitVec
theorem rem_sign {x n : Int32} (hn : 0 < n.toInt) : (0 ≤ x.toInt → 0 ≤ x - x / n * n) ∧ (x.toInt < 0 → x - x / n * n ≤ 0) := by
  have e := rem_toInt x n
  constructor
  · intro h
    rw [i32_nn, e]
    exact Int.tmod_nonneg _ h
  · intro h
    rw [Int32.le_iff_toInt_le, e, i0]
    have e2 : x.toInt.tmod n.toInt = -((-x.toInt).tmod n.toInt) := by rw [Int.neg_tmod, Int.neg_neg]
    have := Int.tmod_nonneg n.toInt (a := -x.toInt) (by omega)
    omega
set_option maxRecDepth 100000 in
set_option maxHeartbeats 4000000 in
theorem x_isPlain_t {k : Int32} {i : Nat} {μ : xM} {Q : Option Value → xM → Prop} (h : rng k 8 = some i) (hq : Q (some (.int 1)) μ) : Mt kX4_isPlain [.int k] μ Q := by
  have hr := rng_in (hi := 7) h (by decide) rfl
  refine Mt.enter rfl (Nat.le_of_ble_eq_true rfl) ?_
  refine X.iload_n dX4_isPlain_0 rfl ?_
  refine X.if_lt_f (tgt := 14) dX4_isPlain_1 (by decide) (Int32.not_lt.mpr hr.1) ?_
  refine X.iload_n dX4_isPlain_4 rfl ?_
  refine X.bipush (v := 7) dX4_isPlain_5 (by decide) ?_
  refine X.icmp_gt_f (tgt := 14) dX4_isPlain_7 (by decide) (Int32.not_lt.mpr hr.2) ?_
  refine X.iconst (v := 1) dX4_isPlain_10 (by decide) ?_
  refine X.goto (tgt := 15) dX4_isPlain_11 (by decide) ?_
  refine X.ret dX4_isPlain_15 ⟨(by first | exact Or.inl rfl | exact Or.inr rfl), ?_⟩
  exact hq
set_option maxRecDepth 100000 in
set_option maxHeartbeats 4000000 in
theorem x_isPlain_f {k : Int32} {μ : xM} {Q : Option Value → xM → Prop} (h : rng k 8 = none) (hq : Q (some (.int 0)) μ) : Mt kX4_isPlain [.int k] μ Q := by
  have hr := rng_no (hi := 7) h (by decide) rfl
  refine Mt.enter rfl (Nat.le_of_ble_eq_true rfl) ?_
  refine X.iload_n dX4_isPlain_0 rfl ?_
  refine X.if_lt (tgt := 14) dX4_isPlain_1 (by decide) (fun c1 => ?_) (fun c1 => ?_)
  · refine X.iconst (v := 0) dX4_isPlain_14 (by decide) ?_
    refine X.ret dX4_isPlain_15 ⟨(by first | exact Or.inl rfl | exact Or.inr rfl), ?_⟩
    exact hq
  · refine X.iload_n dX4_isPlain_4 rfl ?_
    refine X.bipush (v := 7) dX4_isPlain_5 (by decide) ?_
    refine X.icmp_gt (tgt := 14) dX4_isPlain_7 (by decide) (fun c7 => ?_) (fun c7 => ?_)
    · refine X.iconst (v := 0) dX4_isPlain_14 (by decide) ?_
      refine X.ret dX4_isPlain_15 ⟨(by first | exact Or.inl rfl | exact Or.inr rfl), ?_⟩
      exact hq
    · exact absurd ⟨Int32.not_lt.mp c1, Int32.not_lt.mp c7⟩ hr
set_option maxRecDepth 100000 in
set_option maxHeartbeats 4000000 in
theorem x_isTapeKind_t {k : Int32} {i : Nat} {μ : xM} {Q : Option Value → xM → Prop} (h : rng k 11 = some i) (hq : Q (some (.int 1)) μ) : Mt kX4_isTapeKind [.int k] μ Q := by
  have hr := rng_in (hi := 10) h (by decide) rfl
  refine Mt.enter rfl (Nat.le_of_ble_eq_true rfl) ?_
  refine X.iload_n dX4_isTapeKind_0 rfl ?_
  refine X.if_lt_f (tgt := 14) dX4_isTapeKind_1 (by decide) (Int32.not_lt.mpr hr.1) ?_
  refine X.iload_n dX4_isTapeKind_4 rfl ?_
  refine X.bipush (v := 10) dX4_isTapeKind_5 (by decide) ?_
  refine X.icmp_gt_f (tgt := 14) dX4_isTapeKind_7 (by decide) (Int32.not_lt.mpr hr.2) ?_
  refine X.iconst (v := 1) dX4_isTapeKind_10 (by decide) ?_
  refine X.goto (tgt := 15) dX4_isTapeKind_11 (by decide) ?_
  refine X.ret dX4_isTapeKind_15 ⟨(by first | exact Or.inl rfl | exact Or.inr rfl), ?_⟩
  exact hq
set_option maxRecDepth 100000 in
set_option maxHeartbeats 4000000 in
theorem x_isTapeKind_f {k : Int32} {μ : xM} {Q : Option Value → xM → Prop} (h : rng k 11 = none) (hq : Q (some (.int 0)) μ) : Mt kX4_isTapeKind [.int k] μ Q := by
  have hr := rng_no (hi := 10) h (by decide) rfl
  refine Mt.enter rfl (Nat.le_of_ble_eq_true rfl) ?_
  refine X.iload_n dX4_isTapeKind_0 rfl ?_
  refine X.if_lt (tgt := 14) dX4_isTapeKind_1 (by decide) (fun c1 => ?_) (fun c1 => ?_)
  · refine X.iconst (v := 0) dX4_isTapeKind_14 (by decide) ?_
    refine X.ret dX4_isTapeKind_15 ⟨(by first | exact Or.inl rfl | exact Or.inr rfl), ?_⟩
    exact hq
  · refine X.iload_n dX4_isTapeKind_4 rfl ?_
    refine X.bipush (v := 10) dX4_isTapeKind_5 (by decide) ?_
    refine X.icmp_gt (tgt := 14) dX4_isTapeKind_7 (by decide) (fun c7 => ?_) (fun c7 => ?_)
    · refine X.iconst (v := 0) dX4_isTapeKind_14 (by decide) ?_
      refine X.ret dX4_isTapeKind_15 ⟨(by first | exact Or.inl rfl | exact Or.inr rfl), ?_⟩
      exact hq
    · exact absurd ⟨Int32.not_lt.mp c1, Int32.not_lt.mp c7⟩ hr
set_option maxRecDepth 100000 in
set_option maxHeartbeats 4000000 in
theorem x_takes0 {o : Fin 13} {μ : xM} {Q : Option Value → xM → Prop} (hq : Q (some (.int (if takesM 0 o.val then 1 else 0))) μ) : Mt kX4_takes [.int (nI 0), .int (nI o.val)] μ Q := by
  refine Mt.enter rfl (Nat.le_of_ble_eq_true rfl) ?_
  refine X.iload_n dX4_takes_0 rfl ?_
  refine X.tabIn (tgt := 120) dX4_takes_1 (by decide) (by decide) (rfl) (by decide) ?_
  refine X.iload_n dX4_takes_120 rfl ?_
  refine X.iload_n dX4_takes_121 rfl ?_
  refine X.icmp_ne (tgt := 129) dX4_takes_122 (by decide) (fun c122 => ?_) (fun c122 => ?_)
  · refine X.iconst (v := 0) dX4_takes_129 (by decide) ?_
    refine X.ret dX4_takes_130 ⟨(by first | exact Or.inl rfl | exact Or.inr rfl), ?_⟩
    first
      | (have e : takesM 0 o.val = true := by clear hq; revert o; decide +kernel
         rw [e] at hq; exact hq)
      | (have e : takesM 0 o.val = false := by clear hq; revert o; decide +kernel
         rw [e] at hq; exact hq)
  · refine X.iconst (v := 1) dX4_takes_125 (by decide) ?_
    refine X.goto (tgt := 130) dX4_takes_126 (by decide) ?_
    refine X.ret dX4_takes_130 ⟨(by first | exact Or.inl rfl | exact Or.inr rfl), ?_⟩
    first
      | (have e : takesM 0 o.val = true := by clear hq; revert o; decide +kernel
         rw [e] at hq; exact hq)
      | (have e : takesM 0 o.val = false := by clear hq; revert o; decide +kernel
         rw [e] at hq; exact hq)
set_option maxRecDepth 100000 in
set_option maxHeartbeats 4000000 in
theorem x_takes1 {o : Fin 13} {μ : xM} {Q : Option Value → xM → Prop} (hq : Q (some (.int (if takesM 1 o.val then 1 else 0))) μ) : Mt kX4_takes [.int (nI 1), .int (nI o.val)] μ Q := by
  refine Mt.enter rfl (Nat.le_of_ble_eq_true rfl) ?_
  refine X.iload_n dX4_takes_0 rfl ?_
  refine X.tabIn (tgt := 120) dX4_takes_1 (by decide) (by decide) (rfl) (by decide) ?_
  refine X.iload_n dX4_takes_120 rfl ?_
  refine X.iload_n dX4_takes_121 rfl ?_
  refine X.icmp_ne (tgt := 129) dX4_takes_122 (by decide) (fun c122 => ?_) (fun c122 => ?_)
  · refine X.iconst (v := 0) dX4_takes_129 (by decide) ?_
    refine X.ret dX4_takes_130 ⟨(by first | exact Or.inl rfl | exact Or.inr rfl), ?_⟩
    first
      | (have e : takesM 1 o.val = true := by clear hq; revert o; decide +kernel
         rw [e] at hq; exact hq)
      | (have e : takesM 1 o.val = false := by clear hq; revert o; decide +kernel
         rw [e] at hq; exact hq)
  · refine X.iconst (v := 1) dX4_takes_125 (by decide) ?_
    refine X.goto (tgt := 130) dX4_takes_126 (by decide) ?_
    refine X.ret dX4_takes_130 ⟨(by first | exact Or.inl rfl | exact Or.inr rfl), ?_⟩
    first
      | (have e : takesM 1 o.val = true := by clear hq; revert o; decide +kernel
         rw [e] at hq; exact hq)
      | (have e : takesM 1 o.val = false := by clear hq; revert o; decide +kernel
         rw [e] at hq; exact hq)
set_option maxRecDepth 100000 in
set_option maxHeartbeats 4000000 in
theorem x_takes2 {o : Fin 13} {μ : xM} {Q : Option Value → xM → Prop} (hq : Q (some (.int (if takesM 2 o.val then 1 else 0))) μ) : Mt kX4_takes [.int (nI 2), .int (nI o.val)] μ Q := by
  refine Mt.enter rfl (Nat.le_of_ble_eq_true rfl) ?_
  refine X.iload_n dX4_takes_0 rfl ?_
  refine X.tabIn (tgt := 131) dX4_takes_1 (by decide) (by decide) (rfl) (by decide) ?_
  refine X.iload_n dX4_takes_131 rfl ?_
  refine X.iconst (v := 1) dX4_takes_132 (by decide) ?_
  refine X.icmp_eq (tgt := 141) dX4_takes_133 (by decide) (fun c133 => ?_) (fun c133 => ?_)
  · refine X.iconst (v := 1) dX4_takes_141 (by decide) ?_
    refine X.goto (tgt := 146) dX4_takes_142 (by decide) ?_
    refine X.ret dX4_takes_146 ⟨(by first | exact Or.inl rfl | exact Or.inr rfl), ?_⟩
    first
      | (have e : takesM 2 o.val = true := by clear hq; revert o; decide +kernel
         rw [e] at hq; exact hq)
      | (have e : takesM 2 o.val = false := by clear hq; revert o; decide +kernel
         rw [e] at hq; exact hq)
  · refine X.iload_n dX4_takes_136 rfl ?_
    refine X.iconst (v := 2) dX4_takes_137 (by decide) ?_
    refine X.icmp_ne (tgt := 145) dX4_takes_138 (by decide) (fun c138 => ?_) (fun c138 => ?_)
    · refine X.iconst (v := 0) dX4_takes_145 (by decide) ?_
      refine X.ret dX4_takes_146 ⟨(by first | exact Or.inl rfl | exact Or.inr rfl), ?_⟩
      first
        | (have e : takesM 2 o.val = true := by clear hq; revert o; decide +kernel
           rw [e] at hq; exact hq)
        | (have e : takesM 2 o.val = false := by clear hq; revert o; decide +kernel
           rw [e] at hq; exact hq)
    · refine X.iconst (v := 1) dX4_takes_141 (by decide) ?_
      refine X.goto (tgt := 146) dX4_takes_142 (by decide) ?_
      refine X.ret dX4_takes_146 ⟨(by first | exact Or.inl rfl | exact Or.inr rfl), ?_⟩
      first
        | (have e : takesM 2 o.val = true := by clear hq; revert o; decide +kernel
           rw [e] at hq; exact hq)
        | (have e : takesM 2 o.val = false := by clear hq; revert o; decide +kernel
           rw [e] at hq; exact hq)
set_option maxRecDepth 100000 in
set_option maxHeartbeats 4000000 in
theorem x_takes3 {o : Fin 13} {μ : xM} {Q : Option Value → xM → Prop} (hq : Q (some (.int (if takesM 3 o.val then 1 else 0))) μ) : Mt kX4_takes [.int (nI 3), .int (nI o.val)] μ Q := by
  refine Mt.enter rfl (Nat.le_of_ble_eq_true rfl) ?_
  refine X.iload_n dX4_takes_0 rfl ?_
  refine X.tabIn (tgt := 120) dX4_takes_1 (by decide) (by decide) (rfl) (by decide) ?_
  refine X.iload_n dX4_takes_120 rfl ?_
  refine X.iload_n dX4_takes_121 rfl ?_
  refine X.icmp_ne (tgt := 129) dX4_takes_122 (by decide) (fun c122 => ?_) (fun c122 => ?_)
  · refine X.iconst (v := 0) dX4_takes_129 (by decide) ?_
    refine X.ret dX4_takes_130 ⟨(by first | exact Or.inl rfl | exact Or.inr rfl), ?_⟩
    first
      | (have e : takesM 3 o.val = true := by clear hq; revert o; decide +kernel
         rw [e] at hq; exact hq)
      | (have e : takesM 3 o.val = false := by clear hq; revert o; decide +kernel
         rw [e] at hq; exact hq)
  · refine X.iconst (v := 1) dX4_takes_125 (by decide) ?_
    refine X.goto (tgt := 130) dX4_takes_126 (by decide) ?_
    refine X.ret dX4_takes_130 ⟨(by first | exact Or.inl rfl | exact Or.inr rfl), ?_⟩
    first
      | (have e : takesM 3 o.val = true := by clear hq; revert o; decide +kernel
         rw [e] at hq; exact hq)
      | (have e : takesM 3 o.val = false := by clear hq; revert o; decide +kernel
         rw [e] at hq; exact hq)
set_option maxRecDepth 100000 in
set_option maxHeartbeats 4000000 in
theorem x_takes4 {o : Fin 13} {μ : xM} {Q : Option Value → xM → Prop} (hq : Q (some (.int (if takesM 4 o.val then 1 else 0))) μ) : Mt kX4_takes [.int (nI 4), .int (nI o.val)] μ Q := by
  refine Mt.enter rfl (Nat.le_of_ble_eq_true rfl) ?_
  refine X.iload_n dX4_takes_0 rfl ?_
  refine X.tabIn (tgt := 147) dX4_takes_1 (by decide) (by decide) (rfl) (by decide) ?_
  refine X.iload_n dX4_takes_147 rfl ?_
  refine X.iconst (v := 1) dX4_takes_148 (by decide) ?_
  refine X.icmp_lt (tgt := 161) dX4_takes_149 (by decide) (fun c149 => ?_) (fun c149 => ?_)
  · refine X.iconst (v := 0) dX4_takes_161 (by decide) ?_
    refine X.ret dX4_takes_162 ⟨(by first | exact Or.inl rfl | exact Or.inr rfl), ?_⟩
    first
      | (have e : takesM 4 o.val = true := by clear hq; revert o; decide +kernel
         rw [e] at hq; exact hq)
      | (have e : takesM 4 o.val = false := by clear hq; revert o; decide +kernel
         rw [e] at hq; exact hq)
  · refine X.iload_n dX4_takes_152 rfl ?_
    refine X.iload_n dX4_takes_153 rfl ?_
    refine X.icmp_gt (tgt := 161) dX4_takes_154 (by decide) (fun c154 => ?_) (fun c154 => ?_)
    · refine X.iconst (v := 0) dX4_takes_161 (by decide) ?_
      refine X.ret dX4_takes_162 ⟨(by first | exact Or.inl rfl | exact Or.inr rfl), ?_⟩
      first
        | (have e : takesM 4 o.val = true := by clear hq; revert o; decide +kernel
           rw [e] at hq; exact hq)
        | (have e : takesM 4 o.val = false := by clear hq; revert o; decide +kernel
           rw [e] at hq; exact hq)
    · refine X.iconst (v := 1) dX4_takes_157 (by decide) ?_
      refine X.goto (tgt := 162) dX4_takes_158 (by decide) ?_
      refine X.ret dX4_takes_162 ⟨(by first | exact Or.inl rfl | exact Or.inr rfl), ?_⟩
      first
        | (have e : takesM 4 o.val = true := by clear hq; revert o; decide +kernel
           rw [e] at hq; exact hq)
        | (have e : takesM 4 o.val = false := by clear hq; revert o; decide +kernel
           rw [e] at hq; exact hq)
set_option maxRecDepth 100000 in
set_option maxHeartbeats 4000000 in
theorem x_takes5 {o : Fin 13} {μ : xM} {Q : Option Value → xM → Prop} (hq : Q (some (.int (if takesM 5 o.val then 1 else 0))) μ) : Mt kX4_takes [.int (nI 5), .int (nI o.val)] μ Q := by
  refine Mt.enter rfl (Nat.le_of_ble_eq_true rfl) ?_
  refine X.iload_n dX4_takes_0 rfl ?_
  refine X.tabIn (tgt := 147) dX4_takes_1 (by decide) (by decide) (rfl) (by decide) ?_
  refine X.iload_n dX4_takes_147 rfl ?_
  refine X.iconst (v := 1) dX4_takes_148 (by decide) ?_
  refine X.icmp_lt (tgt := 161) dX4_takes_149 (by decide) (fun c149 => ?_) (fun c149 => ?_)
  · refine X.iconst (v := 0) dX4_takes_161 (by decide) ?_
    refine X.ret dX4_takes_162 ⟨(by first | exact Or.inl rfl | exact Or.inr rfl), ?_⟩
    first
      | (have e : takesM 5 o.val = true := by clear hq; revert o; decide +kernel
         rw [e] at hq; exact hq)
      | (have e : takesM 5 o.val = false := by clear hq; revert o; decide +kernel
         rw [e] at hq; exact hq)
  · refine X.iload_n dX4_takes_152 rfl ?_
    refine X.iload_n dX4_takes_153 rfl ?_
    refine X.icmp_gt (tgt := 161) dX4_takes_154 (by decide) (fun c154 => ?_) (fun c154 => ?_)
    · refine X.iconst (v := 0) dX4_takes_161 (by decide) ?_
      refine X.ret dX4_takes_162 ⟨(by first | exact Or.inl rfl | exact Or.inr rfl), ?_⟩
      first
        | (have e : takesM 5 o.val = true := by clear hq; revert o; decide +kernel
           rw [e] at hq; exact hq)
        | (have e : takesM 5 o.val = false := by clear hq; revert o; decide +kernel
           rw [e] at hq; exact hq)
    · refine X.iconst (v := 1) dX4_takes_157 (by decide) ?_
      refine X.goto (tgt := 162) dX4_takes_158 (by decide) ?_
      refine X.ret dX4_takes_162 ⟨(by first | exact Or.inl rfl | exact Or.inr rfl), ?_⟩
      first
        | (have e : takesM 5 o.val = true := by clear hq; revert o; decide +kernel
           rw [e] at hq; exact hq)
        | (have e : takesM 5 o.val = false := by clear hq; revert o; decide +kernel
           rw [e] at hq; exact hq)
set_option maxRecDepth 100000 in
set_option maxHeartbeats 4000000 in
theorem x_takes6 {o : Fin 13} {μ : xM} {Q : Option Value → xM → Prop} (hq : Q (some (.int (if takesM 6 o.val then 1 else 0))) μ) : Mt kX4_takes [.int (nI 6), .int (nI o.val)] μ Q := by
  refine Mt.enter rfl (Nat.le_of_ble_eq_true rfl) ?_
  refine X.iload_n dX4_takes_0 rfl ?_
  refine X.tabIn (tgt := 147) dX4_takes_1 (by decide) (by decide) (rfl) (by decide) ?_
  refine X.iload_n dX4_takes_147 rfl ?_
  refine X.iconst (v := 1) dX4_takes_148 (by decide) ?_
  refine X.icmp_lt (tgt := 161) dX4_takes_149 (by decide) (fun c149 => ?_) (fun c149 => ?_)
  · refine X.iconst (v := 0) dX4_takes_161 (by decide) ?_
    refine X.ret dX4_takes_162 ⟨(by first | exact Or.inl rfl | exact Or.inr rfl), ?_⟩
    first
      | (have e : takesM 6 o.val = true := by clear hq; revert o; decide +kernel
         rw [e] at hq; exact hq)
      | (have e : takesM 6 o.val = false := by clear hq; revert o; decide +kernel
         rw [e] at hq; exact hq)
  · refine X.iload_n dX4_takes_152 rfl ?_
    refine X.iload_n dX4_takes_153 rfl ?_
    refine X.icmp_gt (tgt := 161) dX4_takes_154 (by decide) (fun c154 => ?_) (fun c154 => ?_)
    · refine X.iconst (v := 0) dX4_takes_161 (by decide) ?_
      refine X.ret dX4_takes_162 ⟨(by first | exact Or.inl rfl | exact Or.inr rfl), ?_⟩
      first
        | (have e : takesM 6 o.val = true := by clear hq; revert o; decide +kernel
           rw [e] at hq; exact hq)
        | (have e : takesM 6 o.val = false := by clear hq; revert o; decide +kernel
           rw [e] at hq; exact hq)
    · refine X.iconst (v := 1) dX4_takes_157 (by decide) ?_
      refine X.goto (tgt := 162) dX4_takes_158 (by decide) ?_
      refine X.ret dX4_takes_162 ⟨(by first | exact Or.inl rfl | exact Or.inr rfl), ?_⟩
      first
        | (have e : takesM 6 o.val = true := by clear hq; revert o; decide +kernel
           rw [e] at hq; exact hq)
        | (have e : takesM 6 o.val = false := by clear hq; revert o; decide +kernel
           rw [e] at hq; exact hq)
set_option maxRecDepth 100000 in
set_option maxHeartbeats 4000000 in
theorem x_takes7 {o : Fin 13} {μ : xM} {Q : Option Value → xM → Prop} (hq : Q (some (.int (if takesM 7 o.val then 1 else 0))) μ) : Mt kX4_takes [.int (nI 7), .int (nI o.val)] μ Q := by
  refine Mt.enter rfl (Nat.le_of_ble_eq_true rfl) ?_
  refine X.iload_n dX4_takes_0 rfl ?_
  refine X.tabIn (tgt := 147) dX4_takes_1 (by decide) (by decide) (rfl) (by decide) ?_
  refine X.iload_n dX4_takes_147 rfl ?_
  refine X.iconst (v := 1) dX4_takes_148 (by decide) ?_
  refine X.icmp_lt (tgt := 161) dX4_takes_149 (by decide) (fun c149 => ?_) (fun c149 => ?_)
  · refine X.iconst (v := 0) dX4_takes_161 (by decide) ?_
    refine X.ret dX4_takes_162 ⟨(by first | exact Or.inl rfl | exact Or.inr rfl), ?_⟩
    first
      | (have e : takesM 7 o.val = true := by clear hq; revert o; decide +kernel
         rw [e] at hq; exact hq)
      | (have e : takesM 7 o.val = false := by clear hq; revert o; decide +kernel
         rw [e] at hq; exact hq)
  · refine X.iload_n dX4_takes_152 rfl ?_
    refine X.iload_n dX4_takes_153 rfl ?_
    refine X.icmp_gt (tgt := 161) dX4_takes_154 (by decide) (fun c154 => ?_) (fun c154 => ?_)
    · refine X.iconst (v := 0) dX4_takes_161 (by decide) ?_
      refine X.ret dX4_takes_162 ⟨(by first | exact Or.inl rfl | exact Or.inr rfl), ?_⟩
      first
        | (have e : takesM 7 o.val = true := by clear hq; revert o; decide +kernel
           rw [e] at hq; exact hq)
        | (have e : takesM 7 o.val = false := by clear hq; revert o; decide +kernel
           rw [e] at hq; exact hq)
    · refine X.iconst (v := 1) dX4_takes_157 (by decide) ?_
      refine X.goto (tgt := 162) dX4_takes_158 (by decide) ?_
      refine X.ret dX4_takes_162 ⟨(by first | exact Or.inl rfl | exact Or.inr rfl), ?_⟩
      first
        | (have e : takesM 7 o.val = true := by clear hq; revert o; decide +kernel
           rw [e] at hq; exact hq)
        | (have e : takesM 7 o.val = false := by clear hq; revert o; decide +kernel
           rw [e] at hq; exact hq)
set_option maxRecDepth 100000 in
set_option maxHeartbeats 4000000 in
theorem x_takes8 {o : Fin 13} {μ : xM} {Q : Option Value → xM → Prop} (hq : Q (some (.int (if takesM 8 o.val then 1 else 0))) μ) : Mt kX4_takes [.int (nI 8), .int (nI o.val)] μ Q := by
  refine Mt.enter rfl (Nat.le_of_ble_eq_true rfl) ?_
  refine X.iload_n dX4_takes_0 rfl ?_
  refine X.tabIn (tgt := 60) dX4_takes_1 (by decide) (by decide) (rfl) (by decide) ?_
  refine X.iload_n dX4_takes_60 rfl ?_
  refine X.bipush (v := 8) dX4_takes_61 (by decide) ?_
  refine X.icmp_eq (tgt := 78) dX4_takes_63 (by decide) (fun c63 => ?_) (fun c63 => ?_)
  · refine X.iconst (v := 1) dX4_takes_78 (by decide) ?_
    refine X.goto (tgt := 83) dX4_takes_79 (by decide) ?_
    refine X.ret dX4_takes_83 ⟨(by first | exact Or.inl rfl | exact Or.inr rfl), ?_⟩
    first
      | (have e : takesM 8 o.val = true := by clear hq; revert o; decide +kernel
         rw [e] at hq; exact hq)
      | (have e : takesM 8 o.val = false := by clear hq; revert o; decide +kernel
         rw [e] at hq; exact hq)
  · refine X.iload_n dX4_takes_66 rfl ?_
    refine X.bipush (v := 9) dX4_takes_67 (by decide) ?_
    refine X.icmp_eq (tgt := 78) dX4_takes_69 (by decide) (fun c69 => ?_) (fun c69 => ?_)
    · refine X.iconst (v := 1) dX4_takes_78 (by decide) ?_
      refine X.goto (tgt := 83) dX4_takes_79 (by decide) ?_
      refine X.ret dX4_takes_83 ⟨(by first | exact Or.inl rfl | exact Or.inr rfl), ?_⟩
      first
        | (have e : takesM 8 o.val = true := by clear hq; revert o; decide +kernel
           rw [e] at hq; exact hq)
        | (have e : takesM 8 o.val = false := by clear hq; revert o; decide +kernel
           rw [e] at hq; exact hq)
    · refine X.iload_n dX4_takes_72 rfl ?_
      refine X.bipush (v := 11) dX4_takes_73 (by decide) ?_
      refine X.icmp_ne (tgt := 82) dX4_takes_75 (by decide) (fun c75 => ?_) (fun c75 => ?_)
      · refine X.iconst (v := 0) dX4_takes_82 (by decide) ?_
        refine X.ret dX4_takes_83 ⟨(by first | exact Or.inl rfl | exact Or.inr rfl), ?_⟩
        first
          | (have e : takesM 8 o.val = true := by clear hq; revert o; decide +kernel
             rw [e] at hq; exact hq)
          | (have e : takesM 8 o.val = false := by clear hq; revert o; decide +kernel
             rw [e] at hq; exact hq)
      · refine X.iconst (v := 1) dX4_takes_78 (by decide) ?_
        refine X.goto (tgt := 83) dX4_takes_79 (by decide) ?_
        refine X.ret dX4_takes_83 ⟨(by first | exact Or.inl rfl | exact Or.inr rfl), ?_⟩
        first
          | (have e : takesM 8 o.val = true := by clear hq; revert o; decide +kernel
             rw [e] at hq; exact hq)
          | (have e : takesM 8 o.val = false := by clear hq; revert o; decide +kernel
             rw [e] at hq; exact hq)
set_option maxRecDepth 100000 in
set_option maxHeartbeats 4000000 in
theorem x_takes9 {o : Fin 13} {μ : xM} {Q : Option Value → xM → Prop} (hq : Q (some (.int (if takesM 9 o.val then 1 else 0))) μ) : Mt kX4_takes [.int (nI 9), .int (nI o.val)] μ Q := by
  refine Mt.enter rfl (Nat.le_of_ble_eq_true rfl) ?_
  refine X.iload_n dX4_takes_0 rfl ?_
  refine X.tabIn (tgt := 84) dX4_takes_1 (by decide) (by decide) (rfl) (by decide) ?_
  refine X.iload_n dX4_takes_84 rfl ?_
  refine X.bipush (v := 9) dX4_takes_85 (by decide) ?_
  refine X.icmp_eq (tgt := 96) dX4_takes_87 (by decide) (fun c87 => ?_) (fun c87 => ?_)
  · refine X.iconst (v := 1) dX4_takes_96 (by decide) ?_
    refine X.goto (tgt := 101) dX4_takes_97 (by decide) ?_
    refine X.ret dX4_takes_101 ⟨(by first | exact Or.inl rfl | exact Or.inr rfl), ?_⟩
    first
      | (have e : takesM 9 o.val = true := by clear hq; revert o; decide +kernel
         rw [e] at hq; exact hq)
      | (have e : takesM 9 o.val = false := by clear hq; revert o; decide +kernel
         rw [e] at hq; exact hq)
  · refine X.iload_n dX4_takes_90 rfl ?_
    refine X.bipush (v := 11) dX4_takes_91 (by decide) ?_
    refine X.icmp_ne (tgt := 100) dX4_takes_93 (by decide) (fun c93 => ?_) (fun c93 => ?_)
    · refine X.iconst (v := 0) dX4_takes_100 (by decide) ?_
      refine X.ret dX4_takes_101 ⟨(by first | exact Or.inl rfl | exact Or.inr rfl), ?_⟩
      first
        | (have e : takesM 9 o.val = true := by clear hq; revert o; decide +kernel
           rw [e] at hq; exact hq)
        | (have e : takesM 9 o.val = false := by clear hq; revert o; decide +kernel
           rw [e] at hq; exact hq)
    · refine X.iconst (v := 1) dX4_takes_96 (by decide) ?_
      refine X.goto (tgt := 101) dX4_takes_97 (by decide) ?_
      refine X.ret dX4_takes_101 ⟨(by first | exact Or.inl rfl | exact Or.inr rfl), ?_⟩
      first
        | (have e : takesM 9 o.val = true := by clear hq; revert o; decide +kernel
           rw [e] at hq; exact hq)
        | (have e : takesM 9 o.val = false := by clear hq; revert o; decide +kernel
           rw [e] at hq; exact hq)
set_option maxRecDepth 100000 in
set_option maxHeartbeats 4000000 in
theorem x_takes10 {o : Fin 13} {μ : xM} {Q : Option Value → xM → Prop} (hq : Q (some (.int (if takesM 10 o.val then 1 else 0))) μ) : Mt kX4_takes [.int (nI 10), .int (nI o.val)] μ Q := by
  refine Mt.enter rfl (Nat.le_of_ble_eq_true rfl) ?_
  refine X.iload_n dX4_takes_0 rfl ?_
  refine X.tabIn (tgt := 102) dX4_takes_1 (by decide) (by decide) (rfl) (by decide) ?_
  refine X.iload_n dX4_takes_102 rfl ?_
  refine X.bipush (v := 10) dX4_takes_103 (by decide) ?_
  refine X.icmp_eq (tgt := 114) dX4_takes_105 (by decide) (fun c105 => ?_) (fun c105 => ?_)
  · refine X.iconst (v := 1) dX4_takes_114 (by decide) ?_
    refine X.goto (tgt := 119) dX4_takes_115 (by decide) ?_
    refine X.ret dX4_takes_119 ⟨(by first | exact Or.inl rfl | exact Or.inr rfl), ?_⟩
    first
      | (have e : takesM 10 o.val = true := by clear hq; revert o; decide +kernel
         rw [e] at hq; exact hq)
      | (have e : takesM 10 o.val = false := by clear hq; revert o; decide +kernel
         rw [e] at hq; exact hq)
  · refine X.iload_n dX4_takes_108 rfl ?_
    refine X.bipush (v := 11) dX4_takes_109 (by decide) ?_
    refine X.icmp_ne (tgt := 118) dX4_takes_111 (by decide) (fun c111 => ?_) (fun c111 => ?_)
    · refine X.iconst (v := 0) dX4_takes_118 (by decide) ?_
      refine X.ret dX4_takes_119 ⟨(by first | exact Or.inl rfl | exact Or.inr rfl), ?_⟩
      first
        | (have e : takesM 10 o.val = true := by clear hq; revert o; decide +kernel
           rw [e] at hq; exact hq)
        | (have e : takesM 10 o.val = false := by clear hq; revert o; decide +kernel
           rw [e] at hq; exact hq)
    · refine X.iconst (v := 1) dX4_takes_114 (by decide) ?_
      refine X.goto (tgt := 119) dX4_takes_115 (by decide) ?_
      refine X.ret dX4_takes_119 ⟨(by first | exact Or.inl rfl | exact Or.inr rfl), ?_⟩
      first
        | (have e : takesM 10 o.val = true := by clear hq; revert o; decide +kernel
           rw [e] at hq; exact hq)
        | (have e : takesM 10 o.val = false := by clear hq; revert o; decide +kernel
           rw [e] at hq; exact hq)
theorem x_takes {k o : Nat} {μ : xM} {Q : Option Value → xM → Prop} (hk : k ≤ 10) (ho : o ≤ 12) (hq : Q (some (.int (if takesM k o then 1 else 0))) μ) : Mt kX4_takes [.int (nI k), .int (nI o)] μ Q := by
  match k, hk with
  | 0, _ => exact x_takes0 (o := ⟨o, by omega⟩) hq
  | 1, _ => exact x_takes1 (o := ⟨o, by omega⟩) hq
  | 2, _ => exact x_takes2 (o := ⟨o, by omega⟩) hq
  | 3, _ => exact x_takes3 (o := ⟨o, by omega⟩) hq
  | 4, _ => exact x_takes4 (o := ⟨o, by omega⟩) hq
  | 5, _ => exact x_takes5 (o := ⟨o, by omega⟩) hq
  | 6, _ => exact x_takes6 (o := ⟨o, by omega⟩) hq
  | 7, _ => exact x_takes7 (o := ⟨o, by omega⟩) hq
  | 8, _ => exact x_takes8 (o := ⟨o, by omega⟩) hq
  | 9, _ => exact x_takes9 (o := ⟨o, by omega⟩) hq
  | 10, _ => exact x_takes10 (o := ⟨o, by omega⟩) hq
set_option maxRecDepth 100000 in
set_option maxHeartbeats 4000000 in
theorem x_fitted0 {v : Int64} {μ : xM} {Q : Option Value → xM → Prop} (hq : Q (some (.long (fitM 0 v))) μ) : Mt kX4_fitted [.int (nI 0), .long v] μ Q := by
  refine Mt.enter rfl (Nat.le_of_ble_eq_true rfl) ?_
  refine X.iload_n dX4_fitted_0 rfl ?_
  refine X.tabIn (tgt := 48) dX4_fitted_1 (by decide) (by decide) (rfl) (by decide) ?_
  refine X.lload_n dX4_fitted_48 rfl ?_
  refine X.lconst (v := 0) dX4_fitted_49 (by decide) ?_
  refine X.lcmp dX4_fitted_50 ?_
  refine X.if_eq (tgt := 58) dX4_fitted_51 (by decide) (fun c51 => ?_) (fun c51 => ?_)
  · refine X.lconst (v := 0) dX4_fitted_58 (by decide) ?_
    refine X.ret dX4_fitted_59 ⟨trivial, ?_⟩
    unfold fitM at hq
    first
      | (rw [if_pos (Decidable.byContradiction (fun e => lgc_ne e c51))] at hq; exact hq)
      | (rw [if_neg (fun e => c51 (lgc_eq e))] at hq; exact hq)
  · refine X.lconst (v := 1) dX4_fitted_54 (by decide) ?_
    refine X.goto (tgt := 59) dX4_fitted_55 (by decide) ?_
    refine X.ret dX4_fitted_59 ⟨trivial, ?_⟩
    unfold fitM at hq
    first
      | (rw [if_pos (Decidable.byContradiction (fun e => lgc_ne e c51))] at hq; exact hq)
      | (rw [if_neg (fun e => c51 (lgc_eq e))] at hq; exact hq)
set_option maxRecDepth 100000 in
set_option maxHeartbeats 4000000 in
theorem x_fitted1 {v : Int64} {μ : xM} {Q : Option Value → xM → Prop} (hq : Q (some (.long (fitM 1 v))) μ) : Mt kX4_fitted [.int (nI 1), .long v] μ Q := by
  refine Mt.enter rfl (Nat.le_of_ble_eq_true rfl) ?_
  refine X.iload_n dX4_fitted_0 rfl ?_
  refine X.tabIn (tgt := 60) dX4_fitted_1 (by decide) (by decide) (rfl) (by decide) ?_
  refine X.lload_n dX4_fitted_60 rfl ?_
  refine X.l2i dX4_fitted_61 ?_
  refine X.i2b dX4_fitted_62 ?_
  refine X.i2l dX4_fitted_63 ?_
  refine X.ret dX4_fitted_64 ⟨trivial, ?_⟩
  exact hq
set_option maxRecDepth 100000 in
set_option maxHeartbeats 4000000 in
theorem x_fitted2 {v : Int64} {μ : xM} {Q : Option Value → xM → Prop} (hq : Q (some (.long (fitM 2 v))) μ) : Mt kX4_fitted [.int (nI 2), .long v] μ Q := by
  refine Mt.enter rfl (Nat.le_of_ble_eq_true rfl) ?_
  refine X.iload_n dX4_fitted_0 rfl ?_
  refine X.tabIn (tgt := 65) dX4_fitted_1 (by decide) (by decide) (rfl) (by decide) ?_
  refine X.lload_n dX4_fitted_65 rfl ?_
  refine X.l2i dX4_fitted_66 ?_
  refine X.i2s dX4_fitted_67 ?_
  refine X.i2l dX4_fitted_68 ?_
  refine X.ret dX4_fitted_69 ⟨trivial, ?_⟩
  exact hq
set_option maxRecDepth 100000 in
set_option maxHeartbeats 4000000 in
theorem x_fitted3 {v : Int64} {μ : xM} {Q : Option Value → xM → Prop} (hq : Q (some (.long (fitM 3 v))) μ) : Mt kX4_fitted [.int (nI 3), .long v] μ Q := by
  refine Mt.enter rfl (Nat.le_of_ble_eq_true rfl) ?_
  refine X.iload_n dX4_fitted_0 rfl ?_
  refine X.tabIn (tgt := 70) dX4_fitted_1 (by decide) (by decide) (rfl) (by decide) ?_
  refine X.lload_n dX4_fitted_70 rfl ?_
  refine X.l2i dX4_fitted_71 ?_
  refine X.i2c dX4_fitted_72 ?_
  refine X.i2l dX4_fitted_73 ?_
  refine X.ret dX4_fitted_74 ⟨trivial, ?_⟩
  rw [char_and]
  exact hq
set_option maxRecDepth 100000 in
set_option maxHeartbeats 4000000 in
theorem x_fitted4 {v : Int64} {μ : xM} {Q : Option Value → xM → Prop} (hq : Q (some (.long (fitM 4 v))) μ) : Mt kX4_fitted [.int (nI 4), .long v] μ Q := by
  refine Mt.enter rfl (Nat.le_of_ble_eq_true rfl) ?_
  refine X.iload_n dX4_fitted_0 rfl ?_
  refine X.tabIn (tgt := 75) dX4_fitted_1 (by decide) (by decide) (rfl) (by decide) ?_
  refine X.lload_n dX4_fitted_75 rfl ?_
  refine X.l2i dX4_fitted_76 ?_
  refine X.i2l dX4_fitted_77 ?_
  refine X.ret dX4_fitted_78 ⟨trivial, ?_⟩
  exact hq
set_option maxRecDepth 100000 in
set_option maxHeartbeats 4000000 in
theorem x_fitted5 {v : Int64} {μ : xM} {Q : Option Value → xM → Prop} (hq : Q (some (.long (fitM 5 v))) μ) : Mt kX4_fitted [.int (nI 5), .long v] μ Q := by
  refine Mt.enter rfl (Nat.le_of_ble_eq_true rfl) ?_
  refine X.iload_n dX4_fitted_0 rfl ?_
  refine X.tabIn (tgt := 87) dX4_fitted_1 (by decide) (by decide) (rfl) (by decide) ?_
  refine X.lload_n dX4_fitted_87 rfl ?_
  refine X.ret dX4_fitted_88 ⟨trivial, ?_⟩
  exact hq
set_option maxRecDepth 100000 in
set_option maxHeartbeats 4000000 in
theorem x_fitted6 {v : Int64} {μ : xM} {Q : Option Value → xM → Prop} (hq : Q (some (.long (fitM 6 v))) μ) : Mt kX4_fitted [.int (nI 6), .long v] μ Q := by
  refine Mt.enter rfl (Nat.le_of_ble_eq_true rfl) ?_
  refine X.iload_n dX4_fitted_0 rfl ?_
  refine X.tabIn (tgt := 79) dX4_fitted_1 (by decide) (by decide) (rfl) (by decide) ?_
  refine X.lload_n dX4_fitted_79 rfl ?_
  refine X.l2f dX4_fitted_80 ?_
  refine X.f2l dX4_fitted_81 ?_
  refine X.ret dX4_fitted_82 ⟨trivial, ?_⟩
  exact hq
set_option maxRecDepth 100000 in
set_option maxHeartbeats 4000000 in
theorem x_fitted7 {v : Int64} {μ : xM} {Q : Option Value → xM → Prop} (hq : Q (some (.long (fitM 7 v))) μ) : Mt kX4_fitted [.int (nI 7), .long v] μ Q := by
  refine Mt.enter rfl (Nat.le_of_ble_eq_true rfl) ?_
  refine X.iload_n dX4_fitted_0 rfl ?_
  refine X.tabIn (tgt := 83) dX4_fitted_1 (by decide) (by decide) (rfl) (by decide) ?_
  refine X.lload_n dX4_fitted_83 rfl ?_
  refine X.l2d dX4_fitted_84 ?_
  refine X.d2l dX4_fitted_85 ?_
  refine X.ret dX4_fitted_86 ⟨trivial, ?_⟩
  exact hq
set_option maxRecDepth 100000 in
set_option maxHeartbeats 4000000 in
theorem x_fitted8 {v : Int64} {μ : xM} {Q : Option Value → xM → Prop} (hq : Q (some (.long (fitM 8 v))) μ) : Mt kX4_fitted [.int (nI 8), .long v] μ Q := by
  refine Mt.enter rfl (Nat.le_of_ble_eq_true rfl) ?_
  refine X.iload_n dX4_fitted_0 rfl ?_
  refine X.tabOut (tgt := 87) dX4_fitted_1 (Or.inr (by decide)) (by decide) ?_
  refine X.lload_n dX4_fitted_87 rfl ?_
  refine X.ret dX4_fitted_88 ⟨trivial, ?_⟩
  exact hq
set_option maxRecDepth 100000 in
set_option maxHeartbeats 4000000 in
theorem x_fitted9 {v : Int64} {μ : xM} {Q : Option Value → xM → Prop} (hq : Q (some (.long (fitM 9 v))) μ) : Mt kX4_fitted [.int (nI 9), .long v] μ Q := by
  refine Mt.enter rfl (Nat.le_of_ble_eq_true rfl) ?_
  refine X.iload_n dX4_fitted_0 rfl ?_
  refine X.tabOut (tgt := 87) dX4_fitted_1 (Or.inr (by decide)) (by decide) ?_
  refine X.lload_n dX4_fitted_87 rfl ?_
  refine X.ret dX4_fitted_88 ⟨trivial, ?_⟩
  exact hq
set_option maxRecDepth 100000 in
set_option maxHeartbeats 4000000 in
theorem x_fitted10 {v : Int64} {μ : xM} {Q : Option Value → xM → Prop} (hq : Q (some (.long (fitM 10 v))) μ) : Mt kX4_fitted [.int (nI 10), .long v] μ Q := by
  refine Mt.enter rfl (Nat.le_of_ble_eq_true rfl) ?_
  refine X.iload_n dX4_fitted_0 rfl ?_
  refine X.tabOut (tgt := 87) dX4_fitted_1 (Or.inr (by decide)) (by decide) ?_
  refine X.lload_n dX4_fitted_87 rfl ?_
  refine X.ret dX4_fitted_88 ⟨trivial, ?_⟩
  exact hq
theorem x_fitted {k : Nat} {v : Int64} {μ : xM} {Q : Option Value → xM → Prop} (hk : k ≤ 10) (hq : Q (some (.long (fitM k v))) μ) : Mt kX4_fitted [.int (nI k), .long v] μ Q := by
  match k, hk with
  | 0, _ => exact x_fitted0 hq
  | 1, _ => exact x_fitted1 hq
  | 2, _ => exact x_fitted2 hq
  | 3, _ => exact x_fitted3 hq
  | 4, _ => exact x_fitted4 hq
  | 5, _ => exact x_fitted5 hq
  | 6, _ => exact x_fitted6 hq
  | 7, _ => exact x_fitted7 hq
  | 8, _ => exact x_fitted8 hq
  | 9, _ => exact x_fitted9 hq
  | 10, _ => exact x_fitted10 hq
set_option maxRecDepth 100000 in
set_option maxHeartbeats 4000000 in
theorem x_floorMod {x n : Int32} {μ : xM} {Q : Option Value → xM → Prop} (hn : 0 < n.toInt) (hq : Q (some (.int (fmodM x n))) μ) : Mt kJ9_floorMod_7cf53 [.int x, .int n] μ Q := by
  have hs := rem_sign (x := x) hn
  refine Mt.enterF (by decide +kernel) (Nat.le_of_ble_eq_true rfl) ?_
  refine X.iload_n dJ9_floorMod_7cf53_0 rfl ?_
  refine X.iload_n dJ9_floorMod_7cf53_1 rfl ?_
  refine X.irem dJ9_floorMod_7cf53_2 (fun e => by rw [e, i0] at hn; omega) ?_
  refine X.istore_n dJ9_floorMod_7cf53_3 (Nat.le_of_ble_eq_true rfl) ?_
  refine X.iload_n dJ9_floorMod_7cf53_4 rfl ?_
  refine X.iload_n dJ9_floorMod_7cf53_5 rfl ?_
  refine X.ixor dJ9_floorMod_7cf53_6 ?_
  refine X.if_ge (tgt := 18) dJ9_floorMod_7cf53_7 (by decide) (fun c7 => ?_) (fun c7 => ?_)
  · refine X.iload_n dJ9_floorMod_7cf53_18 rfl ?_
    refine X.ret dJ9_floorMod_7cf53_19 ⟨trivial, ?_⟩
    unfold fmodM at hq
    first
      | (rw [if_pos (hs.1 ((xor_nn (by omega)).mp c7))] at hq; exact hq)
      | (rw [if_pos (by rw [c11]; decide)] at hq; exact hq)
      | (have hlt := hs.2 (Int.not_le.mp (fun q => c7 ((xor_nn (by omega)).mpr q)))
         rw [if_neg (fun q => c11 (Int32.le_antisymm hlt q))] at hq; exact hq)
  · refine X.iload_n dJ9_floorMod_7cf53_10 rfl ?_
    refine X.if_eq (tgt := 18) dJ9_floorMod_7cf53_11 (by decide) (fun c11 => ?_) (fun c11 => ?_)
    · refine X.iload_n dJ9_floorMod_7cf53_18 rfl ?_
      refine X.ret dJ9_floorMod_7cf53_19 ⟨trivial, ?_⟩
      unfold fmodM at hq
      first
        | (rw [if_pos (hs.1 ((xor_nn (by omega)).mp c7))] at hq; exact hq)
        | (rw [if_pos (by rw [c11]; decide)] at hq; exact hq)
        | (have hlt := hs.2 (Int.not_le.mp (fun q => c7 ((xor_nn (by omega)).mpr q)))
           rw [if_neg (fun q => c11 (Int32.le_antisymm hlt q))] at hq; exact hq)
    · refine X.iload_n dJ9_floorMod_7cf53_14 rfl ?_
      refine X.iload_n dJ9_floorMod_7cf53_15 rfl ?_
      refine X.iadd dJ9_floorMod_7cf53_16 ?_
      refine X.ret dJ9_floorMod_7cf53_17 ⟨trivial, ?_⟩
      unfold fmodM at hq
      first
        | (rw [if_pos (hs.1 ((xor_nn (by omega)).mp c7))] at hq; exact hq)
        | (rw [if_pos (by rw [c11]; decide)] at hq; exact hq)
        | (have hlt := hs.2 (Int.not_le.mp (fun q => c7 ((xor_nn (by omega)).mpr q)))
           rw [if_neg (fun q => c11 (Int32.le_antisymm hlt q))] at hq; exact hq)
set_option maxRecDepth 100000 in
set_option maxHeartbeats 4000000 in
theorem x_min {a b : Nat} {μ : xM} {Q : Option Value → xM → Prop} (ha : a < 2 ^ 31) (hb : b < 2 ^ 31) (hq : Q (some (.int (nI (min a b)))) μ) : Mt kJ9_min_7cf53 [.int (nI a), .int (nI b)] μ Q := by
  refine Mt.enterF (by decide +kernel) (Nat.le_of_ble_eq_true rfl) ?_
  refine X.iload_n dJ9_min_7cf53_0 rfl ?_
  refine X.iload_n dJ9_min_7cf53_1 rfl ?_
  refine X.icmp_gt (tgt := 9) dJ9_min_7cf53_2 (by decide) (fun c2 => ?_) (fun c2 => ?_)
  · refine X.iload_n dJ9_min_7cf53_9 rfl ?_
    refine X.ret dJ9_min_7cf53_10 ⟨trivial, ?_⟩
    first
      | (rw [Nat.min_eq_right (Nat.le_of_lt ((nI_ltI hb ha).mp c2))] at hq; exact hq)
      | (rw [Nat.min_eq_left (Nat.not_lt.mp (fun q => c2 ((nI_ltI hb ha).mpr q)))] at hq; exact hq)
  · refine X.iload_n dJ9_min_7cf53_5 rfl ?_
    refine X.goto (tgt := 10) dJ9_min_7cf53_6 (by decide) ?_
    refine X.ret dJ9_min_7cf53_10 ⟨trivial, ?_⟩
    first
      | (rw [Nat.min_eq_right (Nat.le_of_lt ((nI_ltI hb ha).mp c2))] at hq; exact hq)
      | (rw [Nat.min_eq_left (Nat.not_lt.mp (fun q => c2 ((nI_ltI hb ha).mpr q)))] at hq; exact hq)
set_option maxRecDepth 100000 in
set_option maxHeartbeats 4000000 in
theorem x_meet {r : Nat} {μ : xM} {Q : Option Value → xM → Prop} (hB : ShP μ) (hr : r < 6) (hq : Q none (meetP μ r)) : Mt kX4_meet [.ref 1, .int (nI r)] μ Q := by
  refine Mt.enter rfl (Nat.le_of_ble_eq_true rfl) ?_
  refine X.iload_n dX4_meet_0 rfl ?_
  refine X.if_le (tgt := 23) dX4_meet_1 (by decide) (fun c1 => ?_) (fun c1 => ?_)
  · refine X.retv dX4_meet_23 ⟨trivial, ?_⟩
    first
      | (have e := nI_le0 c1 (by omega); subst e; rw [meetP_0] at hq; exact hq)
      | (rw [meetP_pos μ (fun e => c1 (by rw [e]; decide))] at hq; exact hq)
  · refine X.iload_n dX4_meet_4 rfl ?_
    refine X.aload_n dX4_meet_5 rfl ?_
    refine X.getR (b := 25) (kf := 7) dX4_meet_6 (hB.1 1 (by decide) (by decide)) (by decide) (by decide) rfl wf_X4_39 (hB.2.1 7 (by decide)) ?_
    refine X.alen dX4_meet_9 (hB.1 25 (by decide) (by decide)) rfl ?_
    refine X.icmp_ge_f (tgt := 23) dX4_meet_10 (by decide) (nI_ge (a := r) (b := 6) hr (by decide)) ?_
    refine X.aload_n dX4_meet_13 rfl ?_
    refine X.getR (b := 25) (kf := 7) dX4_meet_14 (hB.1 1 (by decide) (by decide)) (by decide) (by decide) rfl wf_X4_39 (hB.2.1 7 (by decide)) ?_
    refine X.iload_n dX4_meet_17 rfl ?_
    refine X.dup2 dX4_meet_18 ?_
    refine X.iald dX4_meet_19 (hB.1 25 (by decide) (by decide)) (rfl) (hr) (by decide) ?_
    refine X.iconst (v := 1) dX4_meet_20 (by decide) ?_
    refine X.iadd dX4_meet_21 ?_
    refine X.iast dX4_meet_22 (hB.1 25 (by decide) (by decide)) (rfl) (hr) (by decide) ?_
    refine X.retv dX4_meet_23 ⟨trivial, ?_⟩
    first
      | (have e := nI_le0 c1 (by omega); subst e; rw [meetP_0] at hq; exact hq)
      | (rw [meetP_pos μ (fun e => c1 (by rw [e]; decide))] at hq; exact hq)
set_option maxRecDepth 100000 in
set_option maxHeartbeats 4000000 in
theorem x_note {r : Nat} {μ : xM} {Q : Option Value → xM → Prop} (hB : ShP μ) (hr : r < 6) (hq : Q none (noteP μ r)) : Mt kX4_note [.ref 1, .int (nI r)] μ Q := by
  refine Mt.enter rfl (Nat.le_of_ble_eq_true rfl) ?_
  refine X.aload_n dX4_note_0 rfl ?_
  refine X.iload_n dX4_note_1 rfl ?_
  refine X.putI (kf := 8) dX4_note_2 (hB.1 1 (by decide) (by decide)) (by decide) (by decide) rfl (Or.inl rfl) ⟨rfl, rfl⟩ wf_X4_43 ?_
  refine X.aload_n dX4_note_5 rfl ?_
  refine X.iload_n dX4_note_6 rfl ?_
  refine X.cV1v (k' := kX4_meet) dX4_note_7 (hB.1 1 (by decide) (by decide)) ⟨by decide, rfl⟩ v_X4_meet wm_X4_225 wi_X4_meet ws_X4_meet ⟨Nat.le_of_ble_eq_true rfl, Nat.le_of_ble_eq_true rfl⟩ n_X4_meet (Nat.le_of_ble_eq_true rfl) ?_
  refine x_meet (μ := sI μ 1 8 (nI r)) hB hr ?_
  refine ⟨rfl, ?_⟩
  refine X.retv dX4_note_10 ⟨trivial, ?_⟩
  exact hq
set_option maxRecDepth 100000 in
set_option maxHeartbeats 4000000 in
theorem x_answer_0 {x : Int32} {μ : xM} {Q : Option Value → xM → Prop} (hB : ShP μ) (hq : Q (some (.int x)) (noteP μ 0)) : Mt kX4_answer [.ref 1, .int (nI 0), .int x] μ Q := by
  refine Mt.enter rfl (Nat.le_of_ble_eq_true rfl) ?_
  refine X.aload_n dX4_answer_0 rfl ?_
  refine X.iload_n dX4_answer_1 rfl ?_
  refine X.cV1v (k' := kX4_note) dX4_answer_2 (hB.1 1 (by decide) (by decide)) ⟨by decide, rfl⟩ v_X4_note wm_X4_133 wi_X4_note ws_X4_note ⟨Nat.le_of_ble_eq_true rfl, Nat.le_of_ble_eq_true rfl⟩ n_X4_note (Nat.le_of_ble_eq_true rfl) ?_
  refine x_note hB (by decide) ?_
  refine ⟨rfl, ?_⟩
  refine X.iload_n dX4_answer_5 rfl ?_
  refine X.if_ne_f (tgt := 13) dX4_answer_6 (by decide) ((by decide)) ?_
  refine X.iload_n dX4_answer_9 rfl ?_
  refine X.goto (tgt := 17) dX4_answer_10 (by decide) ?_
  refine X.ret dX4_answer_17 ⟨trivial, ?_⟩
  exact hq
set_option maxRecDepth 100000 in
set_option maxHeartbeats 4000000 in
theorem x_answer_r {r : Nat} {x : Int32} {μ : xM} {Q : Option Value → xM → Prop} (hB : ShP μ) (hr : r < 6) (h0 : r ≠ 0) (hq : Q (some (.int (rR r))) (noteP μ r)) : Mt kX4_answer [.ref 1, .int (nI r), .int x] μ Q := by
  refine Mt.enter rfl (Nat.le_of_ble_eq_true rfl) ?_
  refine X.aload_n dX4_answer_0 rfl ?_
  refine X.iload_n dX4_answer_1 rfl ?_
  refine X.cV1v (k' := kX4_note) dX4_answer_2 (hB.1 1 (by decide) (by decide)) ⟨by decide, rfl⟩ v_X4_note wm_X4_133 wi_X4_note ws_X4_note ⟨Nat.le_of_ble_eq_true rfl, Nat.le_of_ble_eq_true rfl⟩ n_X4_note (Nat.le_of_ble_eq_true rfl) ?_
  refine x_note hB hr ?_
  refine ⟨rfl, ?_⟩
  refine X.iload_n dX4_answer_5 rfl ?_
  refine X.if_ne_t (tgt := 13) dX4_answer_6 (by decide) (nI_neq (b := 0) h0 (by omega) (by decide)) ?_
  refine X.bipush (v := -10) dX4_answer_13 (by decide) ?_
  refine X.iload_n dX4_answer_15 rfl ?_
  refine X.isub dX4_answer_16 ?_
  refine X.ret dX4_answer_17 ⟨trivial, ?_⟩
  exact hq
theorem lt16 {c : Int32} (h : c < 16) : c ≤ 15 := by
  rw [Int32.lt_iff_toInt_lt] at h
  rw [Int32.le_iff_toInt_le]
  have e1 : (16 : Int32).toInt = 16 := by decide
  have e2 : (15 : Int32).toInt = 15 := by decide
  omega
set_option maxRecDepth 100000 in
set_option maxHeartbeats 4000000 in
theorem x_channelAt_o {c : Int32} {μ : xM} {Q : Option Value → xM → Prop} (hB : ShP μ) (hc : rng c 16 = none) (hq : Q (some .null) μ) : Mt kX4_channelAt [.ref 1, .int c] μ Q := by
  have hr := rng_no (hi := 15) hc (by decide) rfl
  refine Mt.enter rfl (Nat.le_of_ble_eq_true rfl) ?_
  refine X.iload_n dX4_channelAt_0 rfl ?_
  refine X.if_lt (tgt := 10) dX4_channelAt_1 (by decide) (fun c1 => ?_) (fun c1 => ?_)
  · refine X.null dX4_channelAt_10 ?_
    refine X.goto (tgt := 20) dX4_channelAt_11 (by decide) ?_
    refine X.ret dX4_channelAt_20 ⟨trivial, ?_⟩
    exact hq
  · refine X.iload_n dX4_channelAt_4 rfl ?_
    refine X.bipush (v := 16) dX4_channelAt_5 (by decide) ?_
    refine X.icmp_lt (tgt := 14) dX4_channelAt_7 (by decide) (fun c7 => ?_) (fun c7 => ?_)
    · exact absurd ⟨Int32.not_lt.mp c1, lt16 c7⟩ hr
    · refine X.null dX4_channelAt_10 ?_
      refine X.goto (tgt := 20) dX4_channelAt_11 (by decide) ?_
      refine X.ret dX4_channelAt_20 ⟨trivial, ?_⟩
      exact hq
set_option maxRecDepth 100000 in
set_option maxHeartbeats 4000000 in
theorem x_channelAt {a : Nat} {μ : xM} {Q : Option Value → xM → Prop} (hB : ShP μ) (ha : a < 16) (hq : Q (some (.ref (28 + a))) μ) : Mt kX4_channelAt [.ref 1, .int (nI a)] μ Q := by
  refine Mt.enter rfl (Nat.le_of_ble_eq_true rfl) ?_
  refine X.iload_n dX4_channelAt_0 rfl ?_
  refine X.if_lt_f (tgt := 10) dX4_channelAt_1 (by decide) (nI_pos (by omega)) ?_
  refine X.iload_n dX4_channelAt_4 rfl ?_
  refine X.bipush (v := 16) dX4_channelAt_5 (by decide) ?_
  refine X.icmp_lt_t (tgt := 14) dX4_channelAt_7 (by decide) (nI_lt (b := 16) ha (by decide)) ?_
  refine X.aload_n dX4_channelAt_14 rfl ?_
  refine X.getR (b := 2) (kf := 0) dX4_channelAt_15 (hB.1 1 (by decide) (by decide)) (by decide) (by decide) rfl wf_X4_11 (hB.2.1 0 (by decide)) ?_
  refine X.iload_n dX4_channelAt_18 rfl ?_
  refine X.aald dX4_channelAt_19 (hB.1 2 (by decide) (by decide)) (by decide) (rfl) (ha) (by decide) ((hB.2.2.1 a ha).2) ?_
  refine X.ret dX4_channelAt_20 ⟨trivial, ?_⟩
  exact hq
