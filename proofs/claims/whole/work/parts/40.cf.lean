/-! the class: its calls, last part: tape, dub, cable (laid by wip/whole/mkpb11.py) -/
def phN (φ : Nat → Nat) (t0 p : Nat) : Nat → Nat := fun t => if t = t0 then p else φ t
theorem at_new {ν : xM} {u : Nat → Int32} {t0 k n : Nat} {w : Nat → Int64} (hw : ∀ t, t ≠ t0 → ∀ j, j < 32 → w (32 * t + j) = mJ ν 48 (32 * t + j)) : AtT ν (sB (sI (sI (sA ν 47 u) 45 t0 (nI k)) 46 t0 (nI n)) w) t0 := by
  refine ⟨fun a h1 h2 h3 => ?_, fun t ht => ⟨?_, ?_⟩, fun t ht j hj => ?_⟩
  · show mI (sI (sI (sA ν 47 u) 45 t0 (nI k)) 46 t0 (nI n)) a = _
    rw [mI_at h2, mI_at h1]
    funext j
    exact if_neg h3
  · show mI (sI (sI (sA ν 47 u) 45 t0 (nI k)) 46 t0 (nI n)) 45 t = _
    rw [mI_at (by decide), mI_k ht]
    rfl
  · show mI (sI (sI (sA ν 47 u) 45 t0 (nI k)) 46 t0 (nI n)) 46 t = _
    rw [mI_k ht, mI_at (by decide)]
    rfl
  · exact hw t ht j hj
theorem new_ks {ν : xM} {u : Nat → Int32} {t0 k n : Nat} {w : Nat → Int64} (hk : k ≤ 10) (hn : n ≤ 32) : (mI (sB (sI (sI (sA ν 47 u) 45 t0 (nI k)) 46 t0 (nI n)) w) 45 t0 = nI k ∧ mI (sB (sI (sI (sA ν 47 u) 45 t0 (nI k)) 46 t0 (nI n)) w) 46 t0 = nI n) ∧ kd (sB (sI (sI (sA ν 47 u) 45 t0 (nI k)) 46 t0 (nI n)) w) t0 = k ∧ sz (sB (sI (sI (sA ν 47 u) 45 t0 (nI k)) 46 t0 (nI n)) w) t0 = n := by
  have e1 : mI (sB (sI (sI (sA ν 47 u) 45 t0 (nI k)) 46 t0 (nI n)) w) 45 t0 = nI k := by
    show mI (sI (sI (sA ν 47 u) 45 t0 (nI k)) 46 t0 (nI n)) 45 t0 = _
    rw [mI_at (by decide), mI_s]
  have e2 : mI (sB (sI (sI (sA ν 47 u) 45 t0 (nI k)) 46 t0 (nI n)) w) 46 t0 = nI n := by
    show mI (sI (sI (sA ν 47 u) 45 t0 (nI k)) 46 t0 (nI n)) 46 t0 = _
    rw [mI_s]
  refine ⟨⟨e1, e2⟩, ?_, ?_⟩
  · unfold kd; rw [e1, nI_clamp (by omega)]
  · unfold sz; rw [e2, nI_clamp (by omega)]
theorem zr_off {t0 n : Nat} (hn : n ≤ 32) (f : Nat → Int64) : ∀ t, t ≠ t0 → ∀ j, j < 32 → zr t0 n f (32 * t + j) = f (32 * t + j) := fun t ht j hj => if_neg (by omega)
theorem fit_0 (k : Nat) (hk : k < 8) : fitM k 0 = 0 := by
  match k, hk with
  | 0, _ => rfl
  | 1, _ => rfl
  | 2, _ => rfl
  | 3, _ => rfl
  | 4, _ => rfl
  | 5, _ => rfl
  | 6, _ => decide +kernel
  | 7, _ => decide +kernel
theorem okc_0 (ν : xM) (k : Nat) : OKc ν k 0 := ⟨fun _ _ => by rw [lx_0]; exact Nat.zero_le _, fun _ => Or.inl rfl, fun h => fit_0 k h⟩
theorem tr_zero {ν' μ' : xM} {φ' : Nat → Nat} {t0 k n p : Nat} (h66 : 66 ≤ p) (hN : p + 3 < mN μ') (hT : TS μ' p k n) (hc : ∀ j, j < n → mI μ' (p + 1) j = (if k < 8 then nI k else nI 11) ∧ mJ μ' (p + 2) j = 0 ∧ mR μ' (p + 3) j = none) (ek : kd ν' t0 = k) (es : sz ν' t0 = n) (ev : ∀ j, j < n → cv ν' t0 j = 0) (eφ : φ' t0 = p) : TR ν' μ' φ' t0 := by
  unfold TR
  rw [ek, es, eφ]
  refine ⟨⟨h66, hN⟩, hT.1, hT.2.1, hT.2.2, fun j hj => ?_⟩
  obtain ⟨c1, c2, c3⟩ := hc j hj
  rw [c1, c2, c3]
  unfold cellKindM numM tref
  rw [ek, ev j hj, lx_0]
  refine ⟨?_, ?_, ?_⟩
  · by_cases h8 : k < 8
    · rw [if_pos h8, if_pos h8]
    · rw [if_neg h8, if_neg h8, if_pos rfl]
  · by_cases h10 : k = 10
    · rw [if_pos h10, if_neg (by decide)]
    · rw [if_neg h10]
  · by_cases h10 : k = 10
    · rw [if_pos h10, if_pos rfl]
    · rw [if_neg h10]
theorem Rel.tapeNew {ρ ν μ : xM} {φ κ : Nat → Nat} {B : Nat × Nat × Nat × (Nat → Prop)} {μ' : xM} (h : Rel ρ ν μ φ κ B) (hE : ∀ t, ¬ B.2.2.2 t) {k n : Nat} (hk : k ≤ 10) (hn : n ≤ 32) (hN : NewP μ k n μ') (u : Nat → Int32) : Rel ρ (newTM ν u k n) μ' (phN φ (freeM ν) (mN μ)) κ (B.1, B.2.1 + 4, B.2.2.1 + (5 + n + n + n), B.2.2.2) ∧ HoldOK (newTM ν u k n) μ' (phN φ (freeM ν) (mN μ)) B.2.2.2 (freeM ν) := by
  obtain ⟨f1, f2, -⟩ := freeM_ok h.wt
  have hu := h.und
  have hks := new_ks (ν := ν) (u := u) (t0 := freeM ν) (w := zr (freeM ν) n (mJ ν 48)) hk hn
  have hA : AtT ν (newTM ν u k n) (freeM ν) := at_new (zr_off hn _)
  have ev : ∀ j, j < n → cv (newTM ν u k n) (freeM ν) j = 0 := fun j hj => if_pos (by omega)
  have ek : kd (newTM ν u k n) (freeM ν) = k := hks.2.1
  have es : sz (newTM ν u k n) (freeM ν) = n := hks.2.2
  have eφ : phN φ (freeM ν) (mN μ) (freeM ν) = mN μ := if_pos rfl
  refine Rel.born (h.newP hN) hE f1 f2 hA (fun t ht => if_neg ht) (fun t ht => ?_) ?_ ?_ (fun j hj => ?_) ?_
  · rw [eφ]; have := hu.2.1 t ht; omega
  · rw [ek]; exact ⟨hks.1.1, hk⟩
  · rw [es]; exact ⟨hks.1.2, hn⟩
  · rw [es] at hj
    rw [ev j hj, ek]
    exact ⟨okc_0 ν k, fun _ => ⟨by rw [lx_0]; rfl, by rw [lx_0]; omega, fun _ => by rw [lx_0]; omega⟩, fun _ q => absurd lx_0 q⟩
  · exact tr_zero hu.1 (by have := hN.2.2.2.1; omega) hN.1 hN.2.1 ek es ev eφ
theorem met_new (ν : xM) (u : Nat → Int32) (k n : Nat) : metM (newTM ν u k n) 0 = newTM (metM ν 0) u k n := by
  have e : ∀ (f : Nat → Nat → Int32) (t : Nat) (x y z v : Int32), up2 (up2 (up2 (up2 (fun b j => if b = 47 then u j else f b j) 45 t x) 46 t y) 44 25 z) 65 0 v = up2 (up2 (fun b j => if b = 47 then u j else up2 (up2 f 44 25 z) 65 0 v b j) 45 t x) 46 t y := by
    intro f t x y z v
    funext p j
    show (if p = 65 ∧ j = 0 then v else if p = 44 ∧ j = 25 then z else if p = 46 ∧ j = t then y else if p = 45 ∧ j = t then x else if p = 47 then u j else f p j) = (if p = 46 ∧ j = t then y else if p = 45 ∧ j = t then x else if p = 47 then u j else if p = 65 ∧ j = 0 then v else if p = 44 ∧ j = 25 then z else f p j)
    by_cases h1 : p = 65 ∧ j = 0
    · rw [if_pos h1, if_neg (by omega), if_neg (by omega), if_neg (by omega), if_pos h1]
    · rw [if_neg h1]
      by_cases h2 : p = 44 ∧ j = 25
      · rw [if_pos h2, if_neg (by omega), if_neg (by omega), if_neg (by omega), if_neg h1, if_pos h2]
      · rw [if_neg h2, if_neg h1, if_neg h2]
  show (mT ν, up2 (up2 (up2 (up2 (fun b j => if b = 47 then u j else mI ν b j) 45 (freeM ν) (nI k)) 46 (freeM ν) (nI n)) 44 25 (nI 0)) 65 0 (mI ν 65 0), mJ (newTM ν u k n), mR ν, mN ν, mS ν) = (mT ν, up2 (up2 (fun b j => if b = 47 then u j else up2 (up2 (mI ν) 44 25 (nI 0)) 65 0 (mI ν 65 0) b j) 45 (freeM ν) (nI k)) 46 (freeM ν) (nI n), mJ (newTM ν u k n), mR ν, mN ν, mS ν)
  rw [e]
theorem hold_met {ν : xM} {u : Nat → Int32} {k n a : Nat} : metM (sI (newTM ν u k n) 50 a (nI (freeM ν))) 0 = sI (newTM (metM ν 0) u k n) 50 a (nI (freeM (metM ν 0))) := by
  rw [met_50, met_new]
  rfl
set_option maxRecDepth 100000 in
set_option maxHeartbeats 4000000 in
theorem c_tape_in {a k n : Nat} {u : Nat → Int32} {ρ ν μ : xM} {φ κ : Nat → Nat} {B : Nat × Nat × Nat × (Nat → Prop)} {Q : Option Value → xM → Prop} (hR : Rel ρ ν μ φ κ B) (hE : ∀ t, ¬ B.2.2.2 t) (ha : a < 16) (hk : k ≤ 10) (hn : n ≤ 32) (hq : ∀ μ1 φ1, Rel ρ (sI (newTM (metM ν 0) u k n) 50 a (nI (freeM (metM ν 0)))) μ1 φ1 κ (B.1, B.2.1 + 4, B.2.2.1 + (5 + n + n + n), B.2.2.2) → Q (some (.int (nI n))) μ1) : Mt kX4_tape [.ref 1, .int (nI a), .int (nI k), .int (nI n)] μ Q := by
  have hB := hR.2.1
  refine Mt.enter rfl (Nat.le_of_ble_eq_true rfl) ?_
  refine X.aload_n dX4_tape_0 rfl ?_
  refine X.iload_n dX4_tape_1 rfl ?_
  refine X.cV1a (k' := kX4_channelAt) dX4_tape_2 (hB.1 1 (by decide) (by decide)) ⟨by decide, rfl⟩ v_X4_channelAt wm_X4_59 wi_X4_channelAt ws_X4_channelAt ⟨Nat.le_of_ble_eq_true rfl, Nat.le_of_ble_eq_true rfl⟩ n_X4_channelAt (Nat.le_of_ble_eq_true rfl) ?_
  refine x_channelAt hB ha ?_
  refine ⟨_, rfl, ?_⟩
  refine X.astore dX4_tape_5 (Nat.le_of_ble_eq_true rfl) ?_
  refine X.aload dX4_tape_7 rfl ?_
  refine X.ifnull_r dX4_tape_9 ?_
  refine X.iload_n dX4_tape_12 rfl ?_
  refine X.cS1i (k' := kX4_isTapeKind) dX4_tape_13 v_X4_isTapeKind wm_X4_63 wt_X4_isTapeKind ⟨Nat.le_of_ble_eq_true rfl, Nat.le_of_ble_eq_true rfl⟩ n_X4_isTapeKind (Nat.le_of_ble_eq_true rfl) ?_
  refine x_isTapeKind_t (rng_nI (by omega) (by decide)) ?_
  refine ⟨_, rfl, ?_⟩
  refine X.if_eq_f (tgt := 25) dX4_tape_16 (by decide) ((by decide)) ?_
  refine X.iload_n dX4_tape_19 rfl ?_
  refine X.bipush (v := 32) dX4_tape_20 (by decide) ?_
  refine X.icmp_le_t (tgt := 27) dX4_tape_22 (by decide) (nI_le (b := 32) hn (by decide)) ?_
  refine X.iload_n dX4_tape_27 rfl ?_
  refine X.if_ge_t (tgt := 38) dX4_tape_28 (by decide) (nI_pos' (by omega)) ?_
  refine X.aload dX4_tape_38 rfl ?_
  refine X.new (c := 3) dX4_tape_40 (by decide) wc_X4_71 wins_RX3 wini_RX3 ?_
  refine X.dup dX4_tape_43 ?_
  refine X.iload_n dX4_tape_44 rfl ?_
  refine X.iload_n dX4_tape_45 rfl ?_
  refine X.cI2v (k' := kX3_init) dX4_tape_46 ⟨rfl, rfl⟩ v_X3_init wm_X4_73 wi_X3_init ⟨Nat.le_of_ble_eq_true rfl, Nat.le_of_ble_eq_true rfl⟩ n_X3_init (Nat.le_of_ble_eq_true rfl) ?_
  refine x_tapeInit (xT_new _ _ _ _) rfl hk hn (fun μ2 hN => ?_)
  refine ⟨rfl, ?_⟩
  obtain ⟨hR, hO⟩ := hR.tapeNew hE hk hn hN.p u
  have hB := hR.2.1
  refine X.iconst (v := 0) dX4_tape_49 (by decide) ?_
  refine X.cV2v (k' := kX2_hold) dX4_tape_50 ((hB.2.2.1 a ha).1) ⟨by decide, rfl⟩ v_X2_hold wm_X4_76 wi_X2_hold ws_X2_hold ⟨Nat.le_of_ble_eq_true rfl, Nat.le_of_ble_eq_true rfl⟩ n_X2_hold (Nat.le_of_ble_eq_true rfl) ?_
  refine x_hold (r := some (mN μ)) hB ha (Or.inl rfl) ?_
  refine ⟨rfl, ?_⟩
  have hR := hR.hold ha (x := nI (freeM ν)) (r := some (mN μ)) (b := 0) (Or.inr (Or.inr ⟨freeM ν, rfl, by rw [show phN φ (freeM ν) (mN μ) (freeM ν) = mN μ from if_pos rfl], rfl, hO⟩))
  have hB := hR.2.1
  refine X.aload_n dX4_tape_53 rfl ?_
  refine X.iconst (v := 0) dX4_tape_54 (by decide) ?_
  refine X.iload_n dX4_tape_55 rfl ?_
  refine X.cV2i (k' := kX4_answer) dX4_tape_56 (hB.1 1 (by decide) (by decide)) ⟨by decide, rfl⟩ v_X4_answer wm_X4_67 wi_X4_answer ws_X4_answer ⟨Nat.le_of_ble_eq_true rfl, Nat.le_of_ble_eq_true rfl⟩ n_X4_answer (Nat.le_of_ble_eq_true rfl) ?_
  refine c_answer_0 hR (fun μ1 hR => ?_)
  refine ⟨_, rfl, ?_⟩
  refine X.ret dX4_tape_59 ⟨trivial, ?_⟩
  rw [hold_met] at hR
  exact hq _ _ hR
noncomputable def dbW (ν : xM) (u : Nat → Int32) (kk old n i : Nat) : xM := sB (newTM ν u kk n) (cpw (freeM ν) old kk i (mJ (newTM ν u kk n) 48) (mJ (newTM ν u kk n) 48))
theorem dbW_form (ν : xM) (u : Nat → Int32) (kk old n i : Nat) : dbW ν u kk old n i = sB (sI (sI (sA ν 47 u) 45 (freeM ν) (nI kk)) 46 (freeM ν) (nI n)) (cpw (freeM ν) old kk i (mJ (newTM ν u kk n) 48) (mJ (newTM ν u kk n) 48)) := by
  unfold dbW newTM
  rw [sB_sB]
theorem dbW_at {ν : xM} {u : Nat → Int32} {kk old n i : Nat} (hn : n ≤ 32) (hi : i ≤ n) : AtT ν (dbW ν u kk old n i) (freeM ν) := by
  rw [dbW_form]
  refine at_new (fun t ht j hj => ?_)
  unfold cpw
  rw [if_neg (by omega)]
  exact zr_off hn _ t ht j hj
theorem dbW_ks {ν : xM} {u : Nat → Int32} {kk old n i : Nat} (hk : kk ≤ 10) (hn : n ≤ 32) : (mI (dbW ν u kk old n i) 45 (freeM ν) = nI kk ∧ mI (dbW ν u kk old n i) 46 (freeM ν) = nI n) ∧ kd (dbW ν u kk old n i) (freeM ν) = kk ∧ sz (dbW ν u kk old n i) (freeM ν) = n := by
  rw [dbW_form]
  exact new_ks hk hn
theorem dbW_0 (ν : xM) (u : Nat → Int32) (kk old n : Nat) : dbW ν u kk old n 0 = newTM ν u kk n := by
  unfold dbW
  rw [cpw_0, sB_id]
theorem dbW_s {ν : xM} {u : Nat → Int32} {kk old n i : Nat} (hn : n ≤ 32) (ho : old ≠ freeM ν) (hi : i < 32) : sJ (dbW ν u kk old n i) 48 (32 * freeM ν + i) (fitM kk (cv ν old i)) = dbW ν u kk old n (i + 1) := by
  have e : cv ν old i = mJ (newTM ν u kk n) 48 (32 * old + i) := (zr_off hn (mJ ν 48) old ho i hi).symm
  rw [e]
  exact cpw_sJ _ _ _ _ _ _ _
theorem CellR.born {ν ν' : xM} {φ : Nat → Nat} {E : Nat → Prop} {t0 p K : Nat} {v num : Int64} {r : Option Nat} (hA : AtT ν ν' t0) (hl : ¬ lvE ν E t0) (h : CellR ν φ E K v num r) : CellR ν' (phN φ t0 p) (fun _ => True) K v num r := by
  obtain ⟨A1, A2, A3⟩ := hA
  have eg : gM ν' = gM ν := by unfold gM; rw [A1 44 (by decide) (by decide) (by decide)]
  have e49 := A1 49 (by decide) (by decide) (by decide)
  rcases h with a | a | ⟨a1, a2, a3, a4, a5, a6, a7, a8⟩ | a
  · exact Or.inl a
  · refine Or.inr (Or.inl ?_)
    rw [eg, e49]
    exact a
  · have hd : lx v - 1 ≠ t0 := fun q => hl (q ▸ a7)
    refine Or.inr (Or.inr (Or.inl ⟨a1, a2, a3, a4, ?_, ?_, Or.inr ⟨trivial, by omega⟩, ?_⟩))
    · rw [(A2 _ hd).2]; exact a5
    · rw [show phN φ t0 p (lx v - 1) = φ (lx v - 1) from if_neg hd]; exact a6
    · unfold kd at a8 ⊢; rw [(A2 _ hd).1]; exact a8
  · exact Or.inr (Or.inr (Or.inr a))
theorem TS.cell {μ : xM} {a k n : Nat} {K : Int32} {num : Int64} {r : Option Nat} (h : TS μ a k n) (ha : 66 ≤ a) : TS (cellP μ 26 K num r) a k n := by
  obtain ⟨h1, h2, h3⟩ := h
  unfold cellP
  refine ⟨h1, ?_, ?_⟩
  · show mI (sI μ 26 0 K) a 0 = _ ∧ mI (sI μ 26 0 K) a 1 = _
    rw [mI_at (by omega)]; exact h2
  · rw [mR_at (by omega)]; exact h3
theorem dbn_2 (ν : xM) (t kk : Nat) : ∀ n k, dbn ν t kk n k = 0 ∨ dbn ν t kk n k = 2 := by
  intro n
  induction n with
  | zero => intro k; exact Or.inl rfl
  | succ n ih =>
    intro k
    unfold dbn
    by_cases h : noTakeM kk (cellKindM ν t k) = 0
    · rw [if_pos h]; exact ih (k + 1)
    · rw [if_neg h]
      unfold noTakeM at h ⊢
      split
      · rename_i q; rw [if_pos q] at h; exact absurd rfl h
      · exact Or.inr rfl
theorem dbn_all {ν : xM} {t kk : Nat} : ∀ (n k : Nat), dbn ν t kk n k = 0 → ∀ j, k ≤ j → j < k + n → takesM kk (cellKindM ν t j) = true := by
  intro n
  induction n with
  | zero => intro k _ j h1 h2; omega
  | succ n ih =>
    intro k h j h1 h2
    unfold dbn at h
    by_cases q : noTakeM kk (cellKindM ν t k) = 0
    · rw [if_pos q] at h
      by_cases e : j = k
      · rw [e]; exact noTake_0 q
      · exact ih (k + 1) h j (by omega) (by omega)
    · rw [if_neg q] at h; exact absurd h q
set_option maxRecDepth 100000 in
set_option maxHeartbeats 4000000 in
theorem cdr {a b kk p0 i n : Nat} {ρ ν μ : xM} {φ κ : Nat → Nat} {B : Nat × Nat × Nat × (Nat → Prop)} {Q : Option Value → xM → Prop} (ha : a < 16) (h0 : noTapeM ν b = 0) (hb : b < 16) (hR : Rel ρ ν μ φ κ B) (hP : TS μ p0 kk n) (hq : ∀ μ1, Rel ρ (metM ν 2) μ1 φ κ B → Q (some (.int (rR 2))) μ1) (hi : i ≤ 32) : X kX4_dub none 77 (xl [(0, .ref 1), (4, .ref (28 + a)), (6, .ref (φ (tp ν b))), (7, .ref p0), (8, .int (nI 2)), (9, .int (nI i))]) [] μ (fun r μ' => xrok kX4_dub.2.2.2.1 r ∧ Q r μ') := by
  have hB := hR.2.1
  have hO := (hR.tr (live_c hb h0)).ts
  have lo := sz_le hR.wt (tp_lt hR.wt hb h0)
  by_cases hl : i < sz ν (tp ν b)
  · refine X.iload dX4_dub_77 rfl ?_
    refine X.aload dX4_dub_79 rfl ?_
    refine X.getI (kf := 1) dX4_dub_81 (hO.1.1) (by decide) (by decide) rfl wf_X4_145 ?_
    refine X.icmp_ge_f (tgt := 129) dX4_dub_84 (by decide) ((by rw [hO.2.1.2]; exact nI_ge hl (by omega))) ?_
    refine X.iload dX4_dub_87 rfl ?_
    refine X.if_ne_t (tgt := 129) dX4_dub_89 (by decide) ((by decide)) ?_
    refine X.iload dX4_dub_129 rfl ?_
    refine X.if_ne_t (tgt := 142) dX4_dub_131 (by decide) ((by decide)) ?_
    refine X.aload_n dX4_dub_142 rfl ?_
    refine X.iload dX4_dub_143 rfl ?_
    refine X.aload dX4_dub_145 rfl ?_
    refine X.getI (kf := 1) dX4_dub_147 (hP.1.1) (by decide) (by decide) rfl wf_X4_145 ?_
    refine X.cV2i (k' := kX4_answer) dX4_dub_150 (hB.1 1 (by decide) (by decide)) ⟨by decide, rfl⟩ v_X4_answer wm_X4_67 wi_X4_answer ws_X4_answer ⟨Nat.le_of_ble_eq_true rfl, Nat.le_of_ble_eq_true rfl⟩ n_X4_answer (Nat.le_of_ble_eq_true rfl) ?_
    refine c_answer_r hR (r := 2) (by decide) (by decide) (fun μ1 hR => ?_)
    refine ⟨_, rfl, ?_⟩
    refine X.ret dX4_dub_153 ⟨trivial, ?_⟩
    exact hq _ hR
  · refine X.iload dX4_dub_77 rfl ?_
    refine X.aload dX4_dub_79 rfl ?_
    refine X.getI (kf := 1) dX4_dub_81 (hO.1.1) (by decide) (by decide) rfl wf_X4_145 ?_
    refine X.icmp_ge_t (tgt := 129) dX4_dub_84 (by decide) ((by rw [hO.2.1.2]; exact nI_le (by omega) (by omega))) ?_
    refine X.iload dX4_dub_129 rfl ?_
    refine X.if_ne_t (tgt := 142) dX4_dub_131 (by decide) ((by decide)) ?_
    refine X.aload_n dX4_dub_142 rfl ?_
    refine X.iload dX4_dub_143 rfl ?_
    refine X.aload dX4_dub_145 rfl ?_
    refine X.getI (kf := 1) dX4_dub_147 (hP.1.1) (by decide) (by decide) rfl wf_X4_145 ?_
    refine X.cV2i (k' := kX4_answer) dX4_dub_150 (hB.1 1 (by decide) (by decide)) ⟨by decide, rfl⟩ v_X4_answer wm_X4_67 wi_X4_answer ws_X4_answer ⟨Nat.le_of_ble_eq_true rfl, Nat.le_of_ble_eq_true rfl⟩ n_X4_answer (Nat.le_of_ble_eq_true rfl) ?_
    refine c_answer_r hR (r := 2) (by decide) (by decide) (fun μ1 hR => ?_)
    refine ⟨_, rfl, ?_⟩
    refine X.ret dX4_dub_153 ⟨trivial, ?_⟩
    exact hq _ hR
set_option maxRecDepth 100000 in
set_option maxHeartbeats 4000000 in
theorem cdb {a b kk p0 : Nat} {u : Nat → Int32} {ρ ν : xM} {φ κ : Nat → Nat} {B : Nat × Nat × Nat × (Nat → Prop)} {Q : Option Value → xM → Prop} (ha : a < 16) (hb : b < 16) (h0 : noTapeM ν b = 0) (hk : kk ≤ 10) (hE : ∀ t, ¬ B.2.2.2 t) (hU : Und ν φ κ B.2.2.2 p0) (hq0 : ∀ μ, Rel ρ ν μ φ κ B → TR (dbW ν u kk (tp ν b) (sz ν (tp ν b)) (sz ν (tp ν b))) μ (phN φ (freeM ν) p0) (freeM ν) → dbn ν (tp ν b) kk (sz ν (tp ν b)) 0 = 0 → X kX4_dub none 129 (xl [(0, .ref 1), (4, .ref (28 + a)), (7, .ref p0), (8, .int (nI 0))]) [] μ (fun r μ1 => xrok kX4_dub.2.2.2.1 r ∧ Q r μ1)) (hq2 : dbn ν (tp ν b) kk (sz ν (tp ν b)) 0 = 2 → ∀ μ1, Rel ρ (metM ν 2) μ1 φ κ B → Q (some (.int (rR 2))) μ1) : ∀ (m i : Nat) (μ : xM), i + m = sz ν (tp ν b) → Rel ρ ν μ φ κ B → TR (dbW ν u kk (tp ν b) (sz ν (tp ν b)) i) μ (phN φ (freeM ν) p0) (freeM ν) → dbn ν (tp ν b) kk (sz ν (tp ν b)) 0 = dbn ν (tp ν b) kk m i → X kX4_dub none 77 (xl [(0, .ref 1), (4, .ref (28 + a)), (6, .ref (φ (tp ν b))), (7, .ref p0), (8, .int (nI 0)), (9, .int (nI i))]) [] μ (fun r μ1 => xrok kX4_dub.2.2.2.1 r ∧ Q r μ1) := by
  intro m
  induction m with
  | zero =>
    intro i μ hi hR hI e0
    have hB := hR.2.1
    have hT5 := hR.tr (live_c hb h0)
    have hO := hT5.ts
    have lo := sz_le hR.wt (tp_lt hR.wt hb h0)
    have hks := dbW_ks (ν := ν) (u := u) (old := tp ν b) (i := i) hk lo
    have hP : TS μ p0 kk (sz ν (tp ν b)) := by
      have w := hI.ts
      rw [hks.2.1, hks.2.2, show phN φ (freeM ν) p0 (freeM ν) = p0 from if_pos rfl] at w
      exact w
    have hn := lo
    obtain rfl : i = sz ν (tp ν b) := by omega
    refine X.iload dX4_dub_77 rfl ?_
    refine X.aload dX4_dub_79 rfl ?_
    refine X.getI (kf := 1) dX4_dub_81 (hO.1.1) (by decide) (by decide) rfl wf_X4_145 ?_
    refine X.icmp_ge_t (tgt := 129) dX4_dub_84 (by decide) ((by rw [hO.2.1.2]; exact nI_le (Nat.le_refl _) (by omega))) ?_
    exact X.at [(0, .ref 1), (4, .ref (28 + a)), (7, .ref p0), (8, .int (nI 0))] ⟨rfl, rfl, rfl, rfl, trivial⟩ (hq0 _ hR hI e0)
  | succ m ih =>
    intro i μ hi hR hI e0
    have hB := hR.2.1
    have hT5 := hR.tr (live_c hb h0)
    have hO := hT5.ts
    have lo := sz_le hR.wt (tp_lt hR.wt hb h0)
    have hks := dbW_ks (ν := ν) (u := u) (old := tp ν b) (i := i) hk lo
    have hP : TS μ p0 kk (sz ν (tp ν b)) := by
      have w := hI.ts
      rw [hks.2.1, hks.2.2, show phN φ (freeM ν) p0 (freeM ν) = p0 from if_pos rfl] at w
      exact w
    have hn := lo
    have hl : i < sz ν (tp ν b) := by omega
    rw [show dbn ν (tp ν b) kk (m + 1) i = if noTakeM kk (cellKindM ν (tp ν b) i) = 0 then dbn ν (tp ν b) kk m (i + 1) else noTakeM kk (cellKindM ν (tp ν b) i) from rfl] at e0
    cases et : takesM kk (cellKindM ν (tp ν b) i) with
    | true =>
      have e1 : noTakeM kk (cellKindM ν (tp ν b) i) = 0 := by unfold noTakeM; rw [et]; rfl
      rw [if_pos e1] at e0
      by_cases h8 : kk < 8
      · have h11 : ¬ (cellKindM ν (tp ν b) i) = 11 := by have := takes_lt h8 et; omega
        refine X.iload dX4_dub_77 rfl ?_
        refine X.aload dX4_dub_79 rfl ?_
        refine X.getI (kf := 1) dX4_dub_81 (hO.1.1) (by decide) (by decide) rfl wf_X4_145 ?_
        refine X.icmp_ge_f (tgt := 129) dX4_dub_84 (by decide) ((by rw [hO.2.1.2]; exact nI_ge hl (by omega))) ?_
        refine X.iload dX4_dub_87 rfl ?_
        refine X.if_ne_f (tgt := 129) dX4_dub_89 (by decide) ((by decide)) ?_
        refine X.aload dX4_dub_92 rfl ?_
        refine X.iload dX4_dub_94 rfl ?_
        refine X.aload_n dX4_dub_96 rfl ?_
        refine X.getR (b := 26) (kf := 9) dX4_dub_97 (hB.1 1 (by decide) (by decide)) (by decide) (by decide) rfl wf_X4_49 (hB.2.1 9 (by decide)) ?_
        refine X.cV2i (k' := kX3_copyTo) dX4_dub_100 (hO.1.1) ⟨by decide, rfl⟩ v_X3_copyTo wm_X4_183 wi_X3_copyTo ws_X3_copyTo ⟨Nat.le_of_ble_eq_true rfl, Nat.le_of_ble_eq_true rfl⟩ n_X3_copyTo (Nat.le_of_ble_eq_true rfl) ?_
        refine x_copyTo hO lo (hR.hand (Or.inl rfl)) (rng_nI hl (by omega)) ?_
        refine ⟨_, rfl, ?_⟩
        have hC := hR.cellR hb h0 hl
        obtain ⟨v1, v2, v3⟩ := hT5.2.2.2.2 i hl
        rw [v1, v2, v3]
        have hR := hR.cell (Or.inl rfl) (nI (cellKindM ν (tp ν b) i)) (numM ν (tp ν b) i) (tref ν φ (tp ν b) i)
        have hB := hR.2.1
        have hO := (hR.tr (live_c hb h0)).ts
        have hP := hP.cell (K := nI (cellKindM ν (tp ν b) i)) (num := numM ν (tp ν b) i) (r := tref ν φ (tp ν b) i) hU.1
        refine X.istore dX4_dub_103 (Nat.le_of_ble_eq_true rfl) ?_
        refine X.iload dX4_dub_105 rfl ?_
        refine X.if_ne_f (tgt := 123) dX4_dub_107 (by decide) ((by decide)) ?_
        refine X.aload dX4_dub_110 rfl ?_
        refine X.iload dX4_dub_112 rfl ?_
        refine X.aload_n dX4_dub_114 rfl ?_
        refine X.getR (b := 26) (kf := 9) dX4_dub_115 (hB.1 1 (by decide) (by decide)) (by decide) (by decide) rfl wf_X4_49 (hB.2.1 9 (by decide)) ?_
        refine X.cV2i (k' := kX3_accept) dX4_dub_118 (hP.1.1) ⟨by decide, rfl⟩ v_X3_accept wm_X4_186 wi_X3_accept ws_X3_accept ⟨Nat.le_of_ble_eq_true rfl, Nat.le_of_ble_eq_true rfl⟩ n_X3_accept (Nat.le_of_ble_eq_true rfl) ?_
        have hbr : ∀ y, mR (cellP μ 26 (nI (cellKindM ν (tp ν b) i)) (numM ν (tp ν b) i) (tref ν φ (tp ν b) i)) 26 2 = some y → mT (cellP μ 26 (nI (cellKindM ν (tp ν b) i)) (numM ν (tp ν b) i) (tref ν φ (tp ν b) i)) y = (3, 0) := fun y hy => hC.ref hR y hy
        refine x_acceptp (K := (cellKindM ν (tp ν b) i)) hP hn hk (hR.hand (Or.inl rfl)) rfl (Nat.le_trans cellKind_le (by decide)) h8 h11 (rng_nI hl (by omega)) et hbr ?_
        refine ⟨_, rfl, ?_⟩
        refine X.istore dX4_dub_121 (Nat.le_of_ble_eq_true rfl) ?_
        refine X.iinc1 dX4_dub_123 rfl (Nat.le_of_ble_eq_true rfl) ?_
        refine X.goto (tgt := 77) dX4_dub_126 (by decide) ?_
        have hbase := hR.2.2.2.2.2.2.2
        have e1 : ∀ y, y < p0 → mT (wrP (cellP μ 26 (nI (cellKindM ν (tp ν b) i)) (numM ν (tp ν b) i) (tref ν φ (tp ν b) i)) p0 i (nI kk) (fitM kk (numM ν (tp ν b) i)) (tref ν φ (tp ν b) i)) y = mT (cellP μ 26 (nI (cellKindM ν (tp ν b) i)) (numM ν (tp ν b) i) (tref ν φ (tp ν b) i)) y ∧ mI (wrP (cellP μ 26 (nI (cellKindM ν (tp ν b) i)) (numM ν (tp ν b) i) (tref ν φ (tp ν b) i)) p0 i (nI kk) (fitM kk (numM ν (tp ν b) i)) (tref ν φ (tp ν b) i)) y = mI (cellP μ 26 (nI (cellKindM ν (tp ν b) i)) (numM ν (tp ν b) i) (tref ν φ (tp ν b) i)) y ∧ mJ (wrP (cellP μ 26 (nI (cellKindM ν (tp ν b) i)) (numM ν (tp ν b) i) (tref ν φ (tp ν b) i)) p0 i (nI kk) (fitM kk (numM ν (tp ν b) i)) (tref ν φ (tp ν b) i)) y = mJ (cellP μ 26 (nI (cellKindM ν (tp ν b) i)) (numM ν (tp ν b) i) (tref ν φ (tp ν b) i)) y ∧ mR (wrP (cellP μ 26 (nI (cellKindM ν (tp ν b) i)) (numM ν (tp ν b) i) (tref ν φ (tp ν b) i)) p0 i (nI kk) (fitM kk (numM ν (tp ν b) i)) (tref ν φ (tp ν b) i)) y = mR (cellP μ 26 (nI (cellKindM ν (tp ν b) i)) (numM ν (tp ν b) i) (tref ν φ (tp ν b) i)) y := fun y hy => ⟨rfl, wr_off (by omega) (by omega) (by omega)⟩
        have hR3 : Rel ρ ν (wrP (cellP μ 26 (nI (cellKindM ν (tp ν b) i)) (numM ν (tp ν b) i) (tref ν φ (tp ν b) i)) p0 i (nI kk) (fitM kk (numM ν (tp ν b) i)) (tref ν φ (tp ν b) i)) φ κ B := hR.ext hU e1 (Nat.le_refl _) hbase.1 hbase.2
        have hI1 : TR (dbW ν u kk (tp ν b) (sz ν (tp ν b)) i) (cellP μ 26 (nI (cellKindM ν (tp ν b) i)) (numM ν (tp ν b) i) (tref ν φ (tp ν b) i)) (phN φ (freeM ν) p0) (freeM ν) := by
          refine hI.cg (fun j hj => ?_) (Nat.le_refl _)
          have h66 : 66 ≤ phN φ (freeM ν) p0 (freeM ν) := hI.1.1
          refine ⟨rfl, mI_at (by omega), mJ_at (by omega), mR_at (by omega)⟩
        have hfr := freeM_ok hR.wt
        have hnl : ¬ lvE ν B.2.2.2 (freeM ν) := fun q => q.elim hfr.2.1 (fun q => hE _ q.1)
        have hA := dbW_at (ν := ν) (u := u) (kk := kk) (old := tp ν b) lo (show i ≤ sz ν (tp ν b) by omega)
        have w := hI1.write (j := i) (K := (cellKindM ν (tp ν b) i)) (v := cv ν (tp ν b) i) (by rw [hks.2.2]; exact hl) (by rw [hks.2.2]; exact lo) (by rw [hks.2.1]; exact hk) (hC.born (p := p0) hA hnl) (by rw [hks.2.1]; exact et)
        rw [hks.2.1, dbW_s lo (fun q => hfr.2.1 (q ▸ live_c hb h0)) (by omega), show phN φ (freeM ν) p0 (freeM ν) = p0 from if_pos rfl, if_pos h8] at w
        exact X.at [(0, .ref 1), (4, .ref (28 + a)), (6, .ref (φ (tp ν b))), (7, .ref p0), (8, .int (nI 0)), (9, .int (nI (i + 1)))] ⟨rfl, rfl, rfl, rfl, rfl, iN i, trivial⟩ (ih (i + 1) _ (by omega) hR3 w e0)
      · skip
        refine X.iload dX4_dub_77 rfl ?_
        refine X.aload dX4_dub_79 rfl ?_
        refine X.getI (kf := 1) dX4_dub_81 (hO.1.1) (by decide) (by decide) rfl wf_X4_145 ?_
        refine X.icmp_ge_f (tgt := 129) dX4_dub_84 (by decide) ((by rw [hO.2.1.2]; exact nI_ge hl (by omega))) ?_
        refine X.iload dX4_dub_87 rfl ?_
        refine X.if_ne_f (tgt := 129) dX4_dub_89 (by decide) ((by decide)) ?_
        refine X.aload dX4_dub_92 rfl ?_
        refine X.iload dX4_dub_94 rfl ?_
        refine X.aload_n dX4_dub_96 rfl ?_
        refine X.getR (b := 26) (kf := 9) dX4_dub_97 (hB.1 1 (by decide) (by decide)) (by decide) (by decide) rfl wf_X4_49 (hB.2.1 9 (by decide)) ?_
        refine X.cV2i (k' := kX3_copyTo) dX4_dub_100 (hO.1.1) ⟨by decide, rfl⟩ v_X3_copyTo wm_X4_183 wi_X3_copyTo ws_X3_copyTo ⟨Nat.le_of_ble_eq_true rfl, Nat.le_of_ble_eq_true rfl⟩ n_X3_copyTo (Nat.le_of_ble_eq_true rfl) ?_
        refine x_copyTo hO lo (hR.hand (Or.inl rfl)) (rng_nI hl (by omega)) ?_
        refine ⟨_, rfl, ?_⟩
        have hC := hR.cellR hb h0 hl
        obtain ⟨v1, v2, v3⟩ := hT5.2.2.2.2 i hl
        rw [v1, v2, v3]
        have hR := hR.cell (Or.inl rfl) (nI (cellKindM ν (tp ν b) i)) (numM ν (tp ν b) i) (tref ν φ (tp ν b) i)
        have hB := hR.2.1
        have hO := (hR.tr (live_c hb h0)).ts
        have hP := hP.cell (K := nI (cellKindM ν (tp ν b) i)) (num := numM ν (tp ν b) i) (r := tref ν φ (tp ν b) i) hU.1
        refine X.istore dX4_dub_103 (Nat.le_of_ble_eq_true rfl) ?_
        refine X.iload dX4_dub_105 rfl ?_
        refine X.if_ne_f (tgt := 123) dX4_dub_107 (by decide) ((by decide)) ?_
        refine X.aload dX4_dub_110 rfl ?_
        refine X.iload dX4_dub_112 rfl ?_
        refine X.aload_n dX4_dub_114 rfl ?_
        refine X.getR (b := 26) (kf := 9) dX4_dub_115 (hB.1 1 (by decide) (by decide)) (by decide) (by decide) rfl wf_X4_49 (hB.2.1 9 (by decide)) ?_
        refine X.cV2i (k' := kX3_accept) dX4_dub_118 (hP.1.1) ⟨by decide, rfl⟩ v_X3_accept wm_X4_186 wi_X3_accept ws_X3_accept ⟨Nat.le_of_ble_eq_true rfl, Nat.le_of_ble_eq_true rfl⟩ n_X3_accept (Nat.le_of_ble_eq_true rfl) ?_
        have hbr : ∀ y, mR (cellP μ 26 (nI (cellKindM ν (tp ν b) i)) (numM ν (tp ν b) i) (tref ν φ (tp ν b) i)) 26 2 = some y → mT (cellP μ 26 (nI (cellKindM ν (tp ν b) i)) (numM ν (tp ν b) i) (tref ν φ (tp ν b) i)) y = (3, 0) := fun y hy => hC.ref hR y hy
        refine x_accepts (K := (cellKindM ν (tp ν b) i)) hP hn hk (hR.hand (Or.inl rfl)) rfl (Nat.le_trans cellKind_le (by decide)) h8 (rng_nI hl (by omega)) et hbr ?_
        refine ⟨_, rfl, ?_⟩
        refine X.istore dX4_dub_121 (Nat.le_of_ble_eq_true rfl) ?_
        refine X.iinc1 dX4_dub_123 rfl (Nat.le_of_ble_eq_true rfl) ?_
        refine X.goto (tgt := 77) dX4_dub_126 (by decide) ?_
        have hbase := hR.2.2.2.2.2.2.2
        have e1 : ∀ y, y < p0 → mT (wrP (cellP μ 26 (nI (cellKindM ν (tp ν b) i)) (numM ν (tp ν b) i) (tref ν φ (tp ν b) i)) p0 i (nI (cellKindM ν (tp ν b) i)) (fitM kk (numM ν (tp ν b) i)) (tref ν φ (tp ν b) i)) y = mT (cellP μ 26 (nI (cellKindM ν (tp ν b) i)) (numM ν (tp ν b) i) (tref ν φ (tp ν b) i)) y ∧ mI (wrP (cellP μ 26 (nI (cellKindM ν (tp ν b) i)) (numM ν (tp ν b) i) (tref ν φ (tp ν b) i)) p0 i (nI (cellKindM ν (tp ν b) i)) (fitM kk (numM ν (tp ν b) i)) (tref ν φ (tp ν b) i)) y = mI (cellP μ 26 (nI (cellKindM ν (tp ν b) i)) (numM ν (tp ν b) i) (tref ν φ (tp ν b) i)) y ∧ mJ (wrP (cellP μ 26 (nI (cellKindM ν (tp ν b) i)) (numM ν (tp ν b) i) (tref ν φ (tp ν b) i)) p0 i (nI (cellKindM ν (tp ν b) i)) (fitM kk (numM ν (tp ν b) i)) (tref ν φ (tp ν b) i)) y = mJ (cellP μ 26 (nI (cellKindM ν (tp ν b) i)) (numM ν (tp ν b) i) (tref ν φ (tp ν b) i)) y ∧ mR (wrP (cellP μ 26 (nI (cellKindM ν (tp ν b) i)) (numM ν (tp ν b) i) (tref ν φ (tp ν b) i)) p0 i (nI (cellKindM ν (tp ν b) i)) (fitM kk (numM ν (tp ν b) i)) (tref ν φ (tp ν b) i)) y = mR (cellP μ 26 (nI (cellKindM ν (tp ν b) i)) (numM ν (tp ν b) i) (tref ν φ (tp ν b) i)) y := fun y hy => ⟨rfl, wr_off (by omega) (by omega) (by omega)⟩
        have hR3 : Rel ρ ν (wrP (cellP μ 26 (nI (cellKindM ν (tp ν b) i)) (numM ν (tp ν b) i) (tref ν φ (tp ν b) i)) p0 i (nI (cellKindM ν (tp ν b) i)) (fitM kk (numM ν (tp ν b) i)) (tref ν φ (tp ν b) i)) φ κ B := hR.ext hU e1 (Nat.le_refl _) hbase.1 hbase.2
        have hI1 : TR (dbW ν u kk (tp ν b) (sz ν (tp ν b)) i) (cellP μ 26 (nI (cellKindM ν (tp ν b) i)) (numM ν (tp ν b) i) (tref ν φ (tp ν b) i)) (phN φ (freeM ν) p0) (freeM ν) := by
          refine hI.cg (fun j hj => ?_) (Nat.le_refl _)
          have h66 : 66 ≤ phN φ (freeM ν) p0 (freeM ν) := hI.1.1
          refine ⟨rfl, mI_at (by omega), mJ_at (by omega), mR_at (by omega)⟩
        have hfr := freeM_ok hR.wt
        have hnl : ¬ lvE ν B.2.2.2 (freeM ν) := fun q => q.elim hfr.2.1 (fun q => hE _ q.1)
        have hA := dbW_at (ν := ν) (u := u) (kk := kk) (old := tp ν b) lo (show i ≤ sz ν (tp ν b) by omega)
        have w := hI1.write (j := i) (K := (cellKindM ν (tp ν b) i)) (v := cv ν (tp ν b) i) (by rw [hks.2.2]; exact hl) (by rw [hks.2.2]; exact lo) (by rw [hks.2.1]; exact hk) (hC.born (p := p0) hA hnl) (by rw [hks.2.1]; exact et)
        rw [hks.2.1, dbW_s lo (fun q => hfr.2.1 (q ▸ live_c hb h0)) (by omega), show phN φ (freeM ν) p0 (freeM ν) = p0 from if_pos rfl, if_neg h8] at w
        exact X.at [(0, .ref 1), (4, .ref (28 + a)), (6, .ref (φ (tp ν b))), (7, .ref p0), (8, .int (nI 0)), (9, .int (nI (i + 1)))] ⟨rfl, rfl, rfl, rfl, rfl, iN i, trivial⟩ (ih (i + 1) _ (by omega) hR3 w e0)
    | false =>
      have e1 : noTakeM kk (cellKindM ν (tp ν b) i) = 2 := by unfold noTakeM; rw [et]; rfl
      rw [e1, if_neg (by decide)] at e0
      have e2 := e0
      by_cases h8 : kk < 8
      · by_cases h11 : (cellKindM ν (tp ν b) i) = 11
        · skip
          refine X.iload dX4_dub_77 rfl ?_
          refine X.aload dX4_dub_79 rfl ?_
          refine X.getI (kf := 1) dX4_dub_81 (hO.1.1) (by decide) (by decide) rfl wf_X4_145 ?_
          refine X.icmp_ge_f (tgt := 129) dX4_dub_84 (by decide) ((by rw [hO.2.1.2]; exact nI_ge hl (by omega))) ?_
          refine X.iload dX4_dub_87 rfl ?_
          refine X.if_ne_f (tgt := 129) dX4_dub_89 (by decide) ((by decide)) ?_
          refine X.aload dX4_dub_92 rfl ?_
          refine X.iload dX4_dub_94 rfl ?_
          refine X.aload_n dX4_dub_96 rfl ?_
          refine X.getR (b := 26) (kf := 9) dX4_dub_97 (hB.1 1 (by decide) (by decide)) (by decide) (by decide) rfl wf_X4_49 (hB.2.1 9 (by decide)) ?_
          refine X.cV2i (k' := kX3_copyTo) dX4_dub_100 (hO.1.1) ⟨by decide, rfl⟩ v_X3_copyTo wm_X4_183 wi_X3_copyTo ws_X3_copyTo ⟨Nat.le_of_ble_eq_true rfl, Nat.le_of_ble_eq_true rfl⟩ n_X3_copyTo (Nat.le_of_ble_eq_true rfl) ?_
          refine x_copyTo hO lo (hR.hand (Or.inl rfl)) (rng_nI hl (by omega)) ?_
          refine ⟨_, rfl, ?_⟩
          have hC := hR.cellR hb h0 hl
          obtain ⟨v1, v2, v3⟩ := hT5.2.2.2.2 i hl
          rw [v1, v2, v3]
          have hR := hR.cell (Or.inl rfl) (nI (cellKindM ν (tp ν b) i)) (numM ν (tp ν b) i) (tref ν φ (tp ν b) i)
          have hB := hR.2.1
          have hO := (hR.tr (live_c hb h0)).ts
          have hP := hP.cell (K := nI (cellKindM ν (tp ν b) i)) (num := numM ν (tp ν b) i) (r := tref ν φ (tp ν b) i) hU.1
          refine X.istore dX4_dub_103 (Nat.le_of_ble_eq_true rfl) ?_
          refine X.iload dX4_dub_105 rfl ?_
          refine X.if_ne_f (tgt := 123) dX4_dub_107 (by decide) ((by decide)) ?_
          refine X.aload dX4_dub_110 rfl ?_
          refine X.iload dX4_dub_112 rfl ?_
          refine X.aload_n dX4_dub_114 rfl ?_
          refine X.getR (b := 26) (kf := 9) dX4_dub_115 (hB.1 1 (by decide) (by decide)) (by decide) (by decide) rfl wf_X4_49 (hB.2.1 9 (by decide)) ?_
          refine X.cV2i (k' := kX3_accept) dX4_dub_118 (hP.1.1) ⟨by decide, rfl⟩ v_X3_accept wm_X4_186 wi_X3_accept ws_X3_accept ⟨Nat.le_of_ble_eq_true rfl, Nat.le_of_ble_eq_true rfl⟩ n_X3_accept (Nat.le_of_ble_eq_true rfl) ?_
          refine x_accept_o1 (K := (cellKindM ν (tp ν b) i)) hP hn hk (hR.hand (Or.inl rfl)) rfl (Nat.le_trans cellKind_le (by decide)) h8 h11 ?_
          refine ⟨_, rfl, ?_⟩
          refine X.istore dX4_dub_121 (Nat.le_of_ble_eq_true rfl) ?_
          refine X.iinc1 dX4_dub_123 rfl (Nat.le_of_ble_eq_true rfl) ?_
          refine X.goto (tgt := 77) dX4_dub_126 (by decide) ?_
          have hP2 : TS (cellP μ 26 (nI (cellKindM ν (tp ν b) i)) (numM ν (tp ν b) i) (tref ν φ (tp ν b) i)) p0 kk (sz ν (tp ν b)) := hP
          exact X.at [(0, .ref 1), (4, .ref (28 + a)), (6, .ref (φ (tp ν b))), (7, .ref p0), (8, .int (nI 2)), (9, .int (nI (i + 1)))] ⟨rfl, rfl, rfl, rfl, rfl, iN i, trivial⟩ (cdr ha h0 hb hR hP2 (hq2 e2) (by omega))
        · skip
          refine X.iload dX4_dub_77 rfl ?_
          refine X.aload dX4_dub_79 rfl ?_
          refine X.getI (kf := 1) dX4_dub_81 (hO.1.1) (by decide) (by decide) rfl wf_X4_145 ?_
          refine X.icmp_ge_f (tgt := 129) dX4_dub_84 (by decide) ((by rw [hO.2.1.2]; exact nI_ge hl (by omega))) ?_
          refine X.iload dX4_dub_87 rfl ?_
          refine X.if_ne_f (tgt := 129) dX4_dub_89 (by decide) ((by decide)) ?_
          refine X.aload dX4_dub_92 rfl ?_
          refine X.iload dX4_dub_94 rfl ?_
          refine X.aload_n dX4_dub_96 rfl ?_
          refine X.getR (b := 26) (kf := 9) dX4_dub_97 (hB.1 1 (by decide) (by decide)) (by decide) (by decide) rfl wf_X4_49 (hB.2.1 9 (by decide)) ?_
          refine X.cV2i (k' := kX3_copyTo) dX4_dub_100 (hO.1.1) ⟨by decide, rfl⟩ v_X3_copyTo wm_X4_183 wi_X3_copyTo ws_X3_copyTo ⟨Nat.le_of_ble_eq_true rfl, Nat.le_of_ble_eq_true rfl⟩ n_X3_copyTo (Nat.le_of_ble_eq_true rfl) ?_
          refine x_copyTo hO lo (hR.hand (Or.inl rfl)) (rng_nI hl (by omega)) ?_
          refine ⟨_, rfl, ?_⟩
          have hC := hR.cellR hb h0 hl
          obtain ⟨v1, v2, v3⟩ := hT5.2.2.2.2 i hl
          rw [v1, v2, v3]
          have hR := hR.cell (Or.inl rfl) (nI (cellKindM ν (tp ν b) i)) (numM ν (tp ν b) i) (tref ν φ (tp ν b) i)
          have hB := hR.2.1
          have hO := (hR.tr (live_c hb h0)).ts
          have hP := hP.cell (K := nI (cellKindM ν (tp ν b) i)) (num := numM ν (tp ν b) i) (r := tref ν φ (tp ν b) i) hU.1
          refine X.istore dX4_dub_103 (Nat.le_of_ble_eq_true rfl) ?_
          refine X.iload dX4_dub_105 rfl ?_
          refine X.if_ne_f (tgt := 123) dX4_dub_107 (by decide) ((by decide)) ?_
          refine X.aload dX4_dub_110 rfl ?_
          refine X.iload dX4_dub_112 rfl ?_
          refine X.aload_n dX4_dub_114 rfl ?_
          refine X.getR (b := 26) (kf := 9) dX4_dub_115 (hB.1 1 (by decide) (by decide)) (by decide) (by decide) rfl wf_X4_49 (hB.2.1 9 (by decide)) ?_
          refine X.cV2i (k' := kX3_accept) dX4_dub_118 (hP.1.1) ⟨by decide, rfl⟩ v_X3_accept wm_X4_186 wi_X3_accept ws_X3_accept ⟨Nat.le_of_ble_eq_true rfl, Nat.le_of_ble_eq_true rfl⟩ n_X3_accept (Nat.le_of_ble_eq_true rfl) ?_
          refine x_accept_o3p (K := (cellKindM ν (tp ν b) i)) hP hn hk (hR.hand (Or.inl rfl)) rfl (Nat.le_trans cellKind_le (by decide)) h8 h11 (rng_nI hl (by omega)) et ?_
          refine ⟨_, rfl, ?_⟩
          refine X.istore dX4_dub_121 (Nat.le_of_ble_eq_true rfl) ?_
          refine X.iinc1 dX4_dub_123 rfl (Nat.le_of_ble_eq_true rfl) ?_
          refine X.goto (tgt := 77) dX4_dub_126 (by decide) ?_
          have hP2 : TS (cellP μ 26 (nI (cellKindM ν (tp ν b) i)) (numM ν (tp ν b) i) (tref ν φ (tp ν b) i)) p0 kk (sz ν (tp ν b)) := hP
          exact X.at [(0, .ref 1), (4, .ref (28 + a)), (6, .ref (φ (tp ν b))), (7, .ref p0), (8, .int (nI 2)), (9, .int (nI (i + 1)))] ⟨rfl, rfl, rfl, rfl, rfl, iN i, trivial⟩ (cdr ha h0 hb hR hP2 (hq2 e2) (by omega))
      · skip
        refine X.iload dX4_dub_77 rfl ?_
        refine X.aload dX4_dub_79 rfl ?_
        refine X.getI (kf := 1) dX4_dub_81 (hO.1.1) (by decide) (by decide) rfl wf_X4_145 ?_
        refine X.icmp_ge_f (tgt := 129) dX4_dub_84 (by decide) ((by rw [hO.2.1.2]; exact nI_ge hl (by omega))) ?_
        refine X.iload dX4_dub_87 rfl ?_
        refine X.if_ne_f (tgt := 129) dX4_dub_89 (by decide) ((by decide)) ?_
        refine X.aload dX4_dub_92 rfl ?_
        refine X.iload dX4_dub_94 rfl ?_
        refine X.aload_n dX4_dub_96 rfl ?_
        refine X.getR (b := 26) (kf := 9) dX4_dub_97 (hB.1 1 (by decide) (by decide)) (by decide) (by decide) rfl wf_X4_49 (hB.2.1 9 (by decide)) ?_
        refine X.cV2i (k' := kX3_copyTo) dX4_dub_100 (hO.1.1) ⟨by decide, rfl⟩ v_X3_copyTo wm_X4_183 wi_X3_copyTo ws_X3_copyTo ⟨Nat.le_of_ble_eq_true rfl, Nat.le_of_ble_eq_true rfl⟩ n_X3_copyTo (Nat.le_of_ble_eq_true rfl) ?_
        refine x_copyTo hO lo (hR.hand (Or.inl rfl)) (rng_nI hl (by omega)) ?_
        refine ⟨_, rfl, ?_⟩
        have hC := hR.cellR hb h0 hl
        obtain ⟨v1, v2, v3⟩ := hT5.2.2.2.2 i hl
        rw [v1, v2, v3]
        have hR := hR.cell (Or.inl rfl) (nI (cellKindM ν (tp ν b) i)) (numM ν (tp ν b) i) (tref ν φ (tp ν b) i)
        have hB := hR.2.1
        have hO := (hR.tr (live_c hb h0)).ts
        have hP := hP.cell (K := nI (cellKindM ν (tp ν b) i)) (num := numM ν (tp ν b) i) (r := tref ν φ (tp ν b) i) hU.1
        refine X.istore dX4_dub_103 (Nat.le_of_ble_eq_true rfl) ?_
        refine X.iload dX4_dub_105 rfl ?_
        refine X.if_ne_f (tgt := 123) dX4_dub_107 (by decide) ((by decide)) ?_
        refine X.aload dX4_dub_110 rfl ?_
        refine X.iload dX4_dub_112 rfl ?_
        refine X.aload_n dX4_dub_114 rfl ?_
        refine X.getR (b := 26) (kf := 9) dX4_dub_115 (hB.1 1 (by decide) (by decide)) (by decide) (by decide) rfl wf_X4_49 (hB.2.1 9 (by decide)) ?_
        refine X.cV2i (k' := kX3_accept) dX4_dub_118 (hP.1.1) ⟨by decide, rfl⟩ v_X3_accept wm_X4_186 wi_X3_accept ws_X3_accept ⟨Nat.le_of_ble_eq_true rfl, Nat.le_of_ble_eq_true rfl⟩ n_X3_accept (Nat.le_of_ble_eq_true rfl) ?_
        refine x_accept_o3s (K := (cellKindM ν (tp ν b) i)) hP hn hk (hR.hand (Or.inl rfl)) rfl (Nat.le_trans cellKind_le (by decide)) h8 (rng_nI hl (by omega)) et ?_
        refine ⟨_, rfl, ?_⟩
        refine X.istore dX4_dub_121 (Nat.le_of_ble_eq_true rfl) ?_
        refine X.iinc1 dX4_dub_123 rfl (Nat.le_of_ble_eq_true rfl) ?_
        refine X.goto (tgt := 77) dX4_dub_126 (by decide) ?_
        have hP2 : TS (cellP μ 26 (nI (cellKindM ν (tp ν b) i)) (numM ν (tp ν b) i) (tref ν φ (tp ν b) i)) p0 kk (sz ν (tp ν b)) := hP
        exact X.at [(0, .ref 1), (4, .ref (28 + a)), (6, .ref (φ (tp ν b))), (7, .ref p0), (8, .int (nI 2)), (9, .int (nI (i + 1)))] ⟨rfl, rfl, rfl, rfl, rfl, iN i, trivial⟩ (cdr ha h0 hb hR hP2 (hq2 e2) (by omega))
