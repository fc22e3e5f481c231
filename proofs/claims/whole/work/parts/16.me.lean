/-! the reference: a free tape, a new one (laid by wip/whole/mkmodel5.py) -/
def sA (μ : xM) (a : Nat) (u : Nat → Int32) : xM := (mT μ, fun b j => if b = a then u j else mI μ b j, mJ μ, mR μ, mN μ, mS μ)
theorem sA_sI (μ : xM) (a i : Nat) (u : Nat → Int32) (v : Int32) : sI (sA μ a u) a i v = sA μ a (upd u i v) := by
  show (mT μ, up2 (fun b j => if b = a then u j else mI μ b j) a i v, mJ μ, mR μ, mN μ, mS μ) = (mT μ, (fun b j => if b = a then upd u i v j else mI μ b j), mJ μ, mR μ, mN μ, mS μ)
  congr 2
  funext b j
  show (if b = a ∧ j = i then v else (if b = a then u j else mI μ b j)) = (if b = a then (if j = i then v else u j) else mI μ b j)
  by_cases h : b = a
  · by_cases h2 : j = i
    · rw [if_pos ⟨h, h2⟩, if_pos h, if_pos h2]
    · rw [if_neg (fun q => h2 q.2), if_pos h, if_pos h, if_neg h2]
  · rw [if_neg (fun q => h q.1), if_neg h, if_neg h]
theorem sA_self (μ : xM) (a : Nat) : sA μ a (mI μ a) = μ := by
  show (mT μ, (fun b j => if b = a then mI μ a j else mI μ b j), mJ μ, mR μ, mN μ, mS μ) = μ
  have e : (fun b j => if b = a then mI μ a j else mI μ b j) = mI μ := by
    funext b j
    by_cases h : b = a
    · rw [if_pos h, h]
    · rw [if_neg h]
  rw [e]
  rfl
/-- what a channel holds on to -/
def liveC (μ : xM) (c t : Nat) : Prop := noTapeM μ c = 0 ∧ (tp μ c = t ∨ (kd μ (tp μ c) = 10 ∧ ∃ k, k < sz μ (tp μ c) ∧ lx (cv μ (tp μ c) k) = t + 1))
def liveM (μ : xM) (t : Nat) : Prop := ∃ c, c < 16 ∧ liveC μ c t
theorem all_in : ∀ (n : Nat) (L : List Nat), (∀ t, t < n → t ∈ L) → n ≤ L.length
  | 0, _, _ => Nat.zero_le _
  | n + 1, L, h => by
    have h1 := all_in n (L.erase n) (fun t ht => (List.mem_erase_of_ne (by omega)).mpr (h t (by omega)))
    have h2 : n ∈ L := h n (by omega)
    rw [List.length_erase_of_mem h2] at h1
    have h3 := List.length_pos_of_mem h2
    omega
def liveL (μ : xM) (c : Nat) : List Nat := tp μ c :: (List.range 32).map (fun k => lx (cv μ (tp μ c) k) - 1)
theorem live_in {μ : xM} (hw : WFt μ) {t : Nat} (h : liveM μ t) : t ∈ (List.range 16).flatMap (liveL μ) := by
  obtain ⟨c, hc, h0, h1⟩ := h
  refine List.mem_flatMap.mpr ⟨c, List.mem_range.mpr hc, ?_⟩
  rcases h1 with rfl | ⟨-, k, hk, e⟩
  · exact List.mem_cons_self
  · obtain ⟨ht, -⟩ := hw.1 c hc h0
    obtain ⟨-, -, hs⟩ := hw.2.1 _ ht
    exact List.mem_cons_of_mem _ (List.mem_map.mpr ⟨k, List.mem_range.mpr (by omega), by omega⟩)
theorem live_len (μ : xM) : ((List.range 16).flatMap (liveL μ)).length = 528 := by
  have : ∀ n, ((List.range n).flatMap (liveL μ)).length = n * 33 := by
    intro n
    induction n with
    | zero => rfl
    | succ n ih =>
      rw [List.range_succ, List.flatMap_append, List.length_append, ih]
      simp [liveL]
      omega
  exact this 16
theorem some_free {μ : xM} (hw : WFt μ) : ∃ t, t < 560 ∧ ¬ liveM μ t ∧ ∀ j, j < t → liveM μ j := by
  have h : ∃ t, t < 560 ∧ ¬ liveM μ t := by
    apply Classical.byContradiction
    intro hn
    have := all_in 560 ((List.range 16).flatMap (liveL μ)) (fun t ht => live_in hw (Classical.byContradiction (fun q => hn ⟨t, ht, q⟩)))
    rw [live_len] at this
    omega
  obtain ⟨t, ⟨h1, h2⟩, h3⟩ := pk_least (fun t => t < 560 ∧ ¬ liveM μ t) h
  exact ⟨t, h1, h2, fun j hj => Classical.byContradiction (fun q => h3 j hj ⟨by omega, q⟩)⟩
noncomputable def freeM (μ : xM) : Nat := Classical.epsilon (fun t => t < 560 ∧ ¬ liveM μ t ∧ ∀ j, j < t → liveM μ j)
theorem freeM_ok {μ : xM} (hw : WFt μ) : freeM μ < 560 ∧ ¬ liveM μ (freeM μ) ∧ ∀ j, j < freeM μ → liveM μ j := Classical.epsilon_spec (some_free hw)
/-- the marks that stand for a set of tapes -/
def marks (u : Nat → Int32) (p : Nat → Prop) : Prop := ∀ t, t < 560 → (p t → u t = 1) ∧ (¬ p t → u t = 0)
theorem marks.to {u : Nat → Int32} {p q : Nat → Prop} (h : marks u p) (e : ∀ t, p t ↔ q t) : marks u q := fun t ht => ⟨fun x => (h t ht).1 ((e t).mpr x), fun x => (h t ht).2 (fun y => x ((e t).mp y))⟩
theorem marks.put {u : Nat → Int32} {p : Nat → Prop} (h : marks u p) (a : Nat) : marks (upd u a 1) (fun t => p t ∨ t = a) := by
  intro t ht
  unfold upd
  by_cases e : t = a
  · rw [if_pos e]
    exact ⟨fun _ => rfl, fun q => absurd (Or.inr e) q⟩
  · rw [if_neg e]
    exact ⟨fun q => (h t ht).1 (q.resolve_right e), fun q => (h t ht).2 (fun y => q (Or.inl y))⟩
theorem iN (i : Nat) : (some (Value.int (nI i + 1)) : Option Value) = some (Value.int (nI (i + 1))) := by rw [nI_1]
set_option maxRecDepth 100000 in
set_option maxHeartbeats 4000000 in
theorem ft1 {μ : xM} {Q : Option Value → xM → Prop} (hM : ShM μ) (K : ∀ u, (∀ t, t < 560 → u t = 0) → X kX5_freeTape none 22 (xl [(0, .ref 44)]) [] (sA μ 47 u) Q) : ∀ (n i : Nat) (u : Nat → Int32), i + n = 560 → (∀ t, t < i → u t = 0) → X kX5_freeTape none 2 (xl [(0, .ref 44), (1, .int (nI i))]) [] (sA μ 47 u) Q := by
  intro n
  induction n with
  | zero =>
    intro i u hi hu
    obtain rfl : i = 560 := by omega
    refine X.iload_n dX5_freeTape_2 rfl ?_
    refine X.sipush (v := 560) dX5_freeTape_3 (by decide) ?_
    refine X.icmp_ge_t (tgt := 22) dX5_freeTape_6 (by decide) (by decide) ?_
    exact X.at [(0, .ref 44)] ⟨rfl, trivial⟩ (K u (fun t ht => hu t (by omega)))
  | succ n ih =>
    intro i u hi hu
    refine X.iload_n dX5_freeTape_2 rfl ?_
    refine X.sipush (v := 560) dX5_freeTape_3 (by decide) ?_
    refine X.icmp_ge_f (tgt := 22) dX5_freeTape_6 (by decide) (nI_ge (a := i) (b := 560) (by omega) (by decide)) ?_
    refine X.aload_n dX5_freeTape_9 rfl ?_
    refine X.getR (b := 47) (kf := 2) dX5_freeTape_10 (hM.1 44 (by decide) (by decide)) (by decide) (by decide) rfl wf_X5_16 (hM.2 2 (by decide)) ?_
    refine X.iload_n dX5_freeTape_13 rfl ?_
    refine X.iconst (v := 0) dX5_freeTape_14 (by decide) ?_
    refine X.zast dX5_freeTape_15 (hM.1 47 (by decide) (by decide)) (rfl) (by omega) (by decide) (Or.inl rfl) ?_
    refine X.iinc1 dX5_freeTape_16 rfl (Nat.le_of_ble_eq_true rfl) ?_
    refine X.goto (tgt := 2) dX5_freeTape_19 (by decide) ?_
    rw [sA_sI]
    refine X.at [(0, .ref 44), (1, .int (nI (i + 1)))] ⟨rfl, iN i, trivial⟩ ?_
    refine ih (i + 1) _ (by omega) (fun t ht => ?_)
    unfold upd
    by_cases e : t = i
    · rw [if_pos e]
    · rw [if_neg e]; exact hu t (by omega)
set_option maxRecDepth 100000 in
set_option maxHeartbeats 4000000 in
theorem ft3 {μ : xM} {Q : Option Value → xM → Prop} (hM : ShM μ) (hw : WFt μ) {c t : Nat} (ht : t < 560) {p : Nat → Prop} (K : ∀ u, marks u (fun x => (p x ∨ x = t) ∨ (kd μ t = 10 ∧ ∃ k, k < sz μ t ∧ lx (cv μ t k) = x + 1)) → X kX5_freeTape none 106 (xl [(0, .ref 44), (1, .int (nI c))]) [] (sA μ 47 u) Q) : ∀ (n i : Nat) (u : Nat → Int32), i + n = sz μ t → marks u (fun x => (p x ∨ x = t) ∨ (kd μ t = 10 ∧ ∃ k, k < i ∧ lx (cv μ t k) = x + 1)) → X kX5_freeTape none 50 (xl [(0, .ref 44), (1, .int (nI c)), (2, .int (nI t)), (3, .int (nI i))]) [] (sA μ 47 u) Q := by
  obtain ⟨⟨ek, lk⟩, es, ls⟩ := hw.2.1 _ ht
  intro n
  induction n with
  | zero =>
    intro i u hi hu
    have ei : i = sz μ t := by omega
    refine X.iload_n dX5_freeTape_50 rfl ?_
    refine X.aload_n dX5_freeTape_51 rfl ?_
    refine X.getR (b := 46) (kf := 1) dX5_freeTape_52 (hM.1 44 (by decide) (by decide)) (by decide) (by decide) rfl wf_X5_13 (hM.2 1 (by decide)) ?_
    refine X.iload_n dX5_freeTape_55 rfl ?_
    refine X.iald dX5_freeTape_56 (hM.1 46 (by decide) (by decide)) (rfl) (ht) (by decide) ?_
    refine X.icmp_ge_t (tgt := 106) dX5_freeTape_57 (by decide) ((by show mI μ 46 t ≤ nI i; rw [es, ei]; exact nI_le (Nat.le_refl _) (by omega))) ?_
    exact X.at [(0, .ref 44), (1, .int (nI c))] ⟨rfl, rfl, trivial⟩ (K u (by rw [← ei]; exact hu))
  | succ n ih =>
    intro i u hi hu
    by_cases h10 : kd μ t = 10
    · obtain ⟨ew, lw, -⟩ := hw.2.2 t ht (by omega) i (by omega)
      have e9 : (mJ μ 48 (32 * t + i)).toInt32 - 1 = nI (lx (cv μ t i)) - 1 := by
        rw [show mJ μ 48 (32 * t + i) = lN (lx (cv μ t i)) from ew, lN_i]
      by_cases hz : lx (cv μ t i) = 0
      · refine X.iload_n dX5_freeTape_50 rfl ?_
        refine X.aload_n dX5_freeTape_51 rfl ?_
        refine X.getR (b := 46) (kf := 1) dX5_freeTape_52 (hM.1 44 (by decide) (by decide)) (by decide) (by decide) rfl wf_X5_13 (hM.2 1 (by decide)) ?_
        refine X.iload_n dX5_freeTape_55 rfl ?_
        refine X.iald dX5_freeTape_56 (hM.1 46 (by decide) (by decide)) (rfl) (ht) (by decide) ?_
        refine X.icmp_ge_f (tgt := 106) dX5_freeTape_57 (by decide) ((by show ¬ mI μ 46 t ≤ nI i; rw [es]; exact nI_ge (by omega) (by omega))) ?_
        refine X.aload_n dX5_freeTape_60 rfl ?_
        refine X.getR (b := 45) (kf := 0) dX5_freeTape_61 (hM.1 44 (by decide) (by decide)) (by decide) (by decide) rfl wf_X5_7 (hM.2 0 (by decide)) ?_
        refine X.iload_n dX5_freeTape_64 rfl ?_
        refine X.iald dX5_freeTape_65 (hM.1 45 (by decide) (by decide)) (rfl) (ht) (by decide) ?_
        refine X.bipush (v := 10) dX5_freeTape_66 (by decide) ?_
        refine X.icmp_ne_f (tgt := 106) dX5_freeTape_68 (by decide) ((by show mI μ 45 t = 10; rw [ek, h10]; rfl)) ?_
        refine X.aload_n dX5_freeTape_71 rfl ?_
        refine X.getR (b := 48) (kf := 3) dX5_freeTape_72 (hM.1 44 (by decide) (by decide)) (by decide) (by decide) rfl wf_X5_20 (hM.2 3 (by decide)) ?_
        refine X.bipush (v := 32) dX5_freeTape_75 (by decide) ?_
        refine X.iload_n dX5_freeTape_77 rfl ?_
        refine X.imul dX5_freeTape_78 ?_
        refine X.iload_n dX5_freeTape_79 rfl ?_
        refine X.iadd dX5_freeTape_80 ?_
        refine X.lald dX5_freeTape_81 (hM.1 48 (by decide) (by decide)) (at_eq2 t i) (cell_in ht (by omega)) (by decide) ?_
        refine X.l2i dX5_freeTape_82 ?_
        refine X.iconst (v := 1) dX5_freeTape_83 (by decide) ?_
        refine X.isub dX5_freeTape_84 ?_
        refine X.istore dX5_freeTape_85 (Nat.le_of_ble_eq_true rfl) ?_
        refine X.iload dX5_freeTape_87 rfl ?_
        refine X.if_lt_t (tgt := 100) dX5_freeTape_89 (by decide) ((by show (mJ μ 48 (32 * t + i)).toInt32 - 1 < 0; rw [e9, hz]; decide)) ?_
        refine X.iinc1 dX5_freeTape_100 rfl (Nat.le_of_ble_eq_true rfl) ?_
        refine X.goto (tgt := 50) dX5_freeTape_103 (by decide) ?_
        refine X.at [(0, .ref 44), (1, .int (nI c)), (2, .int (nI t)), (3, .int (nI (i + 1)))] ⟨rfl, rfl, rfl, iN i, trivial⟩ ?_
        refine ih (i + 1) _ (by omega) (hu.to (fun x => ?_))
        constructor
        · rintro (h | ⟨h, k, hk, e⟩)
          · exact Or.inl h
          · exact Or.inr ⟨h, k, by omega, e⟩
        · rintro (h | ⟨h, k, hk, e⟩)
          · exact Or.inl h
          · refine Or.inr ⟨h, k, ?_, e⟩
            by_cases q : k = i
            · rw [q, hz] at e; omega
            · omega
      · refine X.iload_n dX5_freeTape_50 rfl ?_
        refine X.aload_n dX5_freeTape_51 rfl ?_
        refine X.getR (b := 46) (kf := 1) dX5_freeTape_52 (hM.1 44 (by decide) (by decide)) (by decide) (by decide) rfl wf_X5_13 (hM.2 1 (by decide)) ?_
        refine X.iload_n dX5_freeTape_55 rfl ?_
        refine X.iald dX5_freeTape_56 (hM.1 46 (by decide) (by decide)) (rfl) (ht) (by decide) ?_
        refine X.icmp_ge_f (tgt := 106) dX5_freeTape_57 (by decide) ((by show ¬ mI μ 46 t ≤ nI i; rw [es]; exact nI_ge (by omega) (by omega))) ?_
        refine X.aload_n dX5_freeTape_60 rfl ?_
        refine X.getR (b := 45) (kf := 0) dX5_freeTape_61 (hM.1 44 (by decide) (by decide)) (by decide) (by decide) rfl wf_X5_7 (hM.2 0 (by decide)) ?_
        refine X.iload_n dX5_freeTape_64 rfl ?_
        refine X.iald dX5_freeTape_65 (hM.1 45 (by decide) (by decide)) (rfl) (ht) (by decide) ?_
        refine X.bipush (v := 10) dX5_freeTape_66 (by decide) ?_
        refine X.icmp_ne_f (tgt := 106) dX5_freeTape_68 (by decide) ((by show mI μ 45 t = 10; rw [ek, h10]; rfl)) ?_
        refine X.aload_n dX5_freeTape_71 rfl ?_
        refine X.getR (b := 48) (kf := 3) dX5_freeTape_72 (hM.1 44 (by decide) (by decide)) (by decide) (by decide) rfl wf_X5_20 (hM.2 3 (by decide)) ?_
        refine X.bipush (v := 32) dX5_freeTape_75 (by decide) ?_
        refine X.iload_n dX5_freeTape_77 rfl ?_
        refine X.imul dX5_freeTape_78 ?_
        refine X.iload_n dX5_freeTape_79 rfl ?_
        refine X.iadd dX5_freeTape_80 ?_
        refine X.lald dX5_freeTape_81 (hM.1 48 (by decide) (by decide)) (at_eq2 t i) (cell_in ht (by omega)) (by decide) ?_
        refine X.l2i dX5_freeTape_82 ?_
        refine X.iconst (v := 1) dX5_freeTape_83 (by decide) ?_
        refine X.isub dX5_freeTape_84 ?_
        refine X.istore dX5_freeTape_85 (Nat.le_of_ble_eq_true rfl) ?_
        refine X.iload dX5_freeTape_87 rfl ?_
        refine X.if_lt_f (tgt := 100) dX5_freeTape_89 (by decide) ((by show ¬ (mJ μ 48 (32 * t + i)).toInt32 - 1 < 0; rw [e9, show nI (lx (cv μ t i)) - 1 = nI (lx (cv μ t i) - 1) from pk_sub (b := 1) (by omega)]; exact nI_pos (by omega))) ?_
        refine X.aload_n dX5_freeTape_92 rfl ?_
        refine X.getR (b := 47) (kf := 2) dX5_freeTape_93 (hM.1 44 (by decide) (by decide)) (by decide) (by decide) rfl wf_X5_16 (hM.2 2 (by decide)) ?_
        refine X.iload dX5_freeTape_96 rfl ?_
        refine X.iconst (v := 1) dX5_freeTape_98 (by decide) ?_
        refine X.zast dX5_freeTape_99 (hM.1 47 (by decide) (by decide)) ((show (mJ μ 48 (32 * t + i)).toInt32 - 1 = nI (lx (cv μ t i) - 1) by rw [e9]; exact pk_sub (b := 1) (by omega))) (by omega) (by decide) (Or.inr rfl) ?_
        refine X.iinc1 dX5_freeTape_100 rfl (Nat.le_of_ble_eq_true rfl) ?_
        refine X.goto (tgt := 50) dX5_freeTape_103 (by decide) ?_
        rw [sA_sI]
        refine X.at [(0, .ref 44), (1, .int (nI c)), (2, .int (nI t)), (3, .int (nI (i + 1)))] ⟨rfl, rfl, rfl, iN i, trivial⟩ ?_
        refine ih (i + 1) _ (by omega) ((hu.put _).to (fun x => ?_))
        constructor
        · rintro ((h | ⟨h, k, hk, e⟩) | h)
          · exact Or.inl h
          · exact Or.inr ⟨h, k, by omega, e⟩
          · exact Or.inr ⟨h10, i, by omega, by omega⟩
        · rintro (h | ⟨h, k, hk, e⟩)
          · exact Or.inl (Or.inl h)
          · by_cases q : k = i
            · rw [q] at e; exact Or.inr (by omega)
            · exact Or.inl (Or.inr ⟨h, k, by omega, e⟩)
    · refine X.iload_n dX5_freeTape_50 rfl ?_
      refine X.aload_n dX5_freeTape_51 rfl ?_
      refine X.getR (b := 46) (kf := 1) dX5_freeTape_52 (hM.1 44 (by decide) (by decide)) (by decide) (by decide) rfl wf_X5_13 (hM.2 1 (by decide)) ?_
      refine X.iload_n dX5_freeTape_55 rfl ?_
      refine X.iald dX5_freeTape_56 (hM.1 46 (by decide) (by decide)) (rfl) (ht) (by decide) ?_
      refine X.icmp_ge_f (tgt := 106) dX5_freeTape_57 (by decide) ((by show ¬ mI μ 46 t ≤ nI i; rw [es]; exact nI_ge (by omega) (by omega))) ?_
      refine X.aload_n dX5_freeTape_60 rfl ?_
      refine X.getR (b := 45) (kf := 0) dX5_freeTape_61 (hM.1 44 (by decide) (by decide)) (by decide) (by decide) rfl wf_X5_7 (hM.2 0 (by decide)) ?_
      refine X.iload_n dX5_freeTape_64 rfl ?_
      refine X.iald dX5_freeTape_65 (hM.1 45 (by decide) (by decide)) (rfl) (ht) (by decide) ?_
      refine X.bipush (v := 10) dX5_freeTape_66 (by decide) ?_
      refine X.icmp_ne_t (tgt := 106) dX5_freeTape_68 (by decide) ((by show ¬ mI μ 45 t = 10; rw [ek]; exact nI_neq h10 (by omega) (by decide))) ?_
      exact X.at [(0, .ref 44), (1, .int (nI c))] ⟨rfl, rfl, trivial⟩ (K u (hu.to (fun x => ⟨fun h => h.elim Or.inl (fun q => absurd q.1 h10), fun h => h.elim Or.inl (fun q => absurd q.1 h10)⟩)))
set_option maxRecDepth 100000 in
set_option maxHeartbeats 4000000 in
theorem ft2 {μ : xM} {Q : Option Value → xM → Prop} (hM : ShM μ) (hw : WFt μ) (K : ∀ u, marks u (liveM μ) → X kX5_freeTape none 112 (xl [(0, .ref 44)]) [] (sA μ 47 u) Q) : ∀ (n c : Nat) (u : Nat → Int32), c + n = 16 → marks u (fun t => ∃ c', c' < c ∧ liveC μ c' t) → X kX5_freeTape none 24 (xl [(0, .ref 44), (1, .int (nI c))]) [] (sA μ 47 u) Q := by
  intro n
  induction n with
  | zero =>
    intro c u hi hu
    obtain rfl : c = 16 := by omega
    refine X.iload_n dX5_freeTape_24 rfl ?_
    refine X.bipush (v := 16) dX5_freeTape_25 (by decide) ?_
    refine X.icmp_ge_t (tgt := 112) dX5_freeTape_27 (by decide) (by decide) ?_
    exact X.at [(0, .ref 44)] ⟨rfl, trivial⟩ (K u hu)
  | succ n ih =>
    intro c u hi hu
    have hnext : ∀ u', marks u' (fun t => ∃ c', c' < c + 1 ∧ liveC μ c' t) → X kX5_freeTape none 106 (xl [(0, .ref 44), (1, .int (nI c))]) [] (sA μ 47 u') Q := by
      intro u' hu'
      refine X.iinc1 dX5_freeTape_106 rfl (Nat.le_of_ble_eq_true rfl) ?_
      refine X.goto (tgt := 24) dX5_freeTape_109 (by decide) ?_
      exact X.at [(0, .ref 44), (1, .int (nI (c + 1)))] ⟨rfl, iN c, trivial⟩ (ih (c + 1) u' (by omega) hu')
    by_cases h0 : noTapeM μ c = 0
    · obtain ⟨ht, et⟩ := hw.1 c (by omega) h0
      refine X.iload_n dX5_freeTape_24 rfl ?_
      refine X.bipush (v := 16) dX5_freeTape_25 (by decide) ?_
      refine X.icmp_ge_f (tgt := 112) dX5_freeTape_27 (by decide) (nI_ge (a := c) (b := 16) (by omega) (by decide)) ?_
      refine X.aload_n dX5_freeTape_30 rfl ?_
      refine X.getR (b := 50) (kf := 6) dX5_freeTape_31 (hM.1 44 (by decide) (by decide)) (by decide) (by decide) rfl wf_X5_27 (hM.2 6 (by decide)) ?_
      refine X.iload_n dX5_freeTape_34 rfl ?_
      refine X.iald dX5_freeTape_35 (hM.1 50 (by decide) (by decide)) (rfl) (by omega) (by decide) ?_
      refine X.istore_n dX5_freeTape_36 (Nat.le_of_ble_eq_true rfl) ?_
      refine X.iload_n dX5_freeTape_37 rfl ?_
      refine X.if_lt_f (tgt := 106) dX5_freeTape_38 (by decide) ((by show ¬ mI μ 50 c < 0; rw [et]; exact nI_pos (by omega))) ?_
      refine X.aload_n dX5_freeTape_41 rfl ?_
      refine X.getR (b := 47) (kf := 2) dX5_freeTape_42 (hM.1 44 (by decide) (by decide)) (by decide) (by decide) rfl wf_X5_16 (hM.2 2 (by decide)) ?_
      refine X.iload_n dX5_freeTape_45 rfl ?_
      refine X.iconst (v := 1) dX5_freeTape_46 (by decide) ?_
      refine X.zast dX5_freeTape_47 (hM.1 47 (by decide) (by decide)) (et) (ht) (by decide) (Or.inr rfl) ?_
      refine X.iconst (v := 0) dX5_freeTape_48 (by decide) ?_
      refine X.istore_n dX5_freeTape_49 (Nat.le_of_ble_eq_true rfl) ?_
      rw [sA_sI]
      refine X.at [(0, .ref 44), (1, .int (nI c)), (2, .int (nI (tp μ c))), (3, .int (nI 0))] ⟨rfl, rfl, congrArg (fun x => some (Value.int x)) et, rfl, trivial⟩ ?_
      refine ft3 hM hw ht (p := fun t => ∃ c', c' < c ∧ liveC μ c' t) (fun u' hu' => hnext u' (hu'.to (fun x => ?_))) (sz μ (tp μ c)) 0 _ (by omega) ((hu.put (tp μ c)).to (fun x => ?_))
      · constructor
        · rintro ((⟨c', h1, h2⟩ | h) | h)
          · exact ⟨c', by omega, h2⟩
          · exact ⟨c, by omega, h0, Or.inl h.symm⟩
          · exact ⟨c, by omega, h0, Or.inr h⟩
        · rintro ⟨c', h1, h2⟩
          by_cases q : c' = c
          · subst q
            rcases h2.2 with h | h
            · exact Or.inl (Or.inr h.symm)
            · exact Or.inr h
          · exact Or.inl (Or.inl ⟨c', by omega, h2⟩)
      · constructor
        · exact Or.inl
        · rintro (h | ⟨-, k, hk, -⟩)
          · exact h
          · omega
    · have hneg : mI μ 50 c < 0 := by
        unfold noTapeM at h0
        by_cases h1 : mI μ 50 c = -1
        · rw [h1]; decide
        · by_cases h2 : mI μ 50 c = -2
          · rw [h2]; decide
          · rw [if_neg h1, if_neg h2] at h0; exact absurd rfl h0
      refine X.iload_n dX5_freeTape_24 rfl ?_
      refine X.bipush (v := 16) dX5_freeTape_25 (by decide) ?_
      refine X.icmp_ge_f (tgt := 112) dX5_freeTape_27 (by decide) (nI_ge (a := c) (b := 16) (by omega) (by decide)) ?_
      refine X.aload_n dX5_freeTape_30 rfl ?_
      refine X.getR (b := 50) (kf := 6) dX5_freeTape_31 (hM.1 44 (by decide) (by decide)) (by decide) (by decide) rfl wf_X5_27 (hM.2 6 (by decide)) ?_
      refine X.iload_n dX5_freeTape_34 rfl ?_
      refine X.iald dX5_freeTape_35 (hM.1 50 (by decide) (by decide)) (rfl) (by omega) (by decide) ?_
      refine X.istore_n dX5_freeTape_36 (Nat.le_of_ble_eq_true rfl) ?_
      refine X.iload_n dX5_freeTape_37 rfl ?_
      refine X.if_lt_t (tgt := 106) dX5_freeTape_38 (by decide) (hneg) ?_
      refine X.at [(0, .ref 44), (1, .int (nI c))] ⟨rfl, rfl, trivial⟩ (hnext u (hu.to (fun x => ?_)))
      constructor
      · rintro ⟨c', h1, h2⟩
        exact ⟨c', by omega, h2⟩
      · rintro ⟨c', h1, h2⟩
        by_cases q : c' = c
        · subst q
          exact absurd h2.1 h0
        · exact ⟨c', by omega, h2⟩
set_option maxRecDepth 100000 in
set_option maxHeartbeats 4000000 in
theorem ft4 {μ : xM} {Q : Option Value → xM → Prop} (hM : ShM μ) (hw : WFt μ) {u : Nat → Int32} (hu : marks u (liveM μ)) (K : Q (some (.int (nI (freeM μ)))) (sA μ 47 u)) : ∀ (n t : Nat), t + n = freeM μ → X kX5_freeTape none 114 (xl [(0, .ref 44), (1, .int (nI t))]) [] (sA μ 47 u) (fun r μ' => xrok kX5_freeTape.2.2.2.1 r ∧ Q r μ') := by
  obtain ⟨hf1, hf2, hf3⟩ := freeM_ok hw
  intro n
  induction n with
  | zero =>
    intro t hi
    obtain rfl : t = freeM μ := by omega
    refine X.aload_n dX5_freeTape_114 rfl ?_
    refine X.getR (b := 47) (kf := 2) dX5_freeTape_115 (hM.1 44 (by decide) (by decide)) (by decide) (by decide) rfl wf_X5_16 (hM.2 2 (by decide)) ?_
    refine X.iload_n dX5_freeTape_118 rfl ?_
    refine X.zald dX5_freeTape_119 (hM.1 47 (by decide) (by decide)) (rfl) (hf1) (by decide) ?_
    refine X.if_eq_t (tgt := 129) dX5_freeTape_120 (by decide) ((hu _ hf1).2 hf2) ?_
    refine X.iload_n dX5_freeTape_129 rfl ?_
    refine X.ret dX5_freeTape_130 ⟨trivial, ?_⟩
    exact K
  | succ n ih =>
    intro t hi
    refine X.aload_n dX5_freeTape_114 rfl ?_
    refine X.getR (b := 47) (kf := 2) dX5_freeTape_115 (hM.1 44 (by decide) (by decide)) (by decide) (by decide) rfl wf_X5_16 (hM.2 2 (by decide)) ?_
    refine X.iload_n dX5_freeTape_118 rfl ?_
    refine X.zald dX5_freeTape_119 (hM.1 47 (by decide) (by decide)) (rfl) (by omega) (by decide) ?_
    refine X.if_eq_f (tgt := 129) dX5_freeTape_120 (by decide) ((by show ¬ u t = 0; rw [(hu t (by omega)).1 (hf3 t (by omega))]; decide)) ?_
    refine X.iinc1 dX5_freeTape_123 rfl (Nat.le_of_ble_eq_true rfl) ?_
    refine X.goto (tgt := 114) dX5_freeTape_126 (by decide) ?_
    exact X.at [(0, .ref 44), (1, .int (nI (t + 1)))] ⟨rfl, iN t, trivial⟩ (ih (t + 1) (by omega))
set_option maxRecDepth 100000 in
set_option maxHeartbeats 4000000 in
theorem m_freeTape {μ : xM} {Q : Option Value → xM → Prop} (hM : ShM μ) (hw : WFt μ) (hq : ∀ u, Q (some (.int (nI (freeM μ)))) (sA μ 47 u)) : Mt kX5_freeTape [.ref 44] μ Q := by
  refine Mt.enter rfl (Nat.le_of_ble_eq_true rfl) ?_
  refine X.iconst (v := 0) dX5_freeTape_0 (by decide) ?_
  refine X.istore_n dX5_freeTape_1 (Nat.le_of_ble_eq_true rfl) ?_
  rw [← sA_self μ 47]
  refine X.at [(0, .ref 44), (1, .int (nI 0))] ⟨rfl, rfl, trivial⟩ ?_
  refine ft1 hM (fun u hu => ?_) 560 0 _ (by omega) (fun t ht => by omega)
  refine X.iconst (v := 0) dX5_freeTape_22 (by decide) ?_
  refine X.istore_n dX5_freeTape_23 (Nat.le_of_ble_eq_true rfl) ?_
  refine X.at [(0, .ref 44), (1, .int (nI 0))] ⟨rfl, rfl, trivial⟩ ?_
  refine ft2 hM hw (fun u hu => ?_) 16 0 u (by omega) (fun t ht => ⟨fun ⟨_, h, _⟩ => by omega, fun _ => hu t ht⟩)
  refine X.iconst (v := 0) dX5_freeTape_112 (by decide) ?_
  refine X.istore_n dX5_freeTape_113 (Nat.le_of_ble_eq_true rfl) ?_
  refine X.at [(0, .ref 44), (1, .int (nI 0))] ⟨rfl, rfl, trivial⟩ ?_
  exact ft4 hM hw hu (hq u) (freeM μ) 0 (by omega)
