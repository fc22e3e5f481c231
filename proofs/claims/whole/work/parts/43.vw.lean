/-! what the relation sees of the reference's memory -/
def vw (μ : xM) : xM := (fun _ => (0, 0), fun b j => if 44 ≤ b ∧ b < 66 ∧ b ≠ 47 then mI μ b j else 0, fun b j => if b = 48 then mJ μ b j else 0, fun _ _ => none, 0, 0)
def Vq (ν ν' : xM) : Prop := (∀ a, 44 ≤ a → a < 66 → a ≠ 47 → mI ν' a = mI ν a) ∧ mJ ν' 48 = mJ ν 48
theorem Vq.eq {ν ν' : xM} (h : Vq ν ν') : vw ν' = vw ν := by
  unfold vw
  have e1 : (fun b j => if 44 ≤ b ∧ b < 66 ∧ b ≠ 47 then mI ν' b j else 0) = (fun b j => if 44 ≤ b ∧ b < 66 ∧ b ≠ 47 then mI ν b j else 0) := by
    funext b j
    by_cases q : 44 ≤ b ∧ b < 66 ∧ b ≠ 47
    · rw [if_pos q, if_pos q, h.1 b q.1 q.2.1 q.2.2]
    · rw [if_neg q, if_neg q]
  have e2 : (fun b j => if b = 48 then mJ ν' b j else 0) = (fun b j => if b = 48 then mJ ν b j else 0) := by
    funext b j
    by_cases q : b = 48
    · rw [if_pos q, if_pos q, q, h.2]
    · rw [if_neg q, if_neg q]
  rw [e1, e2]
theorem Vq.acc {α : Sort _} {ν ν' : xM} (h : Vq ν ν') (g : xM → α) (hg : ∀ ν, g (vw ν) = g ν) : g ν' = g ν := by rw [← hg ν', ← hg ν, h.eq]
theorem Vq.rf (ν : xM) : Vq ν ν := ⟨fun _ _ _ _ => rfl, rfl⟩
section VQ
variable {ν ν' : xM}
theorem Vq.y_nt (h : Vq ν ν') (c : Nat) : noTapeM ν' c = noTapeM ν c := h.acc (fun ν => noTapeM ν c) (fun _ => rfl)
theorem Vq.y_so (h : Vq ν ν') (c : Nat) : sortM ν' c = sortM ν c := h.acc (fun ν => sortM ν c) (fun _ => rfl)
theorem Vq.y_tp (h : Vq ν ν') (c : Nat) : tp ν' c = tp ν c := h.acc (fun ν => tp ν c) (fun _ => rfl)
theorem Vq.y_kd (h : Vq ν ν') (c : Nat) : kd ν' c = kd ν c := h.acc (fun ν => kd ν c) (fun _ => rfl)
theorem Vq.y_sz (h : Vq ν ν') (c : Nat) : sz ν' c = sz ν c := h.acc (fun ν => sz ν c) (fun _ => rfl)
theorem Vq.y_cv (h : Vq ν ν') (t j : Nat) : cv ν' t j = cv ν t j := h.acc (fun ν => cv ν t j) (fun _ => rfl)
theorem Vq.y_np (h : Vq ν ν') (c : Nat) (i : Int32) : noPlaceM ν' c i = noPlaceM ν c i := h.acc (fun ν => noPlaceM ν c i) (fun _ => rfl)
theorem Vq.y_ck (h : Vq ν ν') (t j : Nat) : cellKindM ν' t j = cellKindM ν t j := h.acc (fun ν => cellKindM ν t j) (fun _ => rfl)
theorem Vq.y_nu (h : Vq ν ν') (t j : Nat) : numM ν' t j = numM ν t j := h.acc (fun ν => numM ν t j) (fun _ => rfl)
theorem Vq.y_nw (h : Vq ν ν') (c : Nat) (i : Int32) (K : Nat) : noWriteM ν' c i K = noWriteM ν c i K := h.acc (fun ν => noWriteM ν c i K) (fun _ => rfl)
theorem Vq.y_npl (h : Vq ν ν') (c : Nat) (i : Int32) : noPlainM ν' c i = noPlainM ν c i := h.acc (fun ν => noPlainM ν c i) (fun _ => rfl)
theorem Vq.y_npa (h : Vq ν ν') (c : Nat) (i : Int32) (d : Nat) (j : Int32) : noPassM ν' c i d j = noPassM ν c i d j := h.acc (fun ν => noPassM ν c i d j) (fun _ => rfl)
theorem Vq.y_nc (h : Vq ν ν') (c : Nat) (i : Int32) (d : Nat) (j : Int32) : noChangeM ν' c i d j = noChangeM ν c i d j := h.acc (fun ν => noChangeM ν c i d j) (fun _ => rfl)
theorem Vq.y_q (h : Vq ν ν') : qM ν' = qM ν := h.acc qM (fun _ => rfl)
theorem Vq.y_g (h : Vq ν ν') : gM ν' = gM ν := h.acc gM (fun _ => rfl)
theorem Vq.y_f (h : Vq ν ν') : fM ν' = fM ν := h.acc fM (fun _ => rfl)
theorem Vq.y_ckd (h : Vq ν ν') (k : Nat) : ck ν' k = ck ν k := h.acc (fun ν => ck ν k) (fun _ => rfl)
theorem Vq.y_cf (h : Vq ν ν') (k : Nat) : cf ν' k = cf ν k := h.acc (fun ν => cf ν k) (fun _ => rfl)
theorem Vq.y_ct (h : Vq ν ν') (k : Nat) : ct ν' k = ct ν k := h.acc (fun ν => ct ν k) (fun _ => rfl)
theorem Vq.y_rK (h : Vq ν ν') (b : Nat) : rackK ν' b = rackK ν b := h.acc (fun ν => rackK ν b) (fun _ => rfl)
theorem Vq.y_rV (h : Vq ν ν') (b : Nat) : rackV ν' b = rackV ν b := h.acc (fun ν => rackV ν b) (fun _ => rfl)
theorem Vq.y_lv (h : Vq ν ν') : liveM ν' = liveM ν := h.acc liveM (fun _ => rfl)
theorem Vq.y_fr (h : Vq ν ν') : freeM ν' = freeM ν := by unfold freeM; rw [h.y_lv]
theorem Vq.y_i (h : Vq ν ν') (a j : Nat) (h1 : 44 ≤ a) (h2 : a < 66) (h3 : a ≠ 47) : mI ν' a j = mI ν a j := by rw [h.1 a h1 h2 h3]
/-- what the sets do -/
theorem Vq.y_sI (h : Vq ν ν') (a k : Nat) (x : Int32) : Vq (sI ν a k x) (sI ν' a k x) := by
  refine ⟨fun b b1 b2 b3 => ?_, h.2⟩
  funext j
  rw [mI_sI, mI_sI]
  unfold up2
  rw [h.1 b b1 b2 b3]
theorem Vq.y_sJ (h : Vq ν ν') (k : Nat) (x : Int64) : Vq (sJ ν 48 k x) (sJ ν' 48 k x) := by
  refine ⟨h.1, ?_⟩
  funext j
  rw [mJ_sJ, mJ_sJ]
  unfold up2
  rw [h.2]
theorem Vq.y_sA (h : Vq ν ν') (u u' : Nat → Int32) : Vq (sA ν 47 u) (sA ν' 47 u') := by
  refine ⟨fun b b1 b2 b3 => ?_, h.2⟩
  funext j
  show (if b = 47 then u' j else mI ν' b j) = (if b = 47 then u j else mI ν b j)
  rw [if_neg b3, if_neg b3, h.1 b b1 b2 b3]
theorem Vq.y_sB (h : Vq ν ν') (w : Nat → Int64) : Vq (sB ν w) (sB ν' w) := ⟨h.1, rfl⟩
theorem Vq.y_met (h : Vq ν ν') (r : Nat) : Vq (metM ν r) (metM ν' r) := by
  unfold metM
  rw [h.y_i 65 r (by decide) (by decide) (by decide), h.y_i 65 0 (by decide) (by decide) (by decide)]
  exact (h.y_sI _ _ _).y_sI _ _ _
theorem Vq.y_wr (h : Vq ν ν') (c : Nat) (i : Int32) (K : Nat) (v : Int64) : Vq (writesM ν c i K v) (writesM ν' c i K v) := by
  unfold writesM
  rw [h.y_nw, h.y_tp, h.y_kd]
  split
  · exact h.y_sJ _ _
  · exact h
theorem Vq.y_pa (h : Vq ν ν') (c : Nat) (i : Int32) (d : Nat) (j : Int32) : Vq (passM ν c i d j) (passM ν' c i d j) := by
  unfold passM
  rw [h.y_np, h.y_tp, h.y_ck, h.y_cv]
  split
  · exact h.y_wr _ _ _ _
  · exact h
theorem Vq.y_ch (h : Vq ν ν') (c : Nat) (i : Int32) (d : Nat) (j : Int32) : Vq (changeM ν c i d j) (changeM ν' c i d j) := by
  unfold changeM
  rw [h.y_nc, h.y_tp, h.y_tp, h.y_kd, h.y_kd, h.y_cv, h.y_cv]
  split
  · exact (h.y_sJ _ _).y_sJ _ _
  · exact h
theorem Vq.y_fail (h : Vq ν ν') (who : Int32) (r : Nat) : Vq (failM ν who r) (failM ν' who r) := by
  unfold failM
  rw [h.y_f, h.y_i 44 19 (by decide) (by decide) (by decide), h.y_i 44 20 (by decide) (by decide) (by decide), h.y_i 65 r (by decide) (by decide) (by decide)]
  exact ((((h.y_sI _ _ _).y_sI _ _ _).y_sI _ _ _).y_sI _ _ _).y_sI _ _ _
theorem Vq.y_shut (h : Vq ν ν') (k : Nat) : shutM ν' k ↔ shutM ν k := by
  unfold shutM
  rw [h.y_ckd, h.y_cf, h.y_i 51 _ (by decide) (by decide) (by decide), h.y_np, h.y_tp, h.y_nu]
theorem Vq.y_p1 (h : Vq ν ν') (k : Nat) : Vq (pass1M ν k) (pass1M ν' k) := by
  unfold pass1M
  rw [h.y_cf, h.y_ct, h.y_i 51 _ (by decide) (by decide) (by decide), h.y_i 51 _ (by decide) (by decide) (by decide)]
  exact h.y_pa _ _ _ _
theorem Vq.y_np1 (h : Vq ν ν') (k : Nat) : noPass1M ν' k = noPass1M ν k := by
  unfold noPass1M
  rw [h.y_cf, h.y_ct, h.y_i 51 _ (by decide) (by decide) (by decide), h.y_i 51 _ (by decide) (by decide) (by decide), h.y_npa]
theorem Vq.y_ncar (h : Vq ν ν') (k : Nat) : noCarryM ν' k = noCarryM ν k := by
  unfold noCarryM
  have e1 := h.y_i 51 (cf ν k) (by decide) (by decide) (by decide)
  have e2 := h.y_i 51 (ct ν k) (by decide) (by decide) (by decide)
  by_cases h3 : ck ν k = 3
  · rw [if_pos h3, if_pos (by rw [h.y_ckd]; exact h3), h.y_cf, h.y_ct, e1, e2, h.y_nc]
  · rw [if_neg h3, if_neg (by rw [h.y_ckd]; exact h3)]
    by_cases hs : shutM ν k
    · rw [if_pos hs, if_pos ((h.y_shut k).mpr hs)]
    · rw [if_neg hs, if_neg (fun q => hs ((h.y_shut k).mp q))]
      by_cases h2 : ck ν k = 2 ∧ noPass1M ν k = 0
      · rw [if_pos h2, if_pos (by rw [h.y_ckd, h.y_np1]; exact h2), h.y_cf, h.y_ct, e1, e2, (h.y_p1 k).y_npa]
      · rw [if_neg h2, if_neg (by rw [h.y_ckd, h.y_np1]; exact h2), h.y_np1]
theorem Vq.y_car (h : Vq ν ν') (k : Nat) : Vq (carryM ν k) (carryM ν' k) := by
  unfold carryM
  have e1 := h.y_i 51 (cf ν k) (by decide) (by decide) (by decide)
  have e2 := h.y_i 51 (ct ν k) (by decide) (by decide) (by decide)
  by_cases h3 : ck ν k = 3
  · rw [if_pos h3, if_pos (show ck ν' k = 3 by rw [h.y_ckd]; exact h3), h.y_cf, h.y_ct, e1, e2]
    exact h.y_ch _ _ _ _
  · rw [if_neg h3, if_neg (show ¬ ck ν' k = 3 by rw [h.y_ckd]; exact h3)]
    by_cases hs : shutM ν k
    · rw [if_pos hs, if_pos ((h.y_shut k).mpr hs)]
      exact h
    · rw [if_neg hs, if_neg (fun q => hs ((h.y_shut k).mp q))]
      by_cases h2 : ck ν k = 2 ∧ noPass1M ν k = 0
      · rw [if_pos h2, if_pos (show ck ν' k = 2 ∧ noPass1M ν' k = 0 by rw [h.y_ckd, h.y_np1]; exact h2), h.y_cf, h.y_ct, e1, e2]
        exact (h.y_p1 k).y_pa _ _ _ _
      · rw [if_neg h2, if_neg (show ¬ (ck ν' k = 2 ∧ noPass1M ν' k = 0) by rw [h.y_ckd, h.y_np1]; exact h2)]
        exact h.y_p1 k
theorem Vq.y_calm (h : Vq ν ν') (k : Nat) (a b : Int32) : Vq (calmM ν k a b) (calmM ν' k a b) := by
  unfold calmM
  rw [h.y_i 61 k (by decide) (by decide) (by decide), h.y_i 60 k (by decide) (by decide) (by decide)]
  exact ((h.y_sI _ _ _).y_sI _ _ _).y_sI _ _ _
theorem Vq.y_strike (h : Vq ν ν') (k : Nat) : Vq (strikeM ν k) (strikeM ν' k) := by
  unfold strikeM
  rw [h.y_i 59 k (by decide) (by decide) (by decide), h.y_i 58 k (by decide) (by decide) (by decide)]
  exact (h.y_sI _ _ _).y_sI _ _ _
theorem Vq.y_cab (h : Vq ν ν') (k : Nat) : Vq (cabM ν k) (cabM ν' k) := by
  unfold cabM
  rw [h.y_i 57 k (by decide) (by decide) (by decide), h.y_ncar]
  split
  · exact h
  · split
    · exact (h.y_car k).y_calm _ _ _
    · split
      · exact (h.y_car k).y_calm _ _ _
      · exact ((h.y_car k).y_fail _ _).y_strike _
theorem Vq.y_cnt (h : Vq ν ν') (k : Nat) : cntM ν' k = cntM ν k := by
  unfold cntM
  rw [h.y_i 57 k (by decide) (by decide) (by decide), h.y_ncar]
theorem Vq.y_cabs (h : Vq ν ν') : ∀ k, Vq (cabsM ν k) (cabsM ν' k)
  | 0 => h
  | k + 1 => (Vq.y_cabs h k).y_cab k
theorem Vq.y_cnts (h : Vq ν ν') : ∀ k, cntsM ν' k = cntsM ν k
  | 0 => rfl
  | k + 1 => by
    show cntsM ν' k + cntM (cabsM ν' k) k = cntsM ν k + cntM (cabsM ν k) k
    rw [Vq.y_cnts h k, (h.y_cabs k).y_cnt]
theorem Vq.y_nm (h : Vq ν ν') (c : Nat) : noMoveM ν' c = noMoveM ν c := by
  unfold noMoveM
  rw [h.y_nt, h.y_tp, h.y_sz]
theorem Vq.y_mv (h : Vq ν ν') (c : Nat) : Vq (moveM ν c) (moveM ν' c) := by
  unfold moveM
  rw [h.y_i 53 c (by decide) (by decide) (by decide), h.y_i 51 c (by decide) (by decide) (by decide), h.y_i 52 c (by decide) (by decide) (by decide), h.y_nm, h.y_tp, h.y_i 46 _ (by decide) (by decide) (by decide)]
  split
  · exact h.y_sI _ _ _
  · split
    · exact h.y_sI _ _ _
    · exact h.y_fail _ _
theorem Vq.y_mvs (h : Vq ν ν') : ∀ c, Vq (mvsM ν c) (mvsM ν' c)
  | 0 => h
  | c + 1 => (Vq.y_mvs h c).y_mv c
theorem Vq.y_time (h : Vq ν ν') : Vq (timeM ν) (timeM ν') := by
  unfold timeM
  rw [h.y_i 44 19 (by decide) (by decide) (by decide)]
  exact h.y_sI _ _ _
theorem Vq.y_tick (h : Vq ν ν') : Vq (tickM ν) (tickM ν') := by
  unfold tickM
  rw [h.y_q]
  exact (h.y_time.y_cabs _).y_mvs _
theorem Vq.y_tag1 (h : Vq ν ν') (s : Int32) : Vq (tag1M ν s) (tag1M ν' s) := by
  unfold tag1M
  rw [h.y_i 44 4 (by decide) (by decide) (by decide), h.y_g]
  exact (h.y_sI _ _ _).y_sI _ _ _
theorem Vq.y_cabN (h : Vq ν ν') (k f t : Nat) : Vq (cabNewM ν k f t) (cabNewM ν' k f t) := by
  unfold cabNewM
  rw [h.y_q, h.y_i 44 10 (by decide) (by decide) (by decide)]
  exact (((((h.y_sI _ _ _).y_sI _ _ _).y_sI _ _ _).y_sI _ _ _).y_sI _ _ _).y_sI _ _ _
theorem Vq.y_newT (h : Vq ν ν') (u u' : Nat → Int32) (k n : Nat) : Vq (newTM ν u k n) (newTM ν' u' k n) := by
  unfold newTM
  rw [h.y_fr, h.2]
  exact (((h.y_sA u u').y_sI _ _ _).y_sI _ _ _).y_sB _
theorem Vq.y_dub (h : Vq ν ν') (u u' : Nat → Int32) (a b kk : Nat) : Vq (dubM ν u a b kk) (dubM ν' u' a b kk) := by
  have h1 : Vq (dubN ν u b kk) (dubN ν' u' b kk) := by
    unfold dubN
    rw [h.y_tp, h.y_sz]
    exact (h.y_met 0).y_newT u u' _ _
  unfold dubM
  rw [h.y_fr, h.y_tp, h.y_sz, h1.2]
  exact (h1.y_sB _).y_sI _ _ _
theorem Vq.y_spl {a b : Nat} {i j : Int32} : ∀ (n d : Nat) {ν ν' : xM}, Vq ν ν' → (spl a b i j n d ν').1 = (spl a b i j n d ν).1 ∧ (spl a b i j n d ν').2.1 = (spl a b i j n d ν).2.1 ∧ Vq (spl a b i j n d ν).2.2 (spl a b i j n d ν').2.2
  | 0, d, ν, ν', h => ⟨rfl, rfl, h⟩
  | n + 1, d, ν, ν', h => by
    unfold spl
    rw [h.y_npa]
    by_cases q : noPassM ν a (i + nI d) b (j + nI d) = 0
    · rw [if_pos q, if_pos q]
      exact Vq.y_spl n (d + 1) (h.y_pa _ _ _ _)
    · rw [if_neg q, if_neg q]
      exact ⟨rfl, rfl, h.y_pa _ _ _ _⟩
theorem Vq.y_sum (h : Vq ν ν') (t : Nat) : ∀ n, sumM ν' t n = sumM ν t n
  | 0 => rfl
  | n + 1 => by
    show sumM ν' t n + numM ν' t n = sumM ν t n + numM ν t n
    rw [Vq.y_sum h t n, h.y_nu]
theorem Vq.y_mtc (h : Vq ν ν') (t t' : Nat) : ∀ n k, mtc ν' t t' n k = mtc ν t t' n k
  | 0, k => rfl
  | n + 1, k => by
    unfold mtc
    rw [h.y_sz, h.y_sz, h.y_nu, h.y_nu, Vq.y_mtc h t t' n (k + 1)]
theorem Vq.y_mtR (h : Vq ν ν') (t t' k : Nat) : mtR ν' t t' k = mtR ν t t' k := by
  unfold mtR
  rw [h.y_sz, h.y_sz]
theorem Vq.y_dbn (h : Vq ν ν') (t kk : Nat) : ∀ n k, dbn ν' t kk n k = dbn ν t kk n k
  | 0, k => rfl
  | n + 1, k => by
    unfold dbn
    rw [h.y_ck, Vq.y_dbn h t kk n (k + 1)]
end VQ
