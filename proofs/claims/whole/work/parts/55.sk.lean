/-! the start of the law's walk (laid by wip/whole/mkend.py) -/
theorem ao_known {s : State} {args : Array Value} {C : String} (h : (Cond.arrayOver (.object C)).before args s = true) : ∃ cA : ClassId, ArrOfT s cA (.object C) ∧ va_RA s cA (.object C) := by
  obtain ⟨comp, c, k, h1, -, h3, h4, h5⟩ := Cond.arrayOver_spec h
  exact ⟨c, fun N z => ⟨(fun q h => by cases h), k, h3, comp, h4⟩, k, comp, h3, h4, h1, h5⟩
theorem aa_known {s : State} {args : Array Value} {t : FieldType} (h : (Cond.arrayOver (.array t)).before args s = true) : ∃ cA : ClassId, ArrOfT s cA (.array t) ∧ va_RA s cA (.array t) := by
  have h : (Cond.arrayOver (.array t)).holds args s none s [] = true := h
  simp only [Cond.holds, Cond.value, beq_iff_eq] at h
  cases hc : s.vm.findClass (FieldType.array t).toString with
  | none => simp [hc] at h
  | some comp =>
    simp only [hc, Option.bind_some, Option.bind_eq_some_iff, Option.map_eq_some_iff] at h
    obtain ⟨c, hi, k, hk, hb⟩ := h
    obtain ⟨hlt, hp, -⟩ := Array.findIdx?_eq_some_iff_getElem.mp hi
    have hkk : s.vm.classes[c] = k := (Array.getElem?_eq_some_iff.mp hk).2
    rw [hkk] at hp
    cases hkind : k.kind with
    | array component ty =>
      rw [hkind] at hb hp
      simp at hb hp
      exact ⟨c, fun N z => ⟨(fun q h => by cases h), k, hk, comp, by rw [hkind, hp, hb.1]⟩, hb.2⟩
    | _ => rw [hkind] at hb; simp at hb
theorem ac_known {s : State} {args : Array Value} {t : FieldType} (h : (Cond.arrayClass t).before args s = true) : ∃ cA : ClassId, ArrOfT s cA t ∧ s.vm.findClass ("[" ++ t.toString) = some cA := by
  obtain ⟨c, k, comp, h1, h2, h3⟩ := Cond.arrayClass_spec h
  exact ⟨c, fun N z => ⟨(fun q h => by cases h), k, h2, comp, h3⟩, h1⟩
theorem xK_start {s : State} {args : Array Value} (hts : ∀ w ∈ lw_tbl, w.before args s = true) (bs : Nat × Nat) : ∃ (D : va_G) (ac : Nat → ClassId), xK (D, ac, bs) s := by
  have ht : ∀ w ∈ tables_1, w.before args s = true := fun w hw => hts w (List.mem_append_right _ hw)
  obtain ⟨c0, i0, k0⟩ := u_known (C := RX0) (T := TX0) (N := 9) (n := 9) hts inX0 (hts _ (xtbl_in wins_RX0))
  obtain ⟨c1, i1, k1⟩ := u_known (C := RX1) (T := TX1) (N := 3) (n := 3) hts inX1 (hts _ (xtbl_in wins_RX1))
  obtain ⟨c2, i2, k2⟩ := u_known (C := RX2) (T := TX2) (N := 6) (n := 6) hts inX2 (hts _ (xtbl_in wins_RX2))
  obtain ⟨c3, i3, k3⟩ := u_known (C := RX3) (T := TX3) (N := 5) (n := 5) hts inX3 (hts _ (xtbl_in wins_RX3))
  obtain ⟨c4, i4, k4⟩ := u_known (C := RX4) (T := TX4) (N := 11) (n := 11) hts inX4 (hts _ (xtbl_in wins_RX4))
  obtain ⟨c5, i5, k5⟩ := u_known (C := RX5) (T := TX5) (N := 26) (n := 26) hts inX5 (hts _ (xtbl_in wins_RX5))
  have w9 : (Cond.arrayOver (.object RX0)).before args s = true := ht _ (List.mem_of_getElem? (i := 19) (by decide +kernel))
  have w10 : (Cond.arrayOver (.object RX2)).before args s = true := ht _ (List.mem_of_getElem? (i := 17) (by decide +kernel))
  have w11 : (Cond.arrayOver (.object RX3)).before args s = true := ht _ (List.mem_of_getElem? (i := 139) (by decide +kernel))
  have w12 : (Cond.arrayOver (.array .int)).before args s = true := ht _ (List.mem_of_getElem? (i := 21) (by decide +kernel))
  obtain ⟨a0, b0, d0⟩ := ac_known (hts _ (xtbl_in wa_int))
  obtain ⟨a1, b1, d1⟩ := ac_known (hts _ (xtbl_in wa_long))
  obtain ⟨a2, b2, d2⟩ := ac_known (hts _ (xtbl_in wa_boolean))
  obtain ⟨a3, b3, d3⟩ := ao_known w9
  obtain ⟨a4, b4, d4⟩ := ao_known w10
  obtain ⟨a5, b5, d5⟩ := ao_known w11
  obtain ⟨a6, b6, d6⟩ := aa_known w12
  refine ⟨(fun k => match k with | 0 => c0 | 1 => c1 | 2 => c2 | 3 => c3 | 4 => c4 | _ => c5, fun k => match k with | 0 => i0 | 1 => i1 | 2 => i2 | 3 => i3 | 4 => i4 | _ => i5), fun k => match k with | 0 => a0 | 1 => a1 | 2 => a2 | 3 => a3 | 4 => a4 | 5 => a5 | _ => a6, ⟨fun k q hq => ?_, fun k q hq => ?_⟩, ⟨va_AO.of w9, va_AO.of w10, va_AO.of w11, w12⟩, fun q hq => ?_⟩
  · match k, hq with
    | 0, hq => cases hq; exact k0
    | 1, hq => cases hq; exact k1
    | 2, hq => cases hq; exact k2
    | 3, hq => cases hq; exact k3
    | 4, hq => cases hq; exact k4
    | 5, hq => cases hq; exact k5
    | z + 6, hq => simp at hq
  · match k, hq with
    | 0, hq => cases hq; exact ⟨b0, d0⟩
    | 1, hq => cases hq; exact ⟨b1, d1⟩
    | 2, hq => cases hq; exact ⟨b2, d2⟩
    | 3, hq => cases hq; exact ⟨b3, d3⟩
    | 4, hq => cases hq; exact ⟨b4, d4⟩
    | 5, hq => cases hq; exact ⟨b5, d5⟩
    | 6, hq => cases hq; exact ⟨b6, d6⟩
    | z + 7, hq => simp [xtys] at hq
  · have hn : ∀ q ∈ xnest, Cond.methodLinkNest q.1 q.2.1 q.2.2.1 q.2.2.2 ∈ tables_1 := by
      unfold xnest
      exact List.forall_mem_cons.mpr ⟨List.mem_of_getElem? (i := 24) (by decide +kernel), List.forall_mem_cons.mpr ⟨List.mem_of_getElem? (i := 140) (by decide +kernel), List.forall_mem_cons.mpr ⟨List.mem_of_getElem? (i := 213) (by decide +kernel), List.forall_mem_cons.mpr ⟨List.mem_of_getElem? (i := 229) (by decide +kernel), List.forall_mem_cons.mpr ⟨List.mem_of_getElem? (i := 232) (by decide +kernel), fun _ h => absurd h List.not_mem_nil⟩⟩⟩⟩⟩
    exact va_Nw.of rfl (ht _ (hn q hq))
theorem x0_rep (g : xg) (H : Heap) (h : xbase g = H.size) : Rep g x0 H := by
  refine ⟨Nat.le_refl _, by rw [h]; rfl, fun a ha => ?_, fun a h1 h2 => ?_, fun a h1 h2 => ?_⟩
  · exact absurd (show 13 < 13 from ha) (by decide)
  · have : a < 1 := h2
    omega
  · have : a < 1 := h2
    omega
