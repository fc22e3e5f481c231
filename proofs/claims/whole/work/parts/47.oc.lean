/-! both sides of a call, whatever its arguments (laid by wip/whole/mko3.py) -/
theorem a_tape {c k n : Int32} {μ : xM} {nf nc ns : Nat} (hG : GG nf nc ns μ) : Oi kX4_tape kX5_tape [.int c, .int k, .int n] (GG (nf + 40) (nc + 4) (ns + 101)) μ := by
  obtain ⟨φ, κ, hR, hM⟩ := hG
  cases ec : rng c 16 with
  | none => exact o_tape_o1 hR hM ec
  | some a =>
    obtain ⟨rfl, ha⟩ := rng_some ec
    cases ek : rng k 11 with
    | none => exact o_tape_o2 hR hM ha ek
    | some kk =>
      obtain ⟨rfl, hk⟩ := rng_some ek
      by_cases h32 : 32 < n
      · exact o_tape_o3 hR hM ha (by omega) h32
      · by_cases h0 : n < 0
        · exact o_tape_neg hR hM ha (by omega) h0
        · obtain ⟨m, hm, rfl⟩ := nI_of2 (M := 32) (n := 32) (by decide) h0 (Int32.not_lt.mp h32)
          exact o_tape_in hR hM ha (by omega) hm
theorem a_plug {c : Int32} {μ : xM} {nf nc ns : Nat} (hG : GG nf nc ns μ) : Oi kX4_plug kX5_plug [.int c] (GG (nf + 40) (nc + 4) (ns + 101)) μ := by
  obtain ⟨φ, κ, hR, hM⟩ := hG
  cases ec : rng c 16 with
  | none => exact o_plug_o hR hM ec
  | some a =>
    obtain ⟨rfl, ha⟩ := rng_some ec
    exact o_plug_in hR hM ha
theorem a_strip {c : Int32} {μ : xM} {nf nc ns : Nat} (hG : GG nf nc ns μ) : Oi kX4_strip kX5_strip [.int c] (GG (nf + 40) (nc + 4) (ns + 101)) μ := by
  obtain ⟨φ, κ, hR, hM⟩ := hG
  cases ec : rng c 16 with
  | none => exact o_strip_o hR hM ec
  | some a =>
    obtain ⟨rfl, ha⟩ := rng_some ec
    exact o_strip_in hR hM ha
theorem a_share {c d : Int32} {μ : xM} {nf nc ns : Nat} (hG : GG nf nc ns μ) : Oi kX4_share kX5_share [.int c, .int d] (GG (nf + 40) (nc + 4) (ns + 101)) μ := by
  obtain ⟨φ, κ, hR, hM⟩ := hG
  cases ec : rng c 16 with
  | none => exact o_share_o1 hR hM ec
  | some a =>
    obtain ⟨rfl, ha⟩ := rng_some ec
    cases ed : rng d 16 with
    | none => exact o_share_o2 hR hM ha ed
    | some b =>
      obtain ⟨rfl, hb⟩ := rng_some ed
      exact o_share_in hR hM ha hb
theorem a_head {c p : Int32} {μ : xM} {nf nc ns : Nat} (hG : GG nf nc ns μ) : Oi kX4_head kX5_head [.int c, .int p] (GG (nf + 40) (nc + 4) (ns + 101)) μ := by
  obtain ⟨φ, κ, hR, hM⟩ := hG
  cases ec : rng c 16 with
  | none => exact o_head_o hR hM ec
  | some a =>
    obtain ⟨rfl, ha⟩ := rng_some ec
    exact o_head_in hR hM ha
theorem a_step {c p : Int32} {μ : xM} {nf nc ns : Nat} (hG : GG nf nc ns μ) : Oi kX4_step kX5_step [.int c, .int p] (GG (nf + 40) (nc + 4) (ns + 101)) μ := by
  obtain ⟨φ, κ, hR, hM⟩ := hG
  cases ec : rng c 16 with
  | none => exact o_step_o1 hR hM ec
  | some a =>
    obtain ⟨rfl, ha⟩ := rng_some ec
    by_cases hp : -3 ≤ p ∧ p ≤ 3
    · exact o_step_in hR hM ha hp
    · exact o_step_o2 hR hM ha hp
theorem a_loop {c b : Int32} (hb : b = 0 ∨ b = 1) {μ : xM} {nf nc ns : Nat} (hG : GG nf nc ns μ) : Oi kX4_loop kX5_loop [.int c, .int b] (GG (nf + 40) (nc + 4) (ns + 101)) μ := by
  obtain ⟨φ, κ, hR, hM⟩ := hG
  cases ec : rng c 16 with
  | none => exact o_loop_o hR hM ec
  | some a =>
    obtain ⟨rfl, ha⟩ := rng_some ec
    exact o_loop_in hR hM ha hb
theorem a_stamp {c i k : Int32} {v : Int64} {μ : xM} {nf nc ns : Nat} (hG : GG nf nc ns μ) : Oi kX4_stamp kX5_stamp [.int c, .int i, .int k, .long v] (GG (nf + 40) (nc + 4) (ns + 101)) μ := by
  obtain ⟨φ, κ, hR, hM⟩ := hG
  cases ec : rng c 16 with
  | none => exact o_stamp_o1 hR hM ec
  | some a =>
    obtain ⟨rfl, ha⟩ := rng_some ec
    cases ek : rng k 8 with
    | none => exact o_stamp_o2 hR hM ha ek
    | some kk =>
      obtain ⟨rfl, hk⟩ := rng_some ek
      by_cases h0 : noTapeM μ a = 0
      · by_cases h8 : kd μ (tp μ a) < 8
        · by_cases hz : noPlaceM μ a i = 0
          · cases ht : takesM (kd μ (tp μ a)) kk with
            | true => exact o_stamp_in hR hM ha hk h0 h8 hz ht
            | false => exact o_stamp_n3b hR hM ha hk h0 h8 hz ht
          · exact o_stamp_n3a hR hM ha hk h0 h8 hz
        · exact o_stamp_n2 hR hM ha hk h0 h8
      · exact o_stamp_n1 hR hM ha hk h0
theorem a_probe {c i k : Int32} {μ : xM} {nf nc ns : Nat} (hG : GG nf nc ns μ) : Ol kX4_probe kX5_probe [.int c, .int i, .int k] (GG (nf + 40) (nc + 4) (ns + 101)) μ := by
  obtain ⟨φ, κ, hR, hM⟩ := hG
  cases ec : rng c 16 with
  | none => exact o_probe_o1 hR hM ec
  | some a =>
    obtain ⟨rfl, ha⟩ := rng_some ec
    cases ek : rng k 8 with
    | none => exact o_probe_o2 hR hM ha ek
    | some kk =>
      obtain ⟨rfl, hk⟩ := rng_some ek
      by_cases h0 : noTapeM μ a = 0
      · by_cases h8 : kd μ (tp μ a) < 8
        · by_cases hz : noPlaceM μ a i = 0
          · cases ht : takesM kk (kd μ (tp μ a)) with
            | true => exact o_probe_in hR hM ha hk h0 h8 hz ht
            | false => exact o_probe_n4 hR hM ha hk h0 h8 hz ht
          · exact o_probe_n3 hR hM ha hk h0 h8 hz
        · exact o_probe_n2 hR hM ha hk h0 h8
      · exact o_probe_n1 hR hM ha hk h0
theorem a_tag {c i s : Int32} (hs : s = 0 ∨ s = 1) {μ : xM} {nf nc ns : Nat} (hG : GG nf nc ns μ) : Oi kX4_tag kX5_tag [.int c, .int i, .int s] (GG (nf + 40) (nc + 4) (ns + 101)) μ := by
  obtain ⟨φ, κ, hR, hM⟩ := hG
  cases ec : rng c 16 with
  | none => exact o_tag_o hR hM ec
  | some a =>
    obtain ⟨rfl, ha⟩ := rng_some ec
    by_cases hg : gM μ = 200
    · exact o_tag_full hR hM ha hg
    · by_cases hz : noWriteM μ a i (tagK s) = 0
      · rcases hs with hs | hs
        · exact o_tag_in0 hR hM ha hg hs hz
        · exact o_tag_in1 hR hM ha hg hs hz
      · rcases hs with hs | hs
        · exact o_tag_r0 hR hM ha hg hs hz
        · exact o_tag_r1 hR hM ha hg hs hz
theorem a_rack {c i d : Int32} {μ : xM} {nf nc ns : Nat} (hG : GG nf nc ns μ) : Oi kX4_rack kX5_rack [.int c, .int i, .int d] (GG (nf + 40) (nc + 4) (ns + 101)) μ := by
  obtain ⟨φ, κ, hR, hM⟩ := hG
  cases ec : rng c 16 with
  | none => exact o_rack_o1 hR hM ec
  | some a =>
    obtain ⟨rfl, ha⟩ := rng_some ec
    cases ed : rng d 16 with
    | none => exact o_rack_o2 hR hM ha ed
    | some b =>
      obtain ⟨rfl, hb⟩ := rng_some ed
      by_cases hz : noWriteM μ a i (rackK μ b) = 0
      · by_cases h1 : mI μ 50 b = -1
        · exact o_rack_ni hR hM ha hb h1 hz
        · by_cases h2 : mI μ 50 b = -2
          · exact o_rack_pi hR hM ha hb h2 hz
          · by_cases h4 : kd μ (tp μ b) = 4
            · exact o_rack_ti hR hM ha hb h1 h2 h4 hz
            · exact o_rack_ki hR hM ha hb h1 h2 h4 hz
      · by_cases h1 : mI μ 50 b = -1
        · exact o_rack_nr hR hM ha hb h1 hz
        · by_cases h2 : mI μ 50 b = -2
          · exact o_rack_pr hR hM ha hb h2 hz
          · by_cases h4 : kd μ (tp μ b) = 4
            · exact o_rack_tr hR hM ha hb h1 h2 h4 hz
            · exact o_rack_kr hR hM ha hb h1 h2 h4 hz
theorem a_unrack {c i d : Int32} {μ : xM} {nf nc ns : Nat} (hG : GG nf nc ns μ) : Oi kX4_unrack kX5_unrack [.int c, .int i, .int d] (GG (nf + 40) (nc + 4) (ns + 101)) μ := by
  obtain ⟨φ, κ, hR, hM⟩ := hG
  cases ec : rng c 16 with
  | none => exact o_unrack_o1 hR hM ec
  | some a =>
    obtain ⟨rfl, ha⟩ := rng_some ec
    cases ed : rng d 16 with
    | none => exact o_unrack_o2 hR hM ha ed
    | some b =>
      obtain ⟨rfl, hb⟩ := rng_some ed
      by_cases hz : noPlaceM μ a i = 0
      · have hl : cellKindM μ (tp μ a) (ix i) ≤ 11 := cellKind_le
        by_cases h10 : cellKindM μ (tp μ a) (ix i) < 10
        · exact o_unrack_r2 hR hM ha hb hz h10
        · by_cases e : cellKindM μ (tp μ a) (ix i) = 10
          · exact o_unrack_t hR hM ha hb hz e
          · exact o_unrack_e hR hM ha hb hz (by omega)
      · exact o_unrack_r1 hR hM ha hb hz
theorem a_cable {k c d : Int32} {μ : xM} {nf nc ns : Nat} (hG : GG nf nc ns μ) : Oi kX4_cable kX5_cable [.int k, .int c, .int d] (GG (nf + 40) (nc + 4) (ns + 101)) μ := by
  obtain ⟨φ, κ, hR, hM⟩ := hG
  cases ek : rng k 4 with
  | none =>
    cases ec : rng c 16 with
    | none =>
      cases ed : rng d 16 with
      | none => exact o_cable_o1a hR hM ek ec ed
      | some b =>
        obtain ⟨rfl, hb⟩ := rng_some ed
        exact o_cable_o1b hR hM ek ec hb
    | some a =>
      obtain ⟨rfl, ha⟩ := rng_some ec
      cases ed : rng d 16 with
      | none => exact o_cable_o1c hR hM ek ha ed
      | some b =>
        obtain ⟨rfl, hb⟩ := rng_some ed
        exact o_cable_o1d hR hM ek ha hb
  | some kk =>
    obtain ⟨rfl, hk⟩ := rng_some ek
    cases ec : rng c 16 with
    | none =>
      cases ed : rng d 16 with
      | none => exact o_cable_o2a hR hM hk ec ed
      | some b =>
        obtain ⟨rfl, hb⟩ := rng_some ed
        exact o_cable_o2b hR hM hk ec hb
    | some a =>
      obtain ⟨rfl, ha⟩ := rng_some ec
      cases ed : rng d 16 with
      | none => exact o_cable_o3 hR hM hk ha ed
      | some b =>
        obtain ⟨rfl, hb⟩ := rng_some ed
        by_cases h24 : qM μ = 24
        · exact o_cable_full hR hM hk ha hb h24
        · exact o_cable_in hR hM hk ha hb h24
theorem a_patience {c n : Int32} {μ : xM} {nf nc ns : Nat} (hG : GG nf nc ns μ) : Oi kX4_patience kX5_patience [.int c, .int n] (GG (nf + 40) (nc + 4) (ns + 101)) μ := by
  obtain ⟨φ, κ, hR, hM⟩ := hG
  cases ec : rng c (qM μ) with
  | none => exact o_patience_o1 hR hM ec
  | some k =>
    obtain ⟨rfl, hk⟩ := rng_some ec
    by_cases hn : 1 ≤ n ∧ n ≤ 9
    · exact o_patience_in hR hM hk hn
    · exact o_patience_o2 hR hM hk hn
theorem a_pull {c : Int32} {μ : xM} {nf nc ns : Nat} (hG : GG nf nc ns μ) : Oi kX4_pull kX5_pull [.int c] (GG (nf + 40) (nc + 4) (ns + 101)) μ := by
  obtain ⟨φ, κ, hR, hM⟩ := hG
  cases ec : rng c (qM μ) with
  | none => exact o_pull_o hR hM ec
  | some k =>
    obtain ⟨rfl, hk⟩ := rng_some ec
    exact o_pull_in hR hM hk
theorem a_plugIn {c : Int32} {μ : xM} {nf nc ns : Nat} (hG : GG nf nc ns μ) : Oi kX4_plugIn kX5_plugIn [.int c] (GG (nf + 40) (nc + 4) (ns + 101)) μ := by
  obtain ⟨φ, κ, hR, hM⟩ := hG
  cases ec : rng c (qM μ) with
  | none => exact o_plugIn_o hR hM ec
  | some k =>
    obtain ⟨rfl, hk⟩ := rng_some ec
    exact o_plugIn_in hR hM hk
theorem a_tick  {μ : xM} {nf nc ns : Nat} (hG : GG nf nc ns μ) (hf : nf + 40 < 2 ^ 30) : Oi kX4_tick kX5_tick [] (GG (nf + 40) (nc + 4) (ns + 101)) μ := by
  obtain ⟨φ, κ, hR, hM⟩ := hG
  exact o_tick_in hR hM hf
theorem a_splice {c i d j n : Int32} {μ : xM} {nf nc ns : Nat} (hG : GG nf nc ns μ) : Oi kX4_splice kX5_splice [.int c, .int i, .int d, .int j, .int n] (GG (nf + 40) (nc + 4) (ns + 101)) μ := by
  obtain ⟨φ, κ, hR, hM⟩ := hG
  cases ec : rng c 16 with
  | none => exact o_splice_o1 hR hM ec
  | some a =>
    obtain ⟨rfl, ha⟩ := rng_some ec
    cases ed : rng d 16 with
    | none => exact o_splice_o2 hR hM ha ed
    | some b =>
      obtain ⟨rfl, hb⟩ := rng_some ed
      cases en : rng n 33 with
      | none => exact o_splice_o3 hR hM ha hb en
      | some m =>
        obtain ⟨rfl, hm⟩ := rng_some en
        exact o_splice_in hR hM ha hb (by omega)
theorem a_dub {c d k : Int32} {μ : xM} {nf nc ns : Nat} (hG : GG nf nc ns μ) : Oi kX4_dub kX5_dub [.int c, .int d, .int k] (GG (nf + 40) (nc + 4) (ns + 101)) μ := by
  obtain ⟨φ, κ, hR, hM⟩ := hG
  cases ec : rng c 16 with
  | none => exact o_dub_o1 hR hM ec
  | some a =>
    obtain ⟨rfl, ha⟩ := rng_some ec
    cases ed : rng d 16 with
    | none => exact o_dub_o2 hR hM ha ed
    | some b =>
      obtain ⟨rfl, hb⟩ := rng_some ed
      cases ek : rng k 11 with
      | none => exact o_dub_o3 hR hM ha hb ek
      | some kk =>
        obtain ⟨rfl, hk⟩ := rng_some ek
        by_cases h0 : noTapeM μ b = 0
        · by_cases hd : dbn μ (tp μ b) kk (sz μ (tp μ b)) 0 = 0
          · exact o_dub_in hR hM ha hb (by omega) h0 hd
          · exact o_dub_r2 hR hM ha hb (by omega) h0 hd
        · exact o_dub_r1 hR hM ha hb (by omega) h0
theorem a_sum {c : Int32} {μ : xM} {nf nc ns : Nat} (hG : GG nf nc ns μ) : Ol kX4_sum kX5_sum [.int c] (GG (nf + 40) (nc + 4) (ns + 101)) μ := by
  obtain ⟨φ, κ, hR, hM⟩ := hG
  cases ec : rng c 16 with
  | none => exact o_sum_o hR hM ec
  | some a =>
    obtain ⟨rfl, ha⟩ := rng_some ec
    by_cases h0 : noTapeM μ a = 0
    · exact o_sum_in hR hM ha h0
    · exact o_sum_r hR hM ha h0
theorem a_match {c d : Int32} {μ : xM} {nf nc ns : Nat} (hG : GG nf nc ns μ) : Oi kX4_match kX5_match [.int c, .int d] (GG (nf + 40) (nc + 4) (ns + 101)) μ := by
  obtain ⟨φ, κ, hR, hM⟩ := hG
  cases ec : rng c 16 with
  | none => exact o_match_o1 hR hM ec
  | some a =>
    obtain ⟨rfl, ha⟩ := rng_some ec
    cases ed : rng d 16 with
    | none => exact o_match_o2 hR hM ha ed
    | some b =>
      obtain ⟨rfl, hb⟩ := rng_some ed
      by_cases h0 : noTapeM μ a = 0
      · by_cases h1 : noTapeM μ b = 0
        · exact o_match_in hR hM ha hb h0 h1
        · exact o_match_r2 hR hM ha hb h0 h1
      · by_cases h1 : noTapeM μ b = 0
        · exact o_match_r1a hR hM ha hb h0 h1
        · exact o_match_r1b hR hM ha hb h0 h1
theorem a_why  {μ : xM} {nf nc ns : Nat} (hG : GG nf nc ns μ) : Oi kX4_why kX5_why [] (GG (nf + 40) (nc + 4) (ns + 101)) μ := by
  obtain ⟨φ, κ, hR, hM⟩ := hG
  exact o_why_in hR hM
theorem a_number {c i : Int32} {μ : xM} {nf nc ns : Nat} (hG : GG nf nc ns μ) : Ol kX4_number kX5_number [.int c, .int i] (GG (nf + 40) (nc + 4) (ns + 101)) μ := by
  obtain ⟨φ, κ, hR, hM⟩ := hG
  cases ec : rng c 16 with
  | none => exact o_number_o hR hM ec
  | some a =>
    obtain ⟨rfl, ha⟩ := rng_some ec
    by_cases hz : noPlaceM μ a i = 0
    · exact o_number_in hR hM ha hz
    · exact o_number_r hR hM ha hz
theorem a_kind {c i : Int32} {μ : xM} {nf nc ns : Nat} (hG : GG nf nc ns μ) : Oi kX4_kind kX5_kind [.int c, .int i] (GG (nf + 40) (nc + 4) (ns + 101)) μ := by
  obtain ⟨φ, κ, hR, hM⟩ := hG
  cases ec : rng c 16 with
  | none => exact o_kind_o hR hM ec
  | some a =>
    obtain ⟨rfl, ha⟩ := rng_some ec
    by_cases hz : noPlaceM μ a i = 0
    · exact o_kind_in hR hM ha hz
    · exact o_kind_r hR hM ha hz
theorem a_cells {c : Int32} {μ : xM} {nf nc ns : Nat} (hG : GG nf nc ns μ) : Oi kX4_cells kX5_cells [.int c] (GG (nf + 40) (nc + 4) (ns + 101)) μ := by
  obtain ⟨φ, κ, hR, hM⟩ := hG
  cases ec : rng c 16 with
  | none => exact o_cells_o hR hM ec
  | some a =>
    obtain ⟨rfl, ha⟩ := rng_some ec
    by_cases h0 : noTapeM μ a = 0
    · exact o_cells_in hR hM ha h0
    · exact o_cells_r hR hM ha h0
theorem a_of {c w : Int32} {μ : xM} {nf nc ns : Nat} (hG : GG nf nc ns μ) : Oi kX4_of kX5_of [.int c, .int w] (GG (nf + 40) (nc + 4) (ns + 101)) μ := by
  obtain ⟨φ, κ, hR, hM⟩ := hG
  cases ec : rng c 16 with
  | none => exact o_of_o1 hR hM ec
  | some a =>
    obtain ⟨rfl, ha⟩ := rng_some ec
    cases ew : rng w 4 with
    | none => exact o_of_o2 hR hM ha ew
    | some m =>
      obtain ⟨rfl, hm⟩ := rng_some ew
      match m, hm with
      | 0, _ => exact o_of_0 hR hM ha
      | 1, _ => exact o_of_1 hR hM ha
      | 2, _ => exact o_of_2 hR hM ha
      | 3, _ => exact o_of_3 hR hM ha
theorem a_told {c w : Int32} {μ : xM} {nf nc ns : Nat} (hG : GG nf nc ns μ) : Oi kX4_told kX5_told [.int c, .int w] (GG (nf + 40) (nc + 4) (ns + 101)) μ := by
  obtain ⟨φ, κ, hR, hM⟩ := hG
  cases ec : rng c (qM μ) with
  | none => exact o_told_o1 hR hM ec
  | some k =>
    obtain ⟨rfl, hk⟩ := rng_some ec
    cases ew : rng w 8 with
    | none => exact o_told_o2 hR hM hk ew
    | some m =>
      obtain ⟨rfl, hm⟩ := rng_some ew
      match m, hm with
      | 0, _ => exact o_told_0 hR hM hk
      | 1, _ => exact o_told_1 hR hM hk
      | 2, _ => exact o_told_2 hR hM hk
      | 3, _ => exact o_told_3 hR hM hk
      | 4, _ => exact o_told_4 hR hM hk
      | 5, _ => exact o_told_5 hR hM hk
      | 6, _ => exact o_told_6 hR hM hk
      | 7, _ => exact o_told_7 hR hM hk
theorem a_fault {i w : Int32} {μ : xM} {nf nc ns : Nat} (hG : GG nf nc ns μ) (hf : nf + 40 < 2 ^ 30) : Oi kX4_fault kX5_fault [.int i, .int w] (GG (nf + 40) (nc + 4) (ns + 101)) μ := by
  obtain ⟨φ, κ, hR, hM⟩ := hG
  cases ei : rng i 20 with
  | none => exact o_fault_o1 hR hM hf ei
  | some j =>
    obtain ⟨rfl, hj⟩ := rng_some ei
    by_cases hn : j < fM μ
    · cases ew : rng w 3 with
      | none => exact o_fault_o3 hR hM hf hj hn ew
      | some m =>
        obtain ⟨rfl, hm⟩ := rng_some ew
        match m, hm with
        | 0, _ => exact o_fault_0 hR hM hf hj hn
        | 1, _ => exact o_fault_1 hR hM hf hj hn
        | 2, _ => exact o_fault_2 hR hM hf hj hn
    · exact o_fault_o2 hR hM hf hj (Nat.not_lt.mp hn)
theorem a_count {w : Int32} {μ : xM} {nf nc ns : Nat} (hG : GG nf nc ns μ) : Oi kX4_count kX5_count [.int w] (GG (nf + 40) (nc + 4) (ns + 101)) μ := by
  obtain ⟨φ, κ, hR, hM⟩ := hG
  cases ew : rng w 8 with
  | none => exact o_count_o hR hM ew
  | some m =>
    obtain ⟨rfl, hm⟩ := rng_some ew
    match m, hm with
    | 0, _ => exact o_count_0 hR hM
    | 1, _ => exact o_count_1 hR hM
    | 2, _ => exact o_count_2 hR hM
    | 3, _ => exact o_count_3 hR hM
    | 4, _ => exact o_count_4 hR hM
    | 5, _ => exact o_count_5 hR hM
    | 6, _ => exact o_count_6 hR hM
    | 7, _ => exact o_count_7 hR hM
