-- ===== PART A: goes FIRST, ahead of the names: the tables' words, and 'selects' of the private methods out of them =====
/-- a private method of a class that the tables say can be made, by its rows of tables_1 -/
def lw_okq (q : MethodName × Nat) : Prop := (q.1.cls ≠ "java/lang/invoke/MethodHandle" ∧ q.1.cls ≠ "java/lang/invoke/VarHandle") ∧ Cond.instantiable q.1.cls q.2 ∈ tables_1 ∧ Cond.privateMethod q.1 ∈ tables_1 ∧ Cond.instanceMethod q.1 ∈ tables_1
theorem lw_p0 : lw_okq (⟨"PatchBay", "channelAt", "(I)LPatchBay$Channel;"⟩, 11) := ⟨⟨by decide +kernel, by decide +kernel⟩, List.mem_of_getElem? (i := 9) (by decide +kernel), List.mem_of_getElem? (i := 114) (by decide +kernel), List.mem_of_getElem? (i := 115) (by decide +kernel)⟩
theorem lw_p1 : lw_okq (⟨"PatchBay", "answer", "(II)I"⟩, 11) := ⟨⟨by decide +kernel, by decide +kernel⟩, List.mem_of_getElem? (i := 9) (by decide +kernel), List.mem_of_getElem? (i := 121) (by decide +kernel), List.mem_of_getElem? (i := 122) (by decide +kernel)⟩
theorem lw_p2 : lw_okq (⟨"PatchBay", "note", "(I)V"⟩, 11) := ⟨⟨by decide +kernel, by decide +kernel⟩, List.mem_of_getElem? (i := 9) (by decide +kernel), List.mem_of_getElem? (i := 125) (by decide +kernel), List.mem_of_getElem? (i := 126) (by decide +kernel)⟩
theorem lw_p3 : lw_okq (⟨"PatchBay", "meet", "(I)V"⟩, 11) := ⟨⟨by decide +kernel, by decide +kernel⟩, List.mem_of_getElem? (i := 9) (by decide +kernel), List.mem_of_getElem? (i := 129) (by decide +kernel), List.mem_of_getElem? (i := 130) (by decide +kernel)⟩
theorem lw_p4 : lw_okq (⟨"PatchBay", "holdNoTape", "(IZ)I"⟩, 11) := ⟨⟨by decide +kernel, by decide +kernel⟩, List.mem_of_getElem? (i := 9) (by decide +kernel), List.mem_of_getElem? (i := 173) (by decide +kernel), List.mem_of_getElem? (i := 174) (by decide +kernel)⟩
theorem lw_p5 : lw_okq (⟨"PatchBay", "cableAt", "(I)LPatchBay$Cable;"⟩, 11) := ⟨⟨by decide +kernel, by decide +kernel⟩, List.mem_of_getElem? (i := 9) (by decide +kernel), List.mem_of_getElem? (i := 316) (by decide +kernel), List.mem_of_getElem? (i := 317) (by decide +kernel)⟩
theorem lw_p6 : lw_okq (⟨"PatchBay", "carry", "(LPatchBay$Cable;)I"⟩, 11) := ⟨⟨by decide +kernel, by decide +kernel⟩, List.mem_of_getElem? (i := 9) (by decide +kernel), List.mem_of_getElem? (i := 332) (by decide +kernel), List.mem_of_getElem? (i := 333) (by decide +kernel)⟩
theorem lw_p7 : lw_okq (⟨"PatchBay", "gate", "(LPatchBay$Channel;ILPatchBay$Channel;I)I"⟩, 11) := ⟨⟨by decide +kernel, by decide +kernel⟩, List.mem_of_getElem? (i := 9) (by decide +kernel), List.mem_of_getElem? (i := 336) (by decide +kernel), List.mem_of_getElem? (i := 337) (by decide +kernel)⟩
theorem lw_p8 : lw_okq (⟨"PatchBay", "pair", "(LPatchBay$Channel;ILPatchBay$Channel;I)I"⟩, 11) := ⟨⟨by decide +kernel, by decide +kernel⟩, List.mem_of_getElem? (i := 9) (by decide +kernel), List.mem_of_getElem? (i := 340) (by decide +kernel), List.mem_of_getElem? (i := 341) (by decide +kernel)⟩
theorem lw_p9 : lw_okq (⟨"PatchBay", "wire", "(LPatchBay$Channel;ILPatchBay$Channel;I)I"⟩, 11) := ⟨⟨by decide +kernel, by decide +kernel⟩, List.mem_of_getElem? (i := 9) (by decide +kernel), List.mem_of_getElem? (i := 344) (by decide +kernel), List.mem_of_getElem? (i := 345) (by decide +kernel)⟩
theorem lw_p10 : lw_okq (⟨"PatchBay", "swap", "(LPatchBay$Channel;ILPatchBay$Channel;I)I"⟩, 11) := ⟨⟨by decide +kernel, by decide +kernel⟩, List.mem_of_getElem? (i := 9) (by decide +kernel), List.mem_of_getElem? (i := 348) (by decide +kernel), List.mem_of_getElem? (i := 349) (by decide +kernel)⟩
theorem lw_p11 : lw_okq (⟨"PatchBay", "keepBooks", "(LPatchBay$Cable;I)V"⟩, 11) := ⟨⟨by decide +kernel, by decide +kernel⟩, List.mem_of_getElem? (i := 9) (by decide +kernel), List.mem_of_getElem? (i := 352) (by decide +kernel), List.mem_of_getElem? (i := 353) (by decide +kernel)⟩
theorem lw_p12 : lw_okq (⟨"PatchBay", "noteFault", "(II)V"⟩, 11) := ⟨⟨by decide +kernel, by decide +kernel⟩, List.mem_of_getElem? (i := 9) (by decide +kernel), List.mem_of_getElem? (i := 356) (by decide +kernel), List.mem_of_getElem? (i := 357) (by decide +kernel)⟩
theorem lw_p13 : lw_okq (⟨"PatchBay", "move", "(LPatchBay$Channel;)V"⟩, 11) := ⟨⟨by decide +kernel, by decide +kernel⟩, List.mem_of_getElem? (i := 9) (by decide +kernel), List.mem_of_getElem? (i := 367) (by decide +kernel), List.mem_of_getElem? (i := 368) (by decide +kernel)⟩
theorem lw_p14 : lw_okq (⟨"PatchBay", "timesMet", "(I)I"⟩, 11) := ⟨⟨by decide +kernel, by decide +kernel⟩, List.mem_of_getElem? (i := 9) (by decide +kernel), List.mem_of_getElem? (i := 426) (by decide +kernel), List.mem_of_getElem? (i := 427) (by decide +kernel)⟩
theorem lw_p15 : lw_okq (⟨"PatchBayModel", "met", "(I)I"⟩, 26) := ⟨⟨by decide +kernel, by decide +kernel⟩, List.mem_of_getElem? (i := 430) (by decide +kernel), List.mem_of_getElem? (i := 526) (by decide +kernel), List.mem_of_getElem? (i := 527) (by decide +kernel)⟩
def lw_privs_1 : List (MethodName × Nat) := [(⟨"PatchBay", "channelAt", "(I)LPatchBay$Channel;"⟩, 11), (⟨"PatchBay", "answer", "(II)I"⟩, 11), (⟨"PatchBay", "note", "(I)V"⟩, 11), (⟨"PatchBay", "meet", "(I)V"⟩, 11), (⟨"PatchBay", "holdNoTape", "(IZ)I"⟩, 11), (⟨"PatchBay", "cableAt", "(I)LPatchBay$Cable;"⟩, 11), (⟨"PatchBay", "carry", "(LPatchBay$Cable;)I"⟩, 11), (⟨"PatchBay", "gate", "(LPatchBay$Channel;ILPatchBay$Channel;I)I"⟩, 11), (⟨"PatchBay", "pair", "(LPatchBay$Channel;ILPatchBay$Channel;I)I"⟩, 11), (⟨"PatchBay", "wire", "(LPatchBay$Channel;ILPatchBay$Channel;I)I"⟩, 11), (⟨"PatchBay", "swap", "(LPatchBay$Channel;ILPatchBay$Channel;I)I"⟩, 11), (⟨"PatchBay", "keepBooks", "(LPatchBay$Cable;I)V"⟩, 11), (⟨"PatchBay", "noteFault", "(II)V"⟩, 11), (⟨"PatchBay", "move", "(LPatchBay$Channel;)V"⟩, 11), (⟨"PatchBay", "timesMet", "(I)I"⟩, 11), (⟨"PatchBayModel", "met", "(I)I"⟩, 26)]
theorem lw_r1 : ∀ q ∈ lw_privs_1, lw_okq q := List.forall_mem_cons.mpr ⟨lw_p0, List.forall_mem_cons.mpr ⟨lw_p1, List.forall_mem_cons.mpr ⟨lw_p2, List.forall_mem_cons.mpr ⟨lw_p3, List.forall_mem_cons.mpr ⟨lw_p4, List.forall_mem_cons.mpr ⟨lw_p5, List.forall_mem_cons.mpr ⟨lw_p6, List.forall_mem_cons.mpr ⟨lw_p7, List.forall_mem_cons.mpr ⟨lw_p8, List.forall_mem_cons.mpr ⟨lw_p9, List.forall_mem_cons.mpr ⟨lw_p10, List.forall_mem_cons.mpr ⟨lw_p11, List.forall_mem_cons.mpr ⟨lw_p12, List.forall_mem_cons.mpr ⟨lw_p13, List.forall_mem_cons.mpr ⟨lw_p14, List.forall_mem_cons.mpr ⟨lw_p15, fun _ h => absurd h List.not_mem_nil⟩⟩⟩⟩⟩⟩⟩⟩⟩⟩⟩⟩⟩⟩⟩⟩
theorem lw_p16 : lw_okq (⟨"PatchBayModel", "newTape", "(II)I"⟩, 26) := ⟨⟨by decide +kernel, by decide +kernel⟩, List.mem_of_getElem? (i := 430) (by decide +kernel), List.mem_of_getElem? (i := 530) (by decide +kernel), List.mem_of_getElem? (i := 531) (by decide +kernel)⟩
theorem lw_p17 : lw_okq (⟨"PatchBayModel", "freeTape", "()I"⟩, 26) := ⟨⟨by decide +kernel, by decide +kernel⟩, List.mem_of_getElem? (i := 430) (by decide +kernel), List.mem_of_getElem? (i := 534) (by decide +kernel), List.mem_of_getElem? (i := 535) (by decide +kernel)⟩
theorem lw_p18 : lw_okq (⟨"PatchBayModel", "sort", "(I)I"⟩, 26) := ⟨⟨by decide +kernel, by decide +kernel⟩, List.mem_of_getElem? (i := 430) (by decide +kernel), List.mem_of_getElem? (i := 542) (by decide +kernel), List.mem_of_getElem? (i := 543) (by decide +kernel)⟩
theorem lw_p19 : lw_okq (⟨"PatchBayModel", "noPlain", "(II)I"⟩, 26) := ⟨⟨by decide +kernel, by decide +kernel⟩, List.mem_of_getElem? (i := 430) (by decide +kernel), List.mem_of_getElem? (i := 570) (by decide +kernel), List.mem_of_getElem? (i := 571) (by decide +kernel)⟩
theorem lw_p20 : lw_okq (⟨"PatchBayModel", "noTape", "(I)I"⟩, 26) := ⟨⟨by decide +kernel, by decide +kernel⟩, List.mem_of_getElem? (i := 430) (by decide +kernel), List.mem_of_getElem? (i := 574) (by decide +kernel), List.mem_of_getElem? (i := 575) (by decide +kernel)⟩
theorem lw_p21 : lw_okq (⟨"PatchBayModel", "kindOf", "(I)I"⟩, 26) := ⟨⟨by decide +kernel, by decide +kernel⟩, List.mem_of_getElem? (i := 430) (by decide +kernel), List.mem_of_getElem? (i := 578) (by decide +kernel), List.mem_of_getElem? (i := 579) (by decide +kernel)⟩
theorem lw_p22 : lw_okq (⟨"PatchBayModel", "noPlace", "(II)I"⟩, 26) := ⟨⟨by decide +kernel, by decide +kernel⟩, List.mem_of_getElem? (i := 430) (by decide +kernel), List.mem_of_getElem? (i := 582) (by decide +kernel), List.mem_of_getElem? (i := 583) (by decide +kernel)⟩
theorem lw_p23 : lw_okq (⟨"PatchBayModel", "at", "(II)I"⟩, 26) := ⟨⟨by decide +kernel, by decide +kernel⟩, List.mem_of_getElem? (i := 430) (by decide +kernel), List.mem_of_getElem? (i := 589) (by decide +kernel), List.mem_of_getElem? (i := 590) (by decide +kernel)⟩
theorem lw_p24 : lw_okq (⟨"PatchBayModel", "writes", "(IIIJ)I"⟩, 26) := ⟨⟨by decide +kernel, by decide +kernel⟩, List.mem_of_getElem? (i := 430) (by decide +kernel), List.mem_of_getElem? (i := 609) (by decide +kernel), List.mem_of_getElem? (i := 610) (by decide +kernel)⟩
theorem lw_p25 : lw_okq (⟨"PatchBayModel", "noWrite", "(III)I"⟩, 26) := ⟨⟨by decide +kernel, by decide +kernel⟩, List.mem_of_getElem? (i := 430) (by decide +kernel), List.mem_of_getElem? (i := 613) (by decide +kernel), List.mem_of_getElem? (i := 614) (by decide +kernel)⟩
theorem lw_p26 : lw_okq (⟨"PatchBayModel", "cellKind", "(II)I"⟩, 26) := ⟨⟨by decide +kernel, by decide +kernel⟩, List.mem_of_getElem? (i := 430) (by decide +kernel), List.mem_of_getElem? (i := 631) (by decide +kernel), List.mem_of_getElem? (i := 632) (by decide +kernel)⟩
theorem lw_p27 : lw_okq (⟨"PatchBayModel", "isCable", "(I)Z"⟩, 26) := ⟨⟨by decide +kernel, by decide +kernel⟩, List.mem_of_getElem? (i := 430) (by decide +kernel), List.mem_of_getElem? (i := 644) (by decide +kernel), List.mem_of_getElem? (i := 645) (by decide +kernel)⟩
theorem lw_p28 : lw_okq (⟨"PatchBayModel", "carries", "(I)I"⟩, 26) := ⟨⟨by decide +kernel, by decide +kernel⟩, List.mem_of_getElem? (i := 430) (by decide +kernel), List.mem_of_getElem? (i := 660) (by decide +kernel), List.mem_of_getElem? (i := 661) (by decide +kernel)⟩
theorem lw_p29 : lw_okq (⟨"PatchBayModel", "changes", "(IIII)I"⟩, 26) := ⟨⟨by decide +kernel, by decide +kernel⟩, List.mem_of_getElem? (i := 430) (by decide +kernel), List.mem_of_getElem? (i := 664) (by decide +kernel), List.mem_of_getElem? (i := 665) (by decide +kernel)⟩
theorem lw_p30 : lw_okq (⟨"PatchBayModel", "numberOf", "(II)J"⟩, 26) := ⟨⟨by decide +kernel, by decide +kernel⟩, List.mem_of_getElem? (i := 430) (by decide +kernel), List.mem_of_getElem? (i := 668) (by decide +kernel), List.mem_of_getElem? (i := 669) (by decide +kernel)⟩
theorem lw_p31 : lw_okq (⟨"PatchBayModel", "passes", "(IIII)I"⟩, 26) := ⟨⟨by decide +kernel, by decide +kernel⟩, List.mem_of_getElem? (i := 430) (by decide +kernel), List.mem_of_getElem? (i := 672) (by decide +kernel), List.mem_of_getElem? (i := 673) (by decide +kernel)⟩
def lw_privs_2 : List (MethodName × Nat) := [(⟨"PatchBayModel", "newTape", "(II)I"⟩, 26), (⟨"PatchBayModel", "freeTape", "()I"⟩, 26), (⟨"PatchBayModel", "sort", "(I)I"⟩, 26), (⟨"PatchBayModel", "noPlain", "(II)I"⟩, 26), (⟨"PatchBayModel", "noTape", "(I)I"⟩, 26), (⟨"PatchBayModel", "kindOf", "(I)I"⟩, 26), (⟨"PatchBayModel", "noPlace", "(II)I"⟩, 26), (⟨"PatchBayModel", "at", "(II)I"⟩, 26), (⟨"PatchBayModel", "writes", "(IIIJ)I"⟩, 26), (⟨"PatchBayModel", "noWrite", "(III)I"⟩, 26), (⟨"PatchBayModel", "cellKind", "(II)I"⟩, 26), (⟨"PatchBayModel", "isCable", "(I)Z"⟩, 26), (⟨"PatchBayModel", "carries", "(I)I"⟩, 26), (⟨"PatchBayModel", "changes", "(IIII)I"⟩, 26), (⟨"PatchBayModel", "numberOf", "(II)J"⟩, 26), (⟨"PatchBayModel", "passes", "(IIII)I"⟩, 26)]
theorem lw_r2 : ∀ q ∈ lw_privs_2, lw_okq q := List.forall_mem_cons.mpr ⟨lw_p16, List.forall_mem_cons.mpr ⟨lw_p17, List.forall_mem_cons.mpr ⟨lw_p18, List.forall_mem_cons.mpr ⟨lw_p19, List.forall_mem_cons.mpr ⟨lw_p20, List.forall_mem_cons.mpr ⟨lw_p21, List.forall_mem_cons.mpr ⟨lw_p22, List.forall_mem_cons.mpr ⟨lw_p23, List.forall_mem_cons.mpr ⟨lw_p24, List.forall_mem_cons.mpr ⟨lw_p25, List.forall_mem_cons.mpr ⟨lw_p26, List.forall_mem_cons.mpr ⟨lw_p27, List.forall_mem_cons.mpr ⟨lw_p28, List.forall_mem_cons.mpr ⟨lw_p29, List.forall_mem_cons.mpr ⟨lw_p30, List.forall_mem_cons.mpr ⟨lw_p31, fun _ h => absurd h List.not_mem_nil⟩⟩⟩⟩⟩⟩⟩⟩⟩⟩⟩⟩⟩⟩⟩⟩
theorem lw_p32 : lw_okq (⟨"PatchBayModel", "fails", "(II)V"⟩, 26) := ⟨⟨by decide +kernel, by decide +kernel⟩, List.mem_of_getElem? (i := 430) (by decide +kernel), List.mem_of_getElem? (i := 676) (by decide +kernel), List.mem_of_getElem? (i := 677) (by decide +kernel)⟩
theorem lw_p33 : lw_okq (⟨"PatchBayModel", "moves", "(I)V"⟩, 26) := ⟨⟨by decide +kernel, by decide +kernel⟩, List.mem_of_getElem? (i := 430) (by decide +kernel), List.mem_of_getElem? (i := 680) (by decide +kernel), List.mem_of_getElem? (i := 681) (by decide +kernel)⟩
def lw_privs_3 : List (MethodName × Nat) := [(⟨"PatchBayModel", "fails", "(II)V"⟩, 26), (⟨"PatchBayModel", "moves", "(I)V"⟩, 26)]
theorem lw_r3 : ∀ q ∈ lw_privs_3, lw_okq q := List.forall_mem_cons.mpr ⟨lw_p32, List.forall_mem_cons.mpr ⟨lw_p33, fun _ h => absurd h List.not_mem_nil⟩⟩
def lw_privs : List (MethodName × Nat) := lw_privs_1 ++ (lw_privs_2 ++ (lw_privs_3))
def lw_tbl : List Cond := k2_sels lw_privs ++ tables_1
theorem lw_privs_ok : ∀ q ∈ lw_privs, lw_okq q := by
  show ∀ q ∈ lw_privs_1 ++ (lw_privs_2 ++ (lw_privs_3)), lw_okq q
  exact List.forall_mem_append.mpr ⟨lw_r1, List.forall_mem_append.mpr ⟨lw_r2, lw_r3⟩⟩
def RX0 : String := "PatchBay$Cable"
def TX0 : u_T := fun k => match k with
  | 0 => ("PatchBay$Cable", "place", "I", true)
  | 1 => ("PatchBay$Cable", "kind", "I", true)
  | 2 => ("PatchBay$Cable", "from", "LPatchBay$Channel;", true)
  | 3 => ("PatchBay$Cable", "to", "LPatchBay$Channel;", true)
  | 4 => ("PatchBay$Cable", "in", "Z", false)
  | 5 => ("PatchBay$Cable", "patience", "I", false)
  | 6 => ("PatchBay$Cable", "strikes", "I", false)
  | 7 => ("PatchBay$Cable", "timesCarried", "I", false)
  | _ => ("PatchBay$Cable", "timesShut", "I", false)
def tyX0 : Nat → FieldType := fun k => match k with
  | 0 => .int
  | 1 => .int
  | 2 => .object "PatchBay$Channel"
  | 3 => .object "PatchBay$Channel"
  | 4 => .boolean
  | 5 => .int
  | 6 => .int
  | 7 => .int
  | _ => .int
abbrev wsX00 : List Cond := u_ws RX0 TX0 9
theorem nmX0 : ∀ a, a < 9 → ∀ b, b < 9 → a ≠ b → (TX0 a).2.1 ≠ (TX0 b).2.1 := by decide +kernel
theorem tyX0_ok : ∀ k, k < 9 → parseFieldDescriptor (TX0 k).2.2.1 = some (tyX0 k) := by decide +kernel
abbrev cX0_init : ByteArray := prog_2_method_1_code
def yX0_init : MethodName := ⟨RX0, "<init>", "(IILPatchBay$Channel;LPatchBay$Channel;)V"⟩
abbrev cX0_strike : ByteArray := prog_2_method_2_code
def yX0_strike : MethodName := ⟨RX0, "strike", "()V"⟩
def RX1 : String := "PatchBay$Cell"
def TX1 : u_T := fun k => match k with
  | 0 => ("PatchBay$Cell", "kind", "I", false)
  | 1 => ("PatchBay$Cell", "number", "J", false)
  | _ => ("PatchBay$Cell", "tape", "LPatchBay$Tape;", false)
def tyX1 : Nat → FieldType := fun k => match k with
  | 0 => .int
  | 1 => .long
  | _ => .object "PatchBay$Tape"
abbrev wsX10 : List Cond := u_ws RX1 TX1 3
theorem nmX1 : ∀ a, a < 3 → ∀ b, b < 3 → a ≠ b → (TX1 a).2.1 ≠ (TX1 b).2.1 := by decide +kernel
theorem tyX1_ok : ∀ k, k < 3 → parseFieldDescriptor (TX1 k).2.2.1 = some (tyX1 k) := by decide +kernel
abbrev cX1_init : ByteArray := prog_3_method_1_code
def yX1_init : MethodName := ⟨RX1, "<init>", "()V"⟩
abbrev cX1_become : ByteArray := prog_3_method_2_code
def yX1_become : MethodName := ⟨RX1, "become", "(IJLPatchBay$Tape;)V"⟩
def RX2 : String := "PatchBay$Channel"
def TX2 : u_T := fun k => match k with
  | 0 => ("PatchBay$Channel", "place", "I", true)
  | 1 => ("PatchBay$Channel", "tape", "LPatchBay$Tape;", false)
  | 2 => ("PatchBay$Channel", "plugged", "Z", false)
  | 3 => ("PatchBay$Channel", "head", "I", false)
  | 4 => ("PatchBay$Channel", "step", "I", false)
  | _ => ("PatchBay$Channel", "loops", "Z", false)
def tyX2 : Nat → FieldType := fun k => match k with
  | 0 => .int
  | 1 => .object "PatchBay$Tape"
  | 2 => .boolean
  | 3 => .int
  | 4 => .int
  | _ => .boolean
abbrev wsX20 : List Cond := u_ws RX2 TX2 6
theorem nmX2 : ∀ a, a < 6 → ∀ b, b < 6 → a ≠ b → (TX2 a).2.1 ≠ (TX2 b).2.1 := by decide +kernel
theorem tyX2_ok : ∀ k, k < 6 → parseFieldDescriptor (TX2 k).2.2.1 = some (tyX2 k) := by decide +kernel
abbrev cX2_init : ByteArray := prog_4_method_1_code
def yX2_init : MethodName := ⟨RX2, "<init>", "(I)V"⟩
abbrev cX2_hold : ByteArray := prog_4_method_2_code
def yX2_hold : MethodName := ⟨RX2, "hold", "(LPatchBay$Tape;Z)V"⟩
abbrev cX2_has : ByteArray := prog_4_method_3_code
def yX2_has : MethodName := ⟨RX2, "has", "()I"⟩
abbrev cX2_refusalWithoutTape : ByteArray := prog_4_method_4_code
def yX2_refusalWithoutTape : MethodName := ⟨RX2, "refusalWithoutTape", "()I"⟩
abbrev cX2_refusalOfPlain : ByteArray := prog_4_method_5_code
def yX2_refusalOfPlain : MethodName := ⟨RX2, "refusalOfPlain", "()I"⟩
abbrev cX2_read : ByteArray := prog_4_method_6_code
def yX2_read : MethodName := ⟨RX2, "read", "(ILPatchBay$Cell;)I"⟩
abbrev cX2_write : ByteArray := prog_4_method_7_code
def yX2_write : MethodName := ⟨RX2, "write", "(ILPatchBay$Cell;)I"⟩
abbrev cX2_asCell : ByteArray := prog_4_method_8_code
def yX2_asCell : MethodName := ⟨RX2, "asCell", "(LPatchBay$Cell;)V"⟩
def RX3 : String := "PatchBay$Tape"
def TX3 : u_T := fun k => match k with
  | 0 => ("PatchBay$Tape", "kind", "I", true)
  | 1 => ("PatchBay$Tape", "size", "I", true)
  | 2 => ("PatchBay$Tape", "kinds", "[I", true)
  | 3 => ("PatchBay$Tape", "numbers", "[J", true)
  | _ => ("PatchBay$Tape", "tapes", "[LPatchBay$Tape;", true)
def tyX3 : Nat → FieldType := fun k => match k with
  | 0 => .int
  | 1 => .int
  | 2 => .array .int
  | 3 => .array .long
  | _ => .array (.object "PatchBay$Tape")
abbrev wsX30 : List Cond := u_ws RX3 TX3 5
theorem nmX3 : ∀ a, a < 5 → ∀ b, b < 5 → a ≠ b → (TX3 a).2.1 ≠ (TX3 b).2.1 := by decide +kernel
theorem tyX3_ok : ∀ k, k < 5 → parseFieldDescriptor (TX3 k).2.2.1 = some (tyX3 k) := by decide +kernel
abbrev cX3_init : ByteArray := prog_5_method_1_code
def yX3_init : MethodName := ⟨RX3, "<init>", "(II)V"⟩
abbrev cX3_copyTo : ByteArray := prog_5_method_2_code
def yX3_copyTo : MethodName := ⟨RX3, "copyTo", "(ILPatchBay$Cell;)I"⟩
abbrev cX3_accept : ByteArray := prog_5_method_3_code
def yX3_accept : MethodName := ⟨RX3, "accept", "(ILPatchBay$Cell;)I"⟩
def RX4 : String := "PatchBay"
def TX4 : u_T := fun k => match k with
  | 0 => ("PatchBay", "channels", "[LPatchBay$Channel;", true)
  | 1 => ("PatchBay", "cables", "[LPatchBay$Cable;", true)
  | 2 => ("PatchBay", "cablesMade", "I", false)
  | 3 => ("PatchBay", "tagsMade", "I", false)
  | 4 => ("PatchBay", "time", "I", false)
  | 5 => ("PatchBay", "faults", "[[I", true)
  | 6 => ("PatchBay", "faultsNoted", "I", false)
  | 7 => ("PatchBay", "met", "[I", true)
  | 8 => ("PatchBay", "latestRefusal", "I", false)
  | 9 => ("PatchBay", "hand", "LPatchBay$Cell;", true)
  | _ => ("PatchBay", "otherHand", "LPatchBay$Cell;", true)
def tyX4 : Nat → FieldType := fun k => match k with
  | 0 => .array (.object "PatchBay$Channel")
  | 1 => .array (.object "PatchBay$Cable")
  | 2 => .int
  | 3 => .int
  | 4 => .int
  | 5 => .array (.array .int)
  | 6 => .int
  | 7 => .array .int
  | 8 => .int
  | 9 => .object "PatchBay$Cell"
  | _ => .object "PatchBay$Cell"
abbrev wsX40 : List Cond := u_ws RX4 TX4 11
theorem nmX4 : ∀ a, a < 11 → ∀ b, b < 11 → a ≠ b → (TX4 a).2.1 ≠ (TX4 b).2.1 := by decide +kernel
theorem tyX4_ok : ∀ k, k < 11 → parseFieldDescriptor (TX4 k).2.2.1 = some (tyX4 k) := by decide +kernel
abbrev cX4_init : ByteArray := prog_1_method_1_code
def yX4_init : MethodName := ⟨RX4, "<init>", "()V"⟩
abbrev cX4_tape : ByteArray := prog_1_method_2_code
def yX4_tape : MethodName := ⟨RX4, "tape", "(III)I"⟩
abbrev cX4_plug : ByteArray := prog_1_method_3_code
def yX4_plug : MethodName := ⟨RX4, "plug", "(I)I"⟩
abbrev cX4_strip : ByteArray := prog_1_method_4_code
def yX4_strip : MethodName := ⟨RX4, "strip", "(I)I"⟩
abbrev cX4_share : ByteArray := prog_1_method_5_code
def yX4_share : MethodName := ⟨RX4, "share", "(II)I"⟩
abbrev cX4_head : ByteArray := prog_1_method_6_code
def yX4_head : MethodName := ⟨RX4, "head", "(II)I"⟩
abbrev cX4_step : ByteArray := prog_1_method_7_code
def yX4_step : MethodName := ⟨RX4, "step", "(II)I"⟩
abbrev cX4_loop : ByteArray := prog_1_method_8_code
def yX4_loop : MethodName := ⟨RX4, "loop", "(IZ)I"⟩
abbrev cX4_stamp : ByteArray := prog_1_method_9_code
def yX4_stamp : MethodName := ⟨RX4, "stamp", "(IIIJ)I"⟩
abbrev cX4_probe : ByteArray := prog_1_method_10_code
def yX4_probe : MethodName := ⟨RX4, "probe", "(III)J"⟩
abbrev cX4_tag : ByteArray := prog_1_method_11_code
def yX4_tag : MethodName := ⟨RX4, "tag", "(IIZ)I"⟩
abbrev cX4_rack : ByteArray := prog_1_method_12_code
def yX4_rack : MethodName := ⟨RX4, "rack", "(III)I"⟩
abbrev cX4_unrack : ByteArray := prog_1_method_13_code
def yX4_unrack : MethodName := ⟨RX4, "unrack", "(III)I"⟩
abbrev cX4_cable : ByteArray := prog_1_method_14_code
def yX4_cable : MethodName := ⟨RX4, "cable", "(III)I"⟩
abbrev cX4_patience : ByteArray := prog_1_method_15_code
def yX4_patience : MethodName := ⟨RX4, "patience", "(II)I"⟩
abbrev cX4_pull : ByteArray := prog_1_method_16_code
def yX4_pull : MethodName := ⟨RX4, "pull", "(I)I"⟩
abbrev cX4_plugIn : ByteArray := prog_1_method_17_code
def yX4_plugIn : MethodName := ⟨RX4, "plugIn", "(I)I"⟩
abbrev cX4_tick : ByteArray := prog_1_method_18_code
def yX4_tick : MethodName := ⟨RX4, "tick", "()I"⟩
abbrev cX4_splice : ByteArray := prog_1_method_19_code
def yX4_splice : MethodName := ⟨RX4, "splice", "(IIIII)I"⟩
abbrev cX4_dub : ByteArray := prog_1_method_20_code
def yX4_dub : MethodName := ⟨RX4, "dub", "(III)I"⟩
abbrev cX4_sum : ByteArray := prog_1_method_21_code
def yX4_sum : MethodName := ⟨RX4, "sum", "(I)J"⟩
abbrev cX4_match : ByteArray := prog_1_method_22_code
def yX4_match : MethodName := ⟨RX4, "match", "(II)I"⟩
abbrev cX4_why : ByteArray := prog_1_method_23_code
def yX4_why : MethodName := ⟨RX4, "why", "()I"⟩
abbrev cX4_number : ByteArray := prog_1_method_24_code
def yX4_number : MethodName := ⟨RX4, "number", "(II)J"⟩
abbrev cX4_kind : ByteArray := prog_1_method_25_code
def yX4_kind : MethodName := ⟨RX4, "kind", "(II)I"⟩
abbrev cX4_cells : ByteArray := prog_1_method_26_code
def yX4_cells : MethodName := ⟨RX4, "cells", "(I)I"⟩
abbrev cX4_of : ByteArray := prog_1_method_27_code
def yX4_of : MethodName := ⟨RX4, "of", "(II)I"⟩
abbrev cX4_told : ByteArray := prog_1_method_28_code
def yX4_told : MethodName := ⟨RX4, "told", "(II)I"⟩
abbrev cX4_fault : ByteArray := prog_1_method_29_code
def yX4_fault : MethodName := ⟨RX4, "fault", "(II)I"⟩
abbrev cX4_count : ByteArray := prog_1_method_30_code
def yX4_count : MethodName := ⟨RX4, "count", "(I)I"⟩
abbrev cX4_channelAt : ByteArray := prog_1_method_31_code
def yX4_channelAt : MethodName := ⟨RX4, "channelAt", "(I)LPatchBay$Channel;"⟩
abbrev cX4_cableAt : ByteArray := prog_1_method_32_code
def yX4_cableAt : MethodName := ⟨RX4, "cableAt", "(I)LPatchBay$Cable;"⟩
abbrev cX4_holdNoTape : ByteArray := prog_1_method_33_code
def yX4_holdNoTape : MethodName := ⟨RX4, "holdNoTape", "(IZ)I"⟩
abbrev cX4_isPlain : ByteArray := prog_1_method_34_code
def yX4_isPlain : MethodName := ⟨RX4, "isPlain", "(I)Z"⟩
abbrev cX4_isTapeKind : ByteArray := prog_1_method_35_code
def yX4_isTapeKind : MethodName := ⟨RX4, "isTapeKind", "(I)Z"⟩
abbrev cX4_takes : ByteArray := prog_1_method_36_code
def yX4_takes : MethodName := ⟨RX4, "takes", "(II)Z"⟩
abbrev cX4_fitted : ByteArray := prog_1_method_37_code
def yX4_fitted : MethodName := ⟨RX4, "fitted", "(IJ)J"⟩
abbrev cX4_meet : ByteArray := prog_1_method_38_code
def yX4_meet : MethodName := ⟨RX4, "meet", "(I)V"⟩
abbrev cX4_timesMet : ByteArray := prog_1_method_39_code
def yX4_timesMet : MethodName := ⟨RX4, "timesMet", "(I)I"⟩
abbrev cX4_note : ByteArray := prog_1_method_40_code
def yX4_note : MethodName := ⟨RX4, "note", "(I)V"⟩
abbrev cX4_answer : ByteArray := prog_1_method_41_code
def yX4_answer : MethodName := ⟨RX4, "answer", "(II)I"⟩
abbrev cX4_noteFault : ByteArray := prog_1_method_42_code
def yX4_noteFault : MethodName := ⟨RX4, "noteFault", "(II)V"⟩
abbrev cX4_keepBooks : ByteArray := prog_1_method_43_code
def yX4_keepBooks : MethodName := ⟨RX4, "keepBooks", "(LPatchBay$Cable;I)V"⟩
abbrev cX4_carry : ByteArray := prog_1_method_44_code
def yX4_carry : MethodName := ⟨RX4, "carry", "(LPatchBay$Cable;)I"⟩
abbrev cX4_wire : ByteArray := prog_1_method_45_code
def yX4_wire : MethodName := ⟨RX4, "wire", "(LPatchBay$Channel;ILPatchBay$Channel;I)I"⟩
abbrev cX4_gate : ByteArray := prog_1_method_46_code
def yX4_gate : MethodName := ⟨RX4, "gate", "(LPatchBay$Channel;ILPatchBay$Channel;I)I"⟩
abbrev cX4_pair : ByteArray := prog_1_method_47_code
def yX4_pair : MethodName := ⟨RX4, "pair", "(LPatchBay$Channel;ILPatchBay$Channel;I)I"⟩
abbrev cX4_swap : ByteArray := prog_1_method_48_code
def yX4_swap : MethodName := ⟨RX4, "swap", "(LPatchBay$Channel;ILPatchBay$Channel;I)I"⟩
abbrev cX4_move : ByteArray := prog_1_method_49_code
def yX4_move : MethodName := ⟨RX4, "move", "(LPatchBay$Channel;)V"⟩
def RX5 : String := "PatchBayModel"
def TX5 : u_T := fun k => match k with
  | 0 => ("PatchBayModel", "tapeKind", "[I", true)
  | 1 => ("PatchBayModel", "tapeSize", "[I", true)
  | 2 => ("PatchBayModel", "used", "[Z", true)
  | 3 => ("PatchBayModel", "cell", "[J", true)
  | 4 => ("PatchBayModel", "tags", "I", false)
  | 5 => ("PatchBayModel", "isSeal", "[Z", true)
  | 6 => ("PatchBayModel", "has", "[I", true)
  | 7 => ("PatchBayModel", "heads", "[I", true)
  | 8 => ("PatchBayModel", "steps", "[I", true)
  | 9 => ("PatchBayModel", "loops", "[Z", true)
  | 10 => ("PatchBayModel", "cables", "I", false)
  | 11 => ("PatchBayModel", "cableKind", "[I", true)
  | 12 => ("PatchBayModel", "from", "[I", true)
  | 13 => ("PatchBayModel", "to", "[I", true)
  | 14 => ("PatchBayModel", "in", "[Z", true)
  | 15 => ("PatchBayModel", "patience", "[I", true)
  | 16 => ("PatchBayModel", "strikes", "[I", true)
  | 17 => ("PatchBayModel", "carried", "[I", true)
  | 18 => ("PatchBayModel", "shut", "[I", true)
  | 19 => ("PatchBayModel", "time", "I", false)
  | 20 => ("PatchBayModel", "faults", "I", false)
  | 21 => ("PatchBayModel", "faultTime", "[I", true)
  | 22 => ("PatchBayModel", "faultWho", "[I", true)
  | 23 => ("PatchBayModel", "faultHow", "[I", true)
  | 24 => ("PatchBayModel", "refusals", "[I", true)
  | _ => ("PatchBayModel", "why", "I", false)
def tyX5 : Nat → FieldType := fun k => match k with
  | 0 => .array .int
  | 1 => .array .int
  | 2 => .array .boolean
  | 3 => .array .long
  | 4 => .int
  | 5 => .array .boolean
  | 6 => .array .int
  | 7 => .array .int
  | 8 => .array .int
  | 9 => .array .boolean
  | 10 => .int
  | 11 => .array .int
  | 12 => .array .int
  | 13 => .array .int
  | 14 => .array .boolean
  | 15 => .array .int
  | 16 => .array .int
  | 17 => .array .int
  | 18 => .array .int
  | 19 => .int
  | 20 => .int
  | 21 => .array .int
  | 22 => .array .int
  | 23 => .array .int
  | 24 => .array .int
  | _ => .int
abbrev wsX50 : List Cond := u_ws RX5 TX5 26
theorem nmX5 : ∀ a, a < 26 → ∀ b, b < 26 → a ≠ b → (TX5 a).2.1 ≠ (TX5 b).2.1 := by decide +kernel
theorem tyX5_ok : ∀ k, k < 26 → parseFieldDescriptor (TX5 k).2.2.1 = some (tyX5 k) := by decide +kernel
abbrev cX5_init : ByteArray := prog_7_method_1_code
def yX5_init : MethodName := ⟨RX5, "<init>", "()V"⟩
abbrev cX5_isIn : ByteArray := prog_7_method_2_code
def yX5_isIn : MethodName := ⟨RX5, "isIn", "(III)Z"⟩
abbrev cX5_isChannel : ByteArray := prog_7_method_3_code
def yX5_isChannel : MethodName := ⟨RX5, "isChannel", "(I)Z"⟩
abbrev cX5_isCable : ByteArray := prog_7_method_4_code
def yX5_isCable : MethodName := ⟨RX5, "isCable", "(I)Z"⟩
abbrev cX5_met : ByteArray := prog_7_method_5_code
def yX5_met : MethodName := ⟨RX5, "met", "(I)I"⟩
abbrev cX5_sort : ByteArray := prog_7_method_6_code
def yX5_sort : MethodName := ⟨RX5, "sort", "(I)I"⟩
abbrev cX5_freeTape : ByteArray := prog_7_method_7_code
def yX5_freeTape : MethodName := ⟨RX5, "freeTape", "()I"⟩
abbrev cX5_newTape : ByteArray := prog_7_method_8_code
def yX5_newTape : MethodName := ⟨RX5, "newTape", "(II)I"⟩
abbrev cX5_nearest : ByteArray := prog_7_method_9_code
def yX5_nearest : MethodName := ⟨RX5, "nearest", "(JI)J"⟩
abbrev cX5_made : ByteArray := prog_7_method_10_code
def yX5_made : MethodName := ⟨RX5, "made", "(IJ)J"⟩
abbrev cX5_takes : ByteArray := prog_7_method_11_code
def yX5_takes : MethodName := ⟨RX5, "takes", "(II)Z"⟩
abbrev cX5_cellKind : ByteArray := prog_7_method_12_code
def yX5_cellKind : MethodName := ⟨RX5, "cellKind", "(II)I"⟩
abbrev cX5_numberOf : ByteArray := prog_7_method_13_code
def yX5_numberOf : MethodName := ⟨RX5, "numberOf", "(II)J"⟩
abbrev cX5_kept : ByteArray := prog_7_method_14_code
def yX5_kept : MethodName := ⟨RX5, "kept", "(IJ)J"⟩
abbrev cX5_noTape : ByteArray := prog_7_method_15_code
def yX5_noTape : MethodName := ⟨RX5, "noTape", "(I)I"⟩
abbrev cX5_noPlace : ByteArray := prog_7_method_16_code
def yX5_noPlace : MethodName := ⟨RX5, "noPlace", "(II)I"⟩
abbrev cX5_kindOf : ByteArray := prog_7_method_17_code
def yX5_kindOf : MethodName := ⟨RX5, "kindOf", "(I)I"⟩
abbrev cX5_at : ByteArray := prog_7_method_18_code
def yX5_at : MethodName := ⟨RX5, "at", "(II)I"⟩
abbrev cX5_noTake : ByteArray := prog_7_method_19_code
def yX5_noTake : MethodName := ⟨RX5, "noTake", "(II)I"⟩
abbrev cX5_noWrite : ByteArray := prog_7_method_20_code
def yX5_noWrite : MethodName := ⟨RX5, "noWrite", "(III)I"⟩
abbrev cX5_writes : ByteArray := prog_7_method_21_code
def yX5_writes : MethodName := ⟨RX5, "writes", "(IIIJ)I"⟩
abbrev cX5_passes : ByteArray := prog_7_method_22_code
def yX5_passes : MethodName := ⟨RX5, "passes", "(IIII)I"⟩
abbrev cX5_tape : ByteArray := prog_7_method_23_code
def yX5_tape : MethodName := ⟨RX5, "tape", "(III)I"⟩
abbrev cX5_plug : ByteArray := prog_7_method_24_code
def yX5_plug : MethodName := ⟨RX5, "plug", "(I)I"⟩
abbrev cX5_strip : ByteArray := prog_7_method_25_code
def yX5_strip : MethodName := ⟨RX5, "strip", "(I)I"⟩
abbrev cX5_share : ByteArray := prog_7_method_26_code
def yX5_share : MethodName := ⟨RX5, "share", "(II)I"⟩
abbrev cX5_head : ByteArray := prog_7_method_27_code
def yX5_head : MethodName := ⟨RX5, "head", "(II)I"⟩
abbrev cX5_step : ByteArray := prog_7_method_28_code
def yX5_step : MethodName := ⟨RX5, "step", "(II)I"⟩
abbrev cX5_loop : ByteArray := prog_7_method_29_code
def yX5_loop : MethodName := ⟨RX5, "loop", "(IZ)I"⟩
abbrev cX5_noPlain : ByteArray := prog_7_method_30_code
def yX5_noPlain : MethodName := ⟨RX5, "noPlain", "(II)I"⟩
abbrev cX5_stamp : ByteArray := prog_7_method_31_code
def yX5_stamp : MethodName := ⟨RX5, "stamp", "(IIIJ)I"⟩
abbrev cX5_probe : ByteArray := prog_7_method_32_code
def yX5_probe : MethodName := ⟨RX5, "probe", "(III)J"⟩
abbrev cX5_tag : ByteArray := prog_7_method_33_code
def yX5_tag : MethodName := ⟨RX5, "tag", "(IIZ)I"⟩
abbrev cX5_rack : ByteArray := prog_7_method_34_code
def yX5_rack : MethodName := ⟨RX5, "rack", "(III)I"⟩
abbrev cX5_unrack : ByteArray := prog_7_method_35_code
def yX5_unrack : MethodName := ⟨RX5, "unrack", "(III)I"⟩
abbrev cX5_cable : ByteArray := prog_7_method_36_code
def yX5_cable : MethodName := ⟨RX5, "cable", "(III)I"⟩
abbrev cX5_patience : ByteArray := prog_7_method_37_code
def yX5_patience : MethodName := ⟨RX5, "patience", "(II)I"⟩
abbrev cX5_pull : ByteArray := prog_7_method_38_code
def yX5_pull : MethodName := ⟨RX5, "pull", "(I)I"⟩
abbrev cX5_plugIn : ByteArray := prog_7_method_39_code
def yX5_plugIn : MethodName := ⟨RX5, "plugIn", "(I)I"⟩
abbrev cX5_changes : ByteArray := prog_7_method_40_code
def yX5_changes : MethodName := ⟨RX5, "changes", "(IIII)I"⟩
abbrev cX5_carries : ByteArray := prog_7_method_41_code
def yX5_carries : MethodName := ⟨RX5, "carries", "(I)I"⟩
abbrev cX5_fails : ByteArray := prog_7_method_42_code
def yX5_fails : MethodName := ⟨RX5, "fails", "(II)V"⟩
abbrev cX5_moves : ByteArray := prog_7_method_43_code
def yX5_moves : MethodName := ⟨RX5, "moves", "(I)V"⟩
abbrev cX5_tick : ByteArray := prog_7_method_44_code
def yX5_tick : MethodName := ⟨RX5, "tick", "()I"⟩
abbrev cX5_splice : ByteArray := prog_7_method_45_code
def yX5_splice : MethodName := ⟨RX5, "splice", "(IIIII)I"⟩
abbrev cX5_dub : ByteArray := prog_7_method_46_code
def yX5_dub : MethodName := ⟨RX5, "dub", "(III)I"⟩
abbrev cX5_sum : ByteArray := prog_7_method_47_code
def yX5_sum : MethodName := ⟨RX5, "sum", "(I)J"⟩
abbrev cX5_match : ByteArray := prog_7_method_48_code
def yX5_match : MethodName := ⟨RX5, "match", "(II)I"⟩
abbrev cX5_why : ByteArray := prog_7_method_49_code
def yX5_why : MethodName := ⟨RX5, "why", "()I"⟩
abbrev cX5_number : ByteArray := prog_7_method_50_code
def yX5_number : MethodName := ⟨RX5, "number", "(II)J"⟩
abbrev cX5_kind : ByteArray := prog_7_method_51_code
def yX5_kind : MethodName := ⟨RX5, "kind", "(II)I"⟩
abbrev cX5_cells : ByteArray := prog_7_method_52_code
def yX5_cells : MethodName := ⟨RX5, "cells", "(I)I"⟩
abbrev cX5_of : ByteArray := prog_7_method_53_code
def yX5_of : MethodName := ⟨RX5, "of", "(II)I"⟩
abbrev cX5_told : ByteArray := prog_7_method_54_code
def yX5_told : MethodName := ⟨RX5, "told", "(II)I"⟩
abbrev cX5_fault : ByteArray := prog_7_method_55_code
def yX5_fault : MethodName := ⟨RX5, "fault", "(II)I"⟩
abbrev cX5_count : ByteArray := prog_7_method_56_code
def yX5_count : MethodName := ⟨RX5, "count", "(I)I"⟩
def RJ9 : String := "java/lang/Math"
def TJ9 : u_T := fun k => match k with
  | _ => ("", "", "", false)
def tyJ9 : Nat → FieldType := fun k => match k with
  | _ => .int
theorem nmJ9 : ∀ a, a < 0 → ∀ b, b < 0 → a ≠ b → (TJ9 a).2.1 ≠ (TJ9 b).2.1 := by decide +kernel
theorem tyJ9_ok : ∀ k, k < 0 → parseFieldDescriptor (TJ9 k).2.2.1 = some (tyJ9 k) := by decide +kernel
abbrev cJ9_floorMod_7cf53 : ByteArray := prog_8_method_50_code
def yJ9_floorMod_7cf53 : MethodName := ⟨RJ9, "floorMod", "(II)I"⟩
abbrev cJ9_min_7cf53 : ByteArray := prog_8_method_69_code
def yJ9_min_7cf53 : MethodName := ⟨RJ9, "min", "(II)I"⟩
def RL : String := "PatchBayLaw"
abbrev cL_law : ByteArray := code
def yL_law : MethodName := ⟨RL, "law", "([I)Z"⟩
abbrev vwCl : List vw_C := [(RX0, TX0, 9), (RX1, TX1, 3), (RX2, TX2, 6), (RX3, TX3, 5), (RX4, TX4, 11), (RX5, TX5, 26)]
/-- the objects of PatchBay$Cable, kind 0: what each holds, by its address -/
theorem inX0 : ∀ w ∈ wsX00, w ∈ lw_tbl := by decide +kernel
theorem inX1 : ∀ w ∈ wsX10, w ∈ lw_tbl := by decide +kernel
theorem inX2 : ∀ w ∈ wsX20, w ∈ lw_tbl := by decide +kernel
theorem inX3 : ∀ w ∈ wsX30, w ∈ lw_tbl := by decide +kernel
theorem inX4 : ∀ w ∈ wsX40, w ∈ lw_tbl := by decide +kernel
theorem inX5 : ∀ w ∈ wsX50, w ∈ lw_tbl := by decide +kernel
