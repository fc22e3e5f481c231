section
-- ===== PART A: goes FIRST, ahead of the names: the tables' words, and 'selects' of the private methods out of them =====
/-- a private method of a class that the tables say can be made, by its rows of tables_1 -/
def lw_okq (q : MethodName × Nat) : Prop := (q.1.cls ≠ "java/lang/invoke/MethodHandle" ∧ q.1.cls ≠ "java/lang/invoke/VarHandle") ∧ Cond.instantiable q.1.cls q.2 ∈ tables_1 ∧ Cond.privateMethod q.1 ∈ tables_1 ∧ Cond.instanceMethod q.1 ∈ tables_1
theorem lw_p0 : lw_okq (⟨"PatchBay", "channelAt", "(I)LPatchBay$Channel;"⟩, 11) := ⟨⟨by decide +kernel, by decide +kernel⟩, List.mem_of_getElem? (i := 9) (by decide +kernel), List.mem_of_getElem? (i := 114) (by decide +kernel), List.mem_of_getElem? (i := 115) (by decide +kernel)⟩
theorem lw_p1 : lw_okq (⟨"PatchBay", "answer", "(II)I"⟩, 11) := ⟨⟨by decide +kernel, by decide +kernel⟩, List.mem_of_getElem? (i := 9) (by decide +kernel), List.mem_of_getElem? (i := 121) (by decide +kernel), List.mem_of_getElem? (i := 122) (by decide +kernel)⟩
theorem lw_p2 : lw_okq (⟨"PatchBay", "note", "(I)V"⟩, 11) := ⟨⟨by decide +kernel, by decide +kernel⟩, List.mem_of_getElem? (i := 9) (by decide +kernel), List.mem_of_getElem? (i := 125) (by decide +kernel), List.mem_of_getElem? (i := 126) (by decide +kernel)⟩
theorem lw_p3 : lw_okq (⟨"PatchBay", "meet", "(I)V"⟩, 11) := ⟨⟨by decide +kernel, by decide +kernel⟩, List.mem_of_getElem? (i := 9) (by decide +kernel), List.mem_of_getElem? (i := 129) (by decide +kernel), List.mem_of_getElem? (i := 130) (by decide +kernel)⟩
theorem lw_p4 : lw_okq (⟨"PatchBay", "cableAt", "(I)LPatchBay$Cable;"⟩, 11) := ⟨⟨by decide +kernel, by decide +kernel⟩, List.mem_of_getElem? (i := 9) (by decide +kernel), List.mem_of_getElem? (i := 312) (by decide +kernel), List.mem_of_getElem? (i := 313) (by decide +kernel)⟩
theorem lw_p5 : lw_okq (⟨"PatchBay", "carry", "(LPatchBay$Cable;)I"⟩, 11) := ⟨⟨by decide +kernel, by decide +kernel⟩, List.mem_of_getElem? (i := 9) (by decide +kernel), List.mem_of_getElem? (i := 328) (by decide +kernel), List.mem_of_getElem? (i := 329) (by decide +kernel)⟩
theorem lw_p6 : lw_okq (⟨"PatchBay", "gate", "(LPatchBay$Channel;ILPatchBay$Channel;I)I"⟩, 11) := ⟨⟨by decide +kernel, by decide +kernel⟩, List.mem_of_getElem? (i := 9) (by decide +kernel), List.mem_of_getElem? (i := 332) (by decide +kernel), List.mem_of_getElem? (i := 333) (by decide +kernel)⟩
theorem lw_p7 : lw_okq (⟨"PatchBay", "pair", "(LPatchBay$Channel;ILPatchBay$Channel;I)I"⟩, 11) := ⟨⟨by decide +kernel, by decide +kernel⟩, List.mem_of_getElem? (i := 9) (by decide +kernel), List.mem_of_getElem? (i := 336) (by decide +kernel), List.mem_of_getElem? (i := 337) (by decide +kernel)⟩
theorem lw_p8 : lw_okq (⟨"PatchBay", "wire", "(LPatchBay$Channel;ILPatchBay$Channel;I)I"⟩, 11) := ⟨⟨by decide +kernel, by decide +kernel⟩, List.mem_of_getElem? (i := 9) (by decide +kernel), List.mem_of_getElem? (i := 340) (by decide +kernel), List.mem_of_getElem? (i := 341) (by decide +kernel)⟩
theorem lw_p9 : lw_okq (⟨"PatchBay", "swap", "(LPatchBay$Channel;ILPatchBay$Channel;I)I"⟩, 11) := ⟨⟨by decide +kernel, by decide +kernel⟩, List.mem_of_getElem? (i := 9) (by decide +kernel), List.mem_of_getElem? (i := 344) (by decide +kernel), List.mem_of_getElem? (i := 345) (by decide +kernel)⟩
theorem lw_p10 : lw_okq (⟨"PatchBay", "keepBooks", "(LPatchBay$Cable;I)V"⟩, 11) := ⟨⟨by decide +kernel, by decide +kernel⟩, List.mem_of_getElem? (i := 9) (by decide +kernel), List.mem_of_getElem? (i := 348) (by decide +kernel), List.mem_of_getElem? (i := 349) (by decide +kernel)⟩
theorem lw_p11 : lw_okq (⟨"PatchBay", "noteFault", "(II)V"⟩, 11) := ⟨⟨by decide +kernel, by decide +kernel⟩, List.mem_of_getElem? (i := 9) (by decide +kernel), List.mem_of_getElem? (i := 352) (by decide +kernel), List.mem_of_getElem? (i := 353) (by decide +kernel)⟩
theorem lw_p12 : lw_okq (⟨"PatchBay", "move", "(LPatchBay$Channel;)V"⟩, 11) := ⟨⟨by decide +kernel, by decide +kernel⟩, List.mem_of_getElem? (i := 9) (by decide +kernel), List.mem_of_getElem? (i := 363) (by decide +kernel), List.mem_of_getElem? (i := 364) (by decide +kernel)⟩
theorem lw_p13 : lw_okq (⟨"PatchBay", "timesMet", "(I)I"⟩, 11) := ⟨⟨by decide +kernel, by decide +kernel⟩, List.mem_of_getElem? (i := 9) (by decide +kernel), List.mem_of_getElem? (i := 422) (by decide +kernel), List.mem_of_getElem? (i := 423) (by decide +kernel)⟩
theorem lw_p14 : lw_okq (⟨"PatchBayModel", "met", "(I)I"⟩, 26) := ⟨⟨by decide +kernel, by decide +kernel⟩, List.mem_of_getElem? (i := 426) (by decide +kernel), List.mem_of_getElem? (i := 522) (by decide +kernel), List.mem_of_getElem? (i := 523) (by decide +kernel)⟩
theorem lw_p15 : lw_okq (⟨"PatchBayModel", "newTape", "(II)I"⟩, 26) := ⟨⟨by decide +kernel, by decide +kernel⟩, List.mem_of_getElem? (i := 426) (by decide +kernel), List.mem_of_getElem? (i := 526) (by decide +kernel), List.mem_of_getElem? (i := 527) (by decide +kernel)⟩
def lw_privs_1 : List (MethodName × Nat) := [(⟨"PatchBay", "channelAt", "(I)LPatchBay$Channel;"⟩, 11), (⟨"PatchBay", "answer", "(II)I"⟩, 11), (⟨"PatchBay", "note", "(I)V"⟩, 11), (⟨"PatchBay", "meet", "(I)V"⟩, 11), (⟨"PatchBay", "cableAt", "(I)LPatchBay$Cable;"⟩, 11), (⟨"PatchBay", "carry", "(LPatchBay$Cable;)I"⟩, 11), (⟨"PatchBay", "gate", "(LPatchBay$Channel;ILPatchBay$Channel;I)I"⟩, 11), (⟨"PatchBay", "pair", "(LPatchBay$Channel;ILPatchBay$Channel;I)I"⟩, 11), (⟨"PatchBay", "wire", "(LPatchBay$Channel;ILPatchBay$Channel;I)I"⟩, 11), (⟨"PatchBay", "swap", "(LPatchBay$Channel;ILPatchBay$Channel;I)I"⟩, 11), (⟨"PatchBay", "keepBooks", "(LPatchBay$Cable;I)V"⟩, 11), (⟨"PatchBay", "noteFault", "(II)V"⟩, 11), (⟨"PatchBay", "move", "(LPatchBay$Channel;)V"⟩, 11), (⟨"PatchBay", "timesMet", "(I)I"⟩, 11), (⟨"PatchBayModel", "met", "(I)I"⟩, 26), (⟨"PatchBayModel", "newTape", "(II)I"⟩, 26)]
theorem lw_r1 : ∀ q ∈ lw_privs_1, lw_okq q := List.forall_mem_cons.mpr ⟨lw_p0, List.forall_mem_cons.mpr ⟨lw_p1, List.forall_mem_cons.mpr ⟨lw_p2, List.forall_mem_cons.mpr ⟨lw_p3, List.forall_mem_cons.mpr ⟨lw_p4, List.forall_mem_cons.mpr ⟨lw_p5, List.forall_mem_cons.mpr ⟨lw_p6, List.forall_mem_cons.mpr ⟨lw_p7, List.forall_mem_cons.mpr ⟨lw_p8, List.forall_mem_cons.mpr ⟨lw_p9, List.forall_mem_cons.mpr ⟨lw_p10, List.forall_mem_cons.mpr ⟨lw_p11, List.forall_mem_cons.mpr ⟨lw_p12, List.forall_mem_cons.mpr ⟨lw_p13, List.forall_mem_cons.mpr ⟨lw_p14, List.forall_mem_cons.mpr ⟨lw_p15, fun _ h => absurd h List.not_mem_nil⟩⟩⟩⟩⟩⟩⟩⟩⟩⟩⟩⟩⟩⟩⟩⟩
theorem lw_p16 : lw_okq (⟨"PatchBayModel", "freeTape", "()I"⟩, 26) := ⟨⟨by decide +kernel, by decide +kernel⟩, List.mem_of_getElem? (i := 426) (by decide +kernel), List.mem_of_getElem? (i := 530) (by decide +kernel), List.mem_of_getElem? (i := 531) (by decide +kernel)⟩
theorem lw_p17 : lw_okq (⟨"PatchBayModel", "sort", "(I)I"⟩, 26) := ⟨⟨by decide +kernel, by decide +kernel⟩, List.mem_of_getElem? (i := 426) (by decide +kernel), List.mem_of_getElem? (i := 538) (by decide +kernel), List.mem_of_getElem? (i := 539) (by decide +kernel)⟩
theorem lw_p18 : lw_okq (⟨"PatchBayModel", "noPlain", "(II)I"⟩, 26) := ⟨⟨by decide +kernel, by decide +kernel⟩, List.mem_of_getElem? (i := 426) (by decide +kernel), List.mem_of_getElem? (i := 566) (by decide +kernel), List.mem_of_getElem? (i := 567) (by decide +kernel)⟩
theorem lw_p19 : lw_okq (⟨"PatchBayModel", "noTape", "(I)I"⟩, 26) := ⟨⟨by decide +kernel, by decide +kernel⟩, List.mem_of_getElem? (i := 426) (by decide +kernel), List.mem_of_getElem? (i := 570) (by decide +kernel), List.mem_of_getElem? (i := 571) (by decide +kernel)⟩
theorem lw_p20 : lw_okq (⟨"PatchBayModel", "kindOf", "(I)I"⟩, 26) := ⟨⟨by decide +kernel, by decide +kernel⟩, List.mem_of_getElem? (i := 426) (by decide +kernel), List.mem_of_getElem? (i := 574) (by decide +kernel), List.mem_of_getElem? (i := 575) (by decide +kernel)⟩
theorem lw_p21 : lw_okq (⟨"PatchBayModel", "noPlace", "(II)I"⟩, 26) := ⟨⟨by decide +kernel, by decide +kernel⟩, List.mem_of_getElem? (i := 426) (by decide +kernel), List.mem_of_getElem? (i := 578) (by decide +kernel), List.mem_of_getElem? (i := 579) (by decide +kernel)⟩
theorem lw_p22 : lw_okq (⟨"PatchBayModel", "at", "(II)I"⟩, 26) := ⟨⟨by decide +kernel, by decide +kernel⟩, List.mem_of_getElem? (i := 426) (by decide +kernel), List.mem_of_getElem? (i := 585) (by decide +kernel), List.mem_of_getElem? (i := 586) (by decide +kernel)⟩
theorem lw_p23 : lw_okq (⟨"PatchBayModel", "writes", "(IIIJ)I"⟩, 26) := ⟨⟨by decide +kernel, by decide +kernel⟩, List.mem_of_getElem? (i := 426) (by decide +kernel), List.mem_of_getElem? (i := 605) (by decide +kernel), List.mem_of_getElem? (i := 606) (by decide +kernel)⟩
theorem lw_p24 : lw_okq (⟨"PatchBayModel", "noWrite", "(III)I"⟩, 26) := ⟨⟨by decide +kernel, by decide +kernel⟩, List.mem_of_getElem? (i := 426) (by decide +kernel), List.mem_of_getElem? (i := 609) (by decide +kernel), List.mem_of_getElem? (i := 610) (by decide +kernel)⟩
theorem lw_p25 : lw_okq (⟨"PatchBayModel", "cellKind", "(II)I"⟩, 26) := ⟨⟨by decide +kernel, by decide +kernel⟩, List.mem_of_getElem? (i := 426) (by decide +kernel), List.mem_of_getElem? (i := 627) (by decide +kernel), List.mem_of_getElem? (i := 628) (by decide +kernel)⟩
theorem lw_p26 : lw_okq (⟨"PatchBayModel", "isCable", "(I)Z"⟩, 26) := ⟨⟨by decide +kernel, by decide +kernel⟩, List.mem_of_getElem? (i := 426) (by decide +kernel), List.mem_of_getElem? (i := 640) (by decide +kernel), List.mem_of_getElem? (i := 641) (by decide +kernel)⟩
theorem lw_p27 : lw_okq (⟨"PatchBayModel", "carries", "(I)I"⟩, 26) := ⟨⟨by decide +kernel, by decide +kernel⟩, List.mem_of_getElem? (i := 426) (by decide +kernel), List.mem_of_getElem? (i := 656) (by decide +kernel), List.mem_of_getElem? (i := 657) (by decide +kernel)⟩
theorem lw_p28 : lw_okq (⟨"PatchBayModel", "changes", "(IIII)I"⟩, 26) := ⟨⟨by decide +kernel, by decide +kernel⟩, List.mem_of_getElem? (i := 426) (by decide +kernel), List.mem_of_getElem? (i := 660) (by decide +kernel), List.mem_of_getElem? (i := 661) (by decide +kernel)⟩
theorem lw_p29 : lw_okq (⟨"PatchBayModel", "numberOf", "(II)J"⟩, 26) := ⟨⟨by decide +kernel, by decide +kernel⟩, List.mem_of_getElem? (i := 426) (by decide +kernel), List.mem_of_getElem? (i := 664) (by decide +kernel), List.mem_of_getElem? (i := 665) (by decide +kernel)⟩
theorem lw_p30 : lw_okq (⟨"PatchBayModel", "passes", "(IIII)I"⟩, 26) := ⟨⟨by decide +kernel, by decide +kernel⟩, List.mem_of_getElem? (i := 426) (by decide +kernel), List.mem_of_getElem? (i := 668) (by decide +kernel), List.mem_of_getElem? (i := 669) (by decide +kernel)⟩
theorem lw_p31 : lw_okq (⟨"PatchBayModel", "fails", "(II)V"⟩, 26) := ⟨⟨by decide +kernel, by decide +kernel⟩, List.mem_of_getElem? (i := 426) (by decide +kernel), List.mem_of_getElem? (i := 672) (by decide +kernel), List.mem_of_getElem? (i := 673) (by decide +kernel)⟩
def lw_privs_2 : List (MethodName × Nat) := [(⟨"PatchBayModel", "freeTape", "()I"⟩, 26), (⟨"PatchBayModel", "sort", "(I)I"⟩, 26), (⟨"PatchBayModel", "noPlain", "(II)I"⟩, 26), (⟨"PatchBayModel", "noTape", "(I)I"⟩, 26), (⟨"PatchBayModel", "kindOf", "(I)I"⟩, 26), (⟨"PatchBayModel", "noPlace", "(II)I"⟩, 26), (⟨"PatchBayModel", "at", "(II)I"⟩, 26), (⟨"PatchBayModel", "writes", "(IIIJ)I"⟩, 26), (⟨"PatchBayModel", "noWrite", "(III)I"⟩, 26), (⟨"PatchBayModel", "cellKind", "(II)I"⟩, 26), (⟨"PatchBayModel", "isCable", "(I)Z"⟩, 26), (⟨"PatchBayModel", "carries", "(I)I"⟩, 26), (⟨"PatchBayModel", "changes", "(IIII)I"⟩, 26), (⟨"PatchBayModel", "numberOf", "(II)J"⟩, 26), (⟨"PatchBayModel", "passes", "(IIII)I"⟩, 26), (⟨"PatchBayModel", "fails", "(II)V"⟩, 26)]
theorem lw_r2 : ∀ q ∈ lw_privs_2, lw_okq q := List.forall_mem_cons.mpr ⟨lw_p16, List.forall_mem_cons.mpr ⟨lw_p17, List.forall_mem_cons.mpr ⟨lw_p18, List.forall_mem_cons.mpr ⟨lw_p19, List.forall_mem_cons.mpr ⟨lw_p20, List.forall_mem_cons.mpr ⟨lw_p21, List.forall_mem_cons.mpr ⟨lw_p22, List.forall_mem_cons.mpr ⟨lw_p23, List.forall_mem_cons.mpr ⟨lw_p24, List.forall_mem_cons.mpr ⟨lw_p25, List.forall_mem_cons.mpr ⟨lw_p26, List.forall_mem_cons.mpr ⟨lw_p27, List.forall_mem_cons.mpr ⟨lw_p28, List.forall_mem_cons.mpr ⟨lw_p29, List.forall_mem_cons.mpr ⟨lw_p30, List.forall_mem_cons.mpr ⟨lw_p31, fun _ h => absurd h List.not_mem_nil⟩⟩⟩⟩⟩⟩⟩⟩⟩⟩⟩⟩⟩⟩⟩⟩
theorem lw_p32 : lw_okq (⟨"PatchBayModel", "moves", "(I)V"⟩, 26) := ⟨⟨by decide +kernel, by decide +kernel⟩, List.mem_of_getElem? (i := 426) (by decide +kernel), List.mem_of_getElem? (i := 676) (by decide +kernel), List.mem_of_getElem? (i := 677) (by decide +kernel)⟩
def lw_privs_3 : List (MethodName × Nat) := [(⟨"PatchBayModel", "moves", "(I)V"⟩, 26)]
theorem lw_r3 : ∀ q ∈ lw_privs_3, lw_okq q := List.forall_mem_cons.mpr ⟨lw_p32, fun _ h => absurd h List.not_mem_nil⟩
def lw_privs : List (MethodName × Nat) := lw_privs_1 ++ (lw_privs_2 ++ (lw_privs_3))
def lw_tbl : List Cond := k2_sels lw_privs ++ tables_1
theorem lw_privs_ok : ∀ q ∈ lw_privs, lw_okq q := by
  show ∀ q ∈ lw_privs_1 ++ (lw_privs_2 ++ (lw_privs_3)), lw_okq q
  exact List.forall_mem_append.mpr ⟨lw_r1, List.forall_mem_append.mpr ⟨lw_r2, lw_r3⟩⟩
def RX0 : String := "PatchBay$Cable"
def TX0 : u_T := fun k => match k with
  | 0 => ("PatchBay$Cable", "place", "I", true)
  | 1 => ("PatchBay$Cable", "kind", "I", true)
  | 2 => ("PatchBay$Cable", "from", "LPatchBay$Channel;", true)
  | 3 => ("PatchBay$Cable", "to", "LPatchBay$Channel;", true)
  | 4 => ("PatchBay$Cable", "in", "Z", false)
  | 5 => ("PatchBay$Cable", "patience", "I", false)
  | 6 => ("PatchBay$Cable", "strikes", "I", false)
  | 7 => ("PatchBay$Cable", "timesCarried", "I", false)
  | _ => ("PatchBay$Cable", "timesShut", "I", false)
def tyX0 : Nat → FieldType := fun k => match k with
  | 0 => .int
  | 1 => .int
  | 2 => .object "PatchBay$Channel"
  | 3 => .object "PatchBay$Channel"
  | 4 => .boolean
  | 5 => .int
  | 6 => .int
  | 7 => .int
  | _ => .int
abbrev wsX00 : List Cond := u_ws RX0 TX0 9
theorem nmX0 : ∀ a, a < 9 → ∀ b, b < 9 → a ≠ b → (TX0 a).2.1 ≠ (TX0 b).2.1 := by decide +kernel
theorem tyX0_ok : ∀ k, k < 9 → parseFieldDescriptor (TX0 k).2.2.1 = some (tyX0 k) := by decide +kernel
abbrev cX0_init : ByteArray := prog_2_method_1_code
def yX0_init : MethodName := ⟨RX0, "<init>", "(IILPatchBay$Channel;LPatchBay$Channel;)V"⟩
abbrev cX0_strike : ByteArray := prog_2_method_2_code
def yX0_strike : MethodName := ⟨RX0, "strike", "()V"⟩
def RX1 : String := "PatchBay$Cell"
def TX1 : u_T := fun k => match k with
  | 0 => ("PatchBay$Cell", "kind", "I", false)
  | 1 => ("PatchBay$Cell", "number", "J", false)
  | _ => ("PatchBay$Cell", "tape", "LPatchBay$Tape;", false)
def tyX1 : Nat → FieldType := fun k => match k with
  | 0 => .int
  | 1 => .long
  | _ => .object "PatchBay$Tape"
abbrev wsX10 : List Cond := u_ws RX1 TX1 3
theorem nmX1 : ∀ a, a < 3 → ∀ b, b < 3 → a ≠ b → (TX1 a).2.1 ≠ (TX1 b).2.1 := by decide +kernel
theorem tyX1_ok : ∀ k, k < 3 → parseFieldDescriptor (TX1 k).2.2.1 = some (tyX1 k) := by decide +kernel
abbrev cX1_init : ByteArray := prog_3_method_1_code
def yX1_init : MethodName := ⟨RX1, "<init>", "()V"⟩
abbrev cX1_become : ByteArray := prog_3_method_2_code
def yX1_become : MethodName := ⟨RX1, "become", "(IJLPatchBay$Tape;)V"⟩
def RX2 : String := "PatchBay$Channel"
def TX2 : u_T := fun k => match k with
  | 0 => ("PatchBay$Channel", "place", "I", true)
  | 1 => ("PatchBay$Channel", "tape", "LPatchBay$Tape;", false)
  | 2 => ("PatchBay$Channel", "plugged", "Z", false)
  | 3 => ("PatchBay$Channel", "head", "I", false)
  | 4 => ("PatchBay$Channel", "step", "I", false)
  | _ => ("PatchBay$Channel", "loops", "Z", false)
def tyX2 : Nat → FieldType := fun k => match k with
  | 0 => .int
  | 1 => .object "PatchBay$Tape"
  | 2 => .boolean
  | 3 => .int
  | 4 => .int
  | _ => .boolean
abbrev wsX20 : List Cond := u_ws RX2 TX2 6
theorem nmX2 : ∀ a, a < 6 → ∀ b, b < 6 → a ≠ b → (TX2 a).2.1 ≠ (TX2 b).2.1 := by decide +kernel
theorem tyX2_ok : ∀ k, k < 6 → parseFieldDescriptor (TX2 k).2.2.1 = some (tyX2 k) := by decide +kernel
abbrev cX2_init : ByteArray := prog_4_method_1_code
def yX2_init : MethodName := ⟨RX2, "<init>", "(I)V"⟩
abbrev cX2_hold : ByteArray := prog_4_method_2_code
def yX2_hold : MethodName := ⟨RX2, "hold", "(LPatchBay$Tape;Z)V"⟩
abbrev cX2_has : ByteArray := prog_4_method_3_code
def yX2_has : MethodName := ⟨RX2, "has", "()I"⟩
abbrev cX2_refusalWithoutTape : ByteArray := prog_4_method_4_code
def yX2_refusalWithoutTape : MethodName := ⟨RX2, "refusalWithoutTape", "()I"⟩
abbrev cX2_refusalOfPlain : ByteArray := prog_4_method_5_code
def yX2_refusalOfPlain : MethodName := ⟨RX2, "refusalOfPlain", "()I"⟩
abbrev cX2_read : ByteArray := prog_4_method_6_code
def yX2_read : MethodName := ⟨RX2, "read", "(ILPatchBay$Cell;)I"⟩
abbrev cX2_write : ByteArray := prog_4_method_7_code
def yX2_write : MethodName := ⟨RX2, "write", "(ILPatchBay$Cell;)I"⟩
abbrev cX2_asCell : ByteArray := prog_4_method_8_code
def yX2_asCell : MethodName := ⟨RX2, "asCell", "(LPatchBay$Cell;)V"⟩
def RX3 : String := "PatchBay$Tape"
def TX3 : u_T := fun k => match k with
  | 0 => ("PatchBay$Tape", "kind", "I", true)
  | 1 => ("PatchBay$Tape", "size", "I", true)
  | 2 => ("PatchBay$Tape", "kinds", "[I", true)
  | 3 => ("PatchBay$Tape", "numbers", "[J", true)
  | _ => ("PatchBay$Tape", "tapes", "[LPatchBay$Tape;", true)
def tyX3 : Nat → FieldType := fun k => match k with
  | 0 => .int
  | 1 => .int
  | 2 => .array .int
  | 3 => .array .long
  | _ => .array (.object "PatchBay$Tape")
abbrev wsX30 : List Cond := u_ws RX3 TX3 5
theorem nmX3 : ∀ a, a < 5 → ∀ b, b < 5 → a ≠ b → (TX3 a).2.1 ≠ (TX3 b).2.1 := by decide +kernel
theorem tyX3_ok : ∀ k, k < 5 → parseFieldDescriptor (TX3 k).2.2.1 = some (tyX3 k) := by decide +kernel
abbrev cX3_init : ByteArray := prog_5_method_1_code
def yX3_init : MethodName := ⟨RX3, "<init>", "(II)V"⟩
abbrev cX3_copyTo : ByteArray := prog_5_method_2_code
def yX3_copyTo : MethodName := ⟨RX3, "copyTo", "(ILPatchBay$Cell;)I"⟩
abbrev cX3_accept : ByteArray := prog_5_method_3_code
def yX3_accept : MethodName := ⟨RX3, "accept", "(ILPatchBay$Cell;)I"⟩
def RX4 : String := "PatchBay"
def TX4 : u_T := fun k => match k with
  | 0 => ("PatchBay", "channels", "[LPatchBay$Channel;", true)
  | 1 => ("PatchBay", "cables", "[LPatchBay$Cable;", true)
  | 2 => ("PatchBay", "cablesMade", "I", false)
  | 3 => ("PatchBay", "tagsMade", "I", false)
  | 4 => ("PatchBay", "time", "I", false)
  | 5 => ("PatchBay", "faults", "[[I", true)
  | 6 => ("PatchBay", "faultsNoted", "I", false)
  | 7 => ("PatchBay", "met", "[I", true)
  | 8 => ("PatchBay", "latestRefusal", "I", false)
  | 9 => ("PatchBay", "hand", "LPatchBay$Cell;", true)
  | _ => ("PatchBay", "otherHand", "LPatchBay$Cell;", true)
def tyX4 : Nat → FieldType := fun k => match k with
  | 0 => .array (.object "PatchBay$Channel")
  | 1 => .array (.object "PatchBay$Cable")
  | 2 => .int
  | 3 => .int
  | 4 => .int
  | 5 => .array (.array .int)
  | 6 => .int
  | 7 => .array .int
  | 8 => .int
  | 9 => .object "PatchBay$Cell"
  | _ => .object "PatchBay$Cell"
abbrev wsX40 : List Cond := u_ws RX4 TX4 11
theorem nmX4 : ∀ a, a < 11 → ∀ b, b < 11 → a ≠ b → (TX4 a).2.1 ≠ (TX4 b).2.1 := by decide +kernel
theorem tyX4_ok : ∀ k, k < 11 → parseFieldDescriptor (TX4 k).2.2.1 = some (tyX4 k) := by decide +kernel
abbrev cX4_init : ByteArray := prog_1_method_1_code
def yX4_init : MethodName := ⟨RX4, "<init>", "()V"⟩
abbrev cX4_tape : ByteArray := prog_1_method_2_code
def yX4_tape : MethodName := ⟨RX4, "tape", "(III)I"⟩
abbrev cX4_plug : ByteArray := prog_1_method_3_code
def yX4_plug : MethodName := ⟨RX4, "plug", "(I)I"⟩
abbrev cX4_strip : ByteArray := prog_1_method_4_code
def yX4_strip : MethodName := ⟨RX4, "strip", "(I)I"⟩
abbrev cX4_share : ByteArray := prog_1_method_5_code
def yX4_share : MethodName := ⟨RX4, "share", "(II)I"⟩
abbrev cX4_head : ByteArray := prog_1_method_6_code
def yX4_head : MethodName := ⟨RX4, "head", "(II)I"⟩
abbrev cX4_step : ByteArray := prog_1_method_7_code
def yX4_step : MethodName := ⟨RX4, "step", "(II)I"⟩
abbrev cX4_loop : ByteArray := prog_1_method_8_code
def yX4_loop : MethodName := ⟨RX4, "loop", "(IZ)I"⟩
abbrev cX4_stamp : ByteArray := prog_1_method_9_code
def yX4_stamp : MethodName := ⟨RX4, "stamp", "(IIIJ)I"⟩
abbrev cX4_probe : ByteArray := prog_1_method_10_code
def yX4_probe : MethodName := ⟨RX4, "probe", "(III)J"⟩
abbrev cX4_tag : ByteArray := prog_1_method_11_code
def yX4_tag : MethodName := ⟨RX4, "tag", "(IIZ)I"⟩
abbrev cX4_rack : ByteArray := prog_1_method_12_code
def yX4_rack : MethodName := ⟨RX4, "rack", "(III)I"⟩
abbrev cX4_unrack : ByteArray := prog_1_method_13_code
def yX4_unrack : MethodName := ⟨RX4, "unrack", "(III)I"⟩
abbrev cX4_cable : ByteArray := prog_1_method_14_code
def yX4_cable : MethodName := ⟨RX4, "cable", "(III)I"⟩
abbrev cX4_patience : ByteArray := prog_1_method_15_code
def yX4_patience : MethodName := ⟨RX4, "patience", "(II)I"⟩
abbrev cX4_pull : ByteArray := prog_1_method_16_code
def yX4_pull : MethodName := ⟨RX4, "pull", "(I)I"⟩
abbrev cX4_plugIn : ByteArray := prog_1_method_17_code
def yX4_plugIn : MethodName := ⟨RX4, "plugIn", "(I)I"⟩
abbrev cX4_tick : ByteArray := prog_1_method_18_code
def yX4_tick : MethodName := ⟨RX4, "tick", "()I"⟩
abbrev cX4_splice : ByteArray := prog_1_method_19_code
def yX4_splice : MethodName := ⟨RX4, "splice", "(IIIII)I"⟩
abbrev cX4_dub : ByteArray := prog_1_method_20_code
def yX4_dub : MethodName := ⟨RX4, "dub", "(III)I"⟩
abbrev cX4_sum : ByteArray := prog_1_method_21_code
def yX4_sum : MethodName := ⟨RX4, "sum", "(I)J"⟩
abbrev cX4_match : ByteArray := prog_1_method_22_code
def yX4_match : MethodName := ⟨RX4, "match", "(II)I"⟩
abbrev cX4_why : ByteArray := prog_1_method_23_code
def yX4_why : MethodName := ⟨RX4, "why", "()I"⟩
abbrev cX4_number : ByteArray := prog_1_method_24_code
def yX4_number : MethodName := ⟨RX4, "number", "(II)J"⟩
abbrev cX4_kind : ByteArray := prog_1_method_25_code
def yX4_kind : MethodName := ⟨RX4, "kind", "(II)I"⟩
abbrev cX4_cells : ByteArray := prog_1_method_26_code
def yX4_cells : MethodName := ⟨RX4, "cells", "(I)I"⟩
abbrev cX4_of : ByteArray := prog_1_method_27_code
def yX4_of : MethodName := ⟨RX4, "of", "(II)I"⟩
abbrev cX4_told : ByteArray := prog_1_method_28_code
def yX4_told : MethodName := ⟨RX4, "told", "(II)I"⟩
abbrev cX4_fault : ByteArray := prog_1_method_29_code
def yX4_fault : MethodName := ⟨RX4, "fault", "(II)I"⟩
abbrev cX4_count : ByteArray := prog_1_method_30_code
def yX4_count : MethodName := ⟨RX4, "count", "(I)I"⟩
abbrev cX4_channelAt : ByteArray := prog_1_method_31_code
def yX4_channelAt : MethodName := ⟨RX4, "channelAt", "(I)LPatchBay$Channel;"⟩
abbrev cX4_cableAt : ByteArray := prog_1_method_32_code
def yX4_cableAt : MethodName := ⟨RX4, "cableAt", "(I)LPatchBay$Cable;"⟩
abbrev cX4_isPlain : ByteArray := prog_1_method_33_code
def yX4_isPlain : MethodName := ⟨RX4, "isPlain", "(I)Z"⟩
abbrev cX4_isTapeKind : ByteArray := prog_1_method_34_code
def yX4_isTapeKind : MethodName := ⟨RX4, "isTapeKind", "(I)Z"⟩
abbrev cX4_takes : ByteArray := prog_1_method_35_code
def yX4_takes : MethodName := ⟨RX4, "takes", "(II)Z"⟩
abbrev cX4_fitted : ByteArray := prog_1_method_36_code
def yX4_fitted : MethodName := ⟨RX4, "fitted", "(IJ)J"⟩
abbrev cX4_meet : ByteArray := prog_1_method_37_code
def yX4_meet : MethodName := ⟨RX4, "meet", "(I)V"⟩
abbrev cX4_timesMet : ByteArray := prog_1_method_38_code
def yX4_timesMet : MethodName := ⟨RX4, "timesMet", "(I)I"⟩
abbrev cX4_note : ByteArray := prog_1_method_39_code
def yX4_note : MethodName := ⟨RX4, "note", "(I)V"⟩
abbrev cX4_answer : ByteArray := prog_1_method_40_code
def yX4_answer : MethodName := ⟨RX4, "answer", "(II)I"⟩
abbrev cX4_noteFault : ByteArray := prog_1_method_41_code
def yX4_noteFault : MethodName := ⟨RX4, "noteFault", "(II)V"⟩
abbrev cX4_keepBooks : ByteArray := prog_1_method_42_code
def yX4_keepBooks : MethodName := ⟨RX4, "keepBooks", "(LPatchBay$Cable;I)V"⟩
abbrev cX4_carry : ByteArray := prog_1_method_43_code
def yX4_carry : MethodName := ⟨RX4, "carry", "(LPatchBay$Cable;)I"⟩
abbrev cX4_wire : ByteArray := prog_1_method_44_code
def yX4_wire : MethodName := ⟨RX4, "wire", "(LPatchBay$Channel;ILPatchBay$Channel;I)I"⟩
abbrev cX4_gate : ByteArray := prog_1_method_45_code
def yX4_gate : MethodName := ⟨RX4, "gate", "(LPatchBay$Channel;ILPatchBay$Channel;I)I"⟩
abbrev cX4_pair : ByteArray := prog_1_method_46_code
def yX4_pair : MethodName := ⟨RX4, "pair", "(LPatchBay$Channel;ILPatchBay$Channel;I)I"⟩
abbrev cX4_swap : ByteArray := prog_1_method_47_code
def yX4_swap : MethodName := ⟨RX4, "swap", "(LPatchBay$Channel;ILPatchBay$Channel;I)I"⟩
abbrev cX4_move : ByteArray := prog_1_method_48_code
def yX4_move : MethodName := ⟨RX4, "move", "(LPatchBay$Channel;)V"⟩
def RX5 : String := "PatchBayModel"
def TX5 : u_T := fun k => match k with
  | 0 => ("PatchBayModel", "tapeKind", "[I", true)
  | 1 => ("PatchBayModel", "tapeSize", "[I", true)
  | 2 => ("PatchBayModel", "used", "[Z", true)
  | 3 => ("PatchBayModel", "cell", "[J", true)
  | 4 => ("PatchBayModel", "tags", "I", false)
  | 5 => ("PatchBayModel", "isSeal", "[Z", true)
  | 6 => ("PatchBayModel", "has", "[I", true)
  | 7 => ("PatchBayModel", "heads", "[I", true)
  | 8 => ("PatchBayModel", "steps", "[I", true)
  | 9 => ("PatchBayModel", "loops", "[Z", true)
  | 10 => ("PatchBayModel", "cables", "I", false)
  | 11 => ("PatchBayModel", "cableKind", "[I", true)
  | 12 => ("PatchBayModel", "from", "[I", true)
  | 13 => ("PatchBayModel", "to", "[I", true)
  | 14 => ("PatchBayModel", "in", "[Z", true)
  | 15 => ("PatchBayModel", "patience", "[I", true)
  | 16 => ("PatchBayModel", "strikes", "[I", true)
  | 17 => ("PatchBayModel", "carried", "[I", true)
  | 18 => ("PatchBayModel", "shut", "[I", true)
  | 19 => ("PatchBayModel", "time", "I", false)
  | 20 => ("PatchBayModel", "faults", "I", false)
  | 21 => ("PatchBayModel", "faultTime", "[I", true)
  | 22 => ("PatchBayModel", "faultWho", "[I", true)
  | 23 => ("PatchBayModel", "faultHow", "[I", true)
  | 24 => ("PatchBayModel", "refusals", "[I", true)
  | _ => ("PatchBayModel", "why", "I", false)
def tyX5 : Nat → FieldType := fun k => match k with
  | 0 => .array .int
  | 1 => .array .int
  | 2 => .array .boolean
  | 3 => .array .long
  | 4 => .int
  | 5 => .array .boolean
  | 6 => .array .int
  | 7 => .array .int
  | 8 => .array .int
  | 9 => .array .boolean
  | 10 => .int
  | 11 => .array .int
  | 12 => .array .int
  | 13 => .array .int
  | 14 => .array .boolean
  | 15 => .array .int
  | 16 => .array .int
  | 17 => .array .int
  | 18 => .array .int
  | 19 => .int
  | 20 => .int
  | 21 => .array .int
  | 22 => .array .int
  | 23 => .array .int
  | 24 => .array .int
  | _ => .int
abbrev wsX50 : List Cond := u_ws RX5 TX5 26
theorem nmX5 : ∀ a, a < 26 → ∀ b, b < 26 → a ≠ b → (TX5 a).2.1 ≠ (TX5 b).2.1 := by decide +kernel
theorem tyX5_ok : ∀ k, k < 26 → parseFieldDescriptor (TX5 k).2.2.1 = some (tyX5 k) := by decide +kernel
abbrev cX5_init : ByteArray := prog_7_method_1_code
def yX5_init : MethodName := ⟨RX5, "<init>", "()V"⟩
abbrev cX5_isIn : ByteArray := prog_7_method_2_code
def yX5_isIn : MethodName := ⟨RX5, "isIn", "(III)Z"⟩
abbrev cX5_isChannel : ByteArray := prog_7_method_3_code
def yX5_isChannel : MethodName := ⟨RX5, "isChannel", "(I)Z"⟩
abbrev cX5_isCable : ByteArray := prog_7_method_4_code
def yX5_isCable : MethodName := ⟨RX5, "isCable", "(I)Z"⟩
abbrev cX5_met : ByteArray := prog_7_method_5_code
def yX5_met : MethodName := ⟨RX5, "met", "(I)I"⟩
abbrev cX5_sort : ByteArray := prog_7_method_6_code
def yX5_sort : MethodName := ⟨RX5, "sort", "(I)I"⟩
abbrev cX5_freeTape : ByteArray := prog_7_method_7_code
def yX5_freeTape : MethodName := ⟨RX5, "freeTape", "()I"⟩
abbrev cX5_newTape : ByteArray := prog_7_method_8_code
def yX5_newTape : MethodName := ⟨RX5, "newTape", "(II)I"⟩
abbrev cX5_nearest : ByteArray := prog_7_method_9_code
def yX5_nearest : MethodName := ⟨RX5, "nearest", "(JI)J"⟩
abbrev cX5_made : ByteArray := prog_7_method_10_code
def yX5_made : MethodName := ⟨RX5, "made", "(IJ)J"⟩
abbrev cX5_takes : ByteArray := prog_7_method_11_code
def yX5_takes : MethodName := ⟨RX5, "takes", "(II)Z"⟩
abbrev cX5_cellKind : ByteArray := prog_7_method_12_code
def yX5_cellKind : MethodName := ⟨RX5, "cellKind", "(II)I"⟩
abbrev cX5_numberOf : ByteArray := prog_7_method_13_code
def yX5_numberOf : MethodName := ⟨RX5, "numberOf", "(II)J"⟩
abbrev cX5_kept : ByteArray := prog_7_method_14_code
def yX5_kept : MethodName := ⟨RX5, "kept", "(IJ)J"⟩
abbrev cX5_noTape : ByteArray := prog_7_method_15_code
def yX5_noTape : MethodName := ⟨RX5, "noTape", "(I)I"⟩
abbrev cX5_noPlace : ByteArray := prog_7_method_16_code
def yX5_noPlace : MethodName := ⟨RX5, "noPlace", "(II)I"⟩
abbrev cX5_kindOf : ByteArray := prog_7_method_17_code
def yX5_kindOf : MethodName := ⟨RX5, "kindOf", "(I)I"⟩
abbrev cX5_at : ByteArray := prog_7_method_18_code
def yX5_at : MethodName := ⟨RX5, "at", "(II)I"⟩
abbrev cX5_noTake : ByteArray := prog_7_method_19_code
def yX5_noTake : MethodName := ⟨RX5, "noTake", "(II)I"⟩
abbrev cX5_noWrite : ByteArray := prog_7_method_20_code
def yX5_noWrite : MethodName := ⟨RX5, "noWrite", "(III)I"⟩
abbrev cX5_writes : ByteArray := prog_7_method_21_code
def yX5_writes : MethodName := ⟨RX5, "writes", "(IIIJ)I"⟩
abbrev cX5_passes : ByteArray := prog_7_method_22_code
def yX5_passes : MethodName := ⟨RX5, "passes", "(IIII)I"⟩
abbrev cX5_tape : ByteArray := prog_7_method_23_code
def yX5_tape : MethodName := ⟨RX5, "tape", "(III)I"⟩
abbrev cX5_plug : ByteArray := prog_7_method_24_code
def yX5_plug : MethodName := ⟨RX5, "plug", "(I)I"⟩
abbrev cX5_strip : ByteArray := prog_7_method_25_code
def yX5_strip : MethodName := ⟨RX5, "strip", "(I)I"⟩
abbrev cX5_share : ByteArray := prog_7_method_26_code
def yX5_share : MethodName := ⟨RX5, "share", "(II)I"⟩
abbrev cX5_head : ByteArray := prog_7_method_27_code
def yX5_head : MethodName := ⟨RX5, "head", "(II)I"⟩
abbrev cX5_step : ByteArray := prog_7_method_28_code
def yX5_step : MethodName := ⟨RX5, "step", "(II)I"⟩
abbrev cX5_loop : ByteArray := prog_7_method_29_code
def yX5_loop : MethodName := ⟨RX5, "loop", "(IZ)I"⟩
abbrev cX5_noPlain : ByteArray := prog_7_method_30_code
def yX5_noPlain : MethodName := ⟨RX5, "noPlain", "(II)I"⟩
abbrev cX5_stamp : ByteArray := prog_7_method_31_code
def yX5_stamp : MethodName := ⟨RX5, "stamp", "(IIIJ)I"⟩
abbrev cX5_probe : ByteArray := prog_7_method_32_code
def yX5_probe : MethodName := ⟨RX5, "probe", "(III)J"⟩
abbrev cX5_tag : ByteArray := prog_7_method_33_code
def yX5_tag : MethodName := ⟨RX5, "tag", "(IIZ)I"⟩
abbrev cX5_rack : ByteArray := prog_7_method_34_code
def yX5_rack : MethodName := ⟨RX5, "rack", "(III)I"⟩
abbrev cX5_unrack : ByteArray := prog_7_method_35_code
def yX5_unrack : MethodName := ⟨RX5, "unrack", "(III)I"⟩
abbrev cX5_cable : ByteArray := prog_7_method_36_code
def yX5_cable : MethodName := ⟨RX5, "cable", "(III)I"⟩
abbrev cX5_patience : ByteArray := prog_7_method_37_code
def yX5_patience : MethodName := ⟨RX5, "patience", "(II)I"⟩
abbrev cX5_pull : ByteArray := prog_7_method_38_code
def yX5_pull : MethodName := ⟨RX5, "pull", "(I)I"⟩
abbrev cX5_plugIn : ByteArray := prog_7_method_39_code
def yX5_plugIn : MethodName := ⟨RX5, "plugIn", "(I)I"⟩
abbrev cX5_changes : ByteArray := prog_7_method_40_code
def yX5_changes : MethodName := ⟨RX5, "changes", "(IIII)I"⟩
abbrev cX5_carries : ByteArray := prog_7_method_41_code
def yX5_carries : MethodName := ⟨RX5, "carries", "(I)I"⟩
abbrev cX5_fails : ByteArray := prog_7_method_42_code
def yX5_fails : MethodName := ⟨RX5, "fails", "(II)V"⟩
abbrev cX5_moves : ByteArray := prog_7_method_43_code
def yX5_moves : MethodName := ⟨RX5, "moves", "(I)V"⟩
abbrev cX5_tick : ByteArray := prog_7_method_44_code
def yX5_tick : MethodName := ⟨RX5, "tick", "()I"⟩
abbrev cX5_splice : ByteArray := prog_7_method_45_code
def yX5_splice : MethodName := ⟨RX5, "splice", "(IIIII)I"⟩
abbrev cX5_dub : ByteArray := prog_7_method_46_code
def yX5_dub : MethodName := ⟨RX5, "dub", "(III)I"⟩
abbrev cX5_sum : ByteArray := prog_7_method_47_code
def yX5_sum : MethodName := ⟨RX5, "sum", "(I)J"⟩
abbrev cX5_match : ByteArray := prog_7_method_48_code
def yX5_match : MethodName := ⟨RX5, "match", "(II)I"⟩
abbrev cX5_why : ByteArray := prog_7_method_49_code
def yX5_why : MethodName := ⟨RX5, "why", "()I"⟩
abbrev cX5_number : ByteArray := prog_7_method_50_code
def yX5_number : MethodName := ⟨RX5, "number", "(II)J"⟩
abbrev cX5_kind : ByteArray := prog_7_method_51_code
def yX5_kind : MethodName := ⟨RX5, "kind", "(II)I"⟩
abbrev cX5_cells : ByteArray := prog_7_method_52_code
def yX5_cells : MethodName := ⟨RX5, "cells", "(I)I"⟩
abbrev cX5_of : ByteArray := prog_7_method_53_code
def yX5_of : MethodName := ⟨RX5, "of", "(II)I"⟩
abbrev cX5_told : ByteArray := prog_7_method_54_code
def yX5_told : MethodName := ⟨RX5, "told", "(II)I"⟩
abbrev cX5_fault : ByteArray := prog_7_method_55_code
def yX5_fault : MethodName := ⟨RX5, "fault", "(II)I"⟩
abbrev cX5_count : ByteArray := prog_7_method_56_code
def yX5_count : MethodName := ⟨RX5, "count", "(I)I"⟩
def RJ9 : String := "java/lang/Math"
def TJ9 : u_T := fun k => match k with
  | _ => ("", "", "", false)
def tyJ9 : Nat → FieldType := fun k => match k with
  | _ => .int
theorem nmJ9 : ∀ a, a < 0 → ∀ b, b < 0 → a ≠ b → (TJ9 a).2.1 ≠ (TJ9 b).2.1 := by decide +kernel
theorem tyJ9_ok : ∀ k, k < 0 → parseFieldDescriptor (TJ9 k).2.2.1 = some (tyJ9 k) := by decide +kernel
abbrev cJ9_floorMod_7cf53 : ByteArray := prog_8_method_50_code
def yJ9_floorMod_7cf53 : MethodName := ⟨RJ9, "floorMod", "(II)I"⟩
abbrev cJ9_min_7cf53 : ByteArray := prog_8_method_69_code
def yJ9_min_7cf53 : MethodName := ⟨RJ9, "min", "(II)I"⟩
def RL : String := "PatchBayLaw"
abbrev cL_law : ByteArray := code
def yL_law : MethodName := ⟨RL, "law", "([I)Z"⟩
abbrev vwCl : List vw_C := [(RX0, TX0, 9), (RX1, TX1, 3), (RX2, TX2, 6), (RX3, TX3, 5), (RX4, TX4, 11), (RX5, TX5, 26)]
/-- the objects of PatchBay$Cable, kind 0: what each holds, by its address -/
theorem inX0 : ∀ w ∈ wsX00, w ∈ lw_tbl := by decide +kernel
theorem inX1 : ∀ w ∈ wsX10, w ∈ lw_tbl := by decide +kernel
theorem inX2 : ∀ w ∈ wsX20, w ∈ lw_tbl := by decide +kernel
theorem inX3 : ∀ w ∈ wsX30, w ∈ lw_tbl := by decide +kernel
theorem inX4 : ∀ w ∈ wsX40, w ∈ lw_tbl := by decide +kernel
theorem inX5 : ∀ w ∈ wsX50, w ∈ lw_tbl := by decide +kernel
end
section
theorem dX0_init_0 : decode cX0_init 0 = .ok (.aload_n 0, 1) := by decide +kernel
theorem dX0_init_1 : decode cX0_init 1 = .ok (.invokespecial 1, 3) := by decide +kernel
theorem dX0_init_4 : decode cX0_init 4 = .ok (.aload_n 0, 1) := by decide +kernel
theorem dX0_init_5 : decode cX0_init 5 = .ok (.iconst 1, 1) := by decide +kernel
theorem dX0_init_6 : decode cX0_init 6 = .ok (.putfield 7, 3) := by decide +kernel
theorem dX0_init_9 : decode cX0_init 9 = .ok (.aload_n 0, 1) := by decide +kernel
theorem dX0_init_10 : decode cX0_init 10 = .ok (.iconst 1, 1) := by decide +kernel
theorem dX0_init_11 : decode cX0_init 11 = .ok (.putfield 13, 3) := by decide +kernel
theorem dX0_init_14 : decode cX0_init 14 = .ok (.aload_n 0, 1) := by decide +kernel
theorem dX0_init_15 : decode cX0_init 15 = .ok (.iconst 0, 1) := by decide +kernel
theorem dX0_init_16 : decode cX0_init 16 = .ok (.putfield 17, 3) := by decide +kernel
theorem dX0_init_19 : decode cX0_init 19 = .ok (.aload_n 0, 1) := by decide +kernel
theorem dX0_init_20 : decode cX0_init 20 = .ok (.iconst 0, 1) := by decide +kernel
theorem dX0_init_21 : decode cX0_init 21 = .ok (.putfield 20, 3) := by decide +kernel
theorem dX0_init_24 : decode cX0_init 24 = .ok (.aload_n 0, 1) := by decide +kernel
theorem dX0_init_25 : decode cX0_init 25 = .ok (.iconst 0, 1) := by decide +kernel
theorem dX0_init_26 : decode cX0_init 26 = .ok (.putfield 23, 3) := by decide +kernel
theorem dX0_init_29 : decode cX0_init 29 = .ok (.aload_n 0, 1) := by decide +kernel
theorem dX0_init_30 : decode cX0_init 30 = .ok (.iload_n 1, 1) := by decide +kernel
theorem dX0_init_31 : decode cX0_init 31 = .ok (.putfield 26, 3) := by decide +kernel
theorem dX0_init_34 : decode cX0_init 34 = .ok (.aload_n 0, 1) := by decide +kernel
theorem dX0_init_35 : decode cX0_init 35 = .ok (.iload_n 2, 1) := by decide +kernel
theorem dX0_init_36 : decode cX0_init 36 = .ok (.putfield 29, 3) := by decide +kernel
theorem dX0_init_39 : decode cX0_init 39 = .ok (.aload_n 0, 1) := by decide +kernel
theorem dX0_init_40 : decode cX0_init 40 = .ok (.aload_n 3, 1) := by decide +kernel
theorem dX0_init_41 : decode cX0_init 41 = .ok (.putfield 32, 3) := by decide +kernel
theorem dX0_init_44 : decode cX0_init 44 = .ok (.aload_n 0, 1) := by decide +kernel
theorem dX0_init_45 : decode cX0_init 45 = .ok (.aload 4, 2) := by decide +kernel
theorem dX0_init_47 : decode cX0_init 47 = .ok (.putfield 36, 3) := by decide +kernel
theorem dX0_init_50 : decode cX0_init 50 = .ok (.return_, 1) := by decide +kernel
theorem dX0_strike_0 : decode cX0_strike 0 = .ok (.aload_n 0, 1) := by decide +kernel
theorem dX0_strike_1 : decode cX0_strike 1 = .ok (.dup, 1) := by decide +kernel
theorem dX0_strike_2 : decode cX0_strike 2 = .ok (.getfield 17, 3) := by decide +kernel
theorem dX0_strike_5 : decode cX0_strike 5 = .ok (.iconst 1, 1) := by decide +kernel
theorem dX0_strike_6 : decode cX0_strike 6 = .ok (.iadd, 1) := by decide +kernel
theorem dX0_strike_7 : decode cX0_strike 7 = .ok (.putfield 17, 3) := by decide +kernel
theorem dX0_strike_10 : decode cX0_strike 10 = .ok (.aload_n 0, 1) := by decide +kernel
theorem dX0_strike_11 : decode cX0_strike 11 = .ok (.getfield 17, 3) := by decide +kernel
theorem dX0_strike_14 : decode cX0_strike 14 = .ok (.aload_n 0, 1) := by decide +kernel
theorem dX0_strike_15 : decode cX0_strike 15 = .ok (.getfield 13, 3) := by decide +kernel
theorem dX0_strike_18 : decode cX0_strike 18 = .ok (.if_icmp .ne 8, 3) := by decide +kernel
theorem dX0_strike_21 : decode cX0_strike 21 = .ok (.aload_n 0, 1) := by decide +kernel
theorem dX0_strike_22 : decode cX0_strike 22 = .ok (.iconst 0, 1) := by decide +kernel
theorem dX0_strike_23 : decode cX0_strike 23 = .ok (.putfield 7, 3) := by decide +kernel
theorem dX0_strike_26 : decode cX0_strike 26 = .ok (.return_, 1) := by decide +kernel
theorem dX1_init_0 : decode cX1_init 0 = .ok (.aload_n 0, 1) := by decide +kernel
theorem dX1_init_1 : decode cX1_init 1 = .ok (.invokespecial 3, 3) := by decide +kernel
theorem dX1_init_4 : decode cX1_init 4 = .ok (.aload_n 0, 1) := by decide +kernel
theorem dX1_init_5 : decode cX1_init 5 = .ok (.bipush 11, 2) := by decide +kernel
theorem dX1_init_7 : decode cX1_init 7 = .ok (.putfield 9, 3) := by decide +kernel
theorem dX1_init_10 : decode cX1_init 10 = .ok (.aload_n 0, 1) := by decide +kernel
theorem dX1_init_11 : decode cX1_init 11 = .ok (.lconst 0, 1) := by decide +kernel
theorem dX1_init_12 : decode cX1_init 12 = .ok (.putfield 15, 3) := by decide +kernel
theorem dX1_init_15 : decode cX1_init 15 = .ok (.aload_n 0, 1) := by decide +kernel
theorem dX1_init_16 : decode cX1_init 16 = .ok (.aconst_null, 1) := by decide +kernel
theorem dX1_init_17 : decode cX1_init 17 = .ok (.putfield 19, 3) := by decide +kernel
theorem dX1_init_20 : decode cX1_init 20 = .ok (.return_, 1) := by decide +kernel
theorem dX1_become_0 : decode cX1_become 0 = .ok (.aload_n 0, 1) := by decide +kernel
theorem dX1_become_1 : decode cX1_become 1 = .ok (.iload_n 1, 1) := by decide +kernel
theorem dX1_become_2 : decode cX1_become 2 = .ok (.putfield 9, 3) := by decide +kernel
theorem dX1_become_5 : decode cX1_become 5 = .ok (.aload_n 0, 1) := by decide +kernel
theorem dX1_become_6 : decode cX1_become 6 = .ok (.lload_n 2, 1) := by decide +kernel
theorem dX1_become_7 : decode cX1_become 7 = .ok (.putfield 15, 3) := by decide +kernel
theorem dX1_become_10 : decode cX1_become 10 = .ok (.aload_n 0, 1) := by decide +kernel
theorem dX1_become_11 : decode cX1_become 11 = .ok (.aload 4, 2) := by decide +kernel
theorem dX1_become_13 : decode cX1_become 13 = .ok (.putfield 19, 3) := by decide +kernel
theorem dX1_become_16 : decode cX1_become 16 = .ok (.return_, 1) := by decide +kernel
theorem dX2_init_0 : decode cX2_init 0 = .ok (.aload_n 0, 1) := by decide +kernel
theorem dX2_init_1 : decode cX2_init 1 = .ok (.invokespecial 3, 3) := by decide +kernel
theorem dX2_init_4 : decode cX2_init 4 = .ok (.aload_n 0, 1) := by decide +kernel
theorem dX2_init_5 : decode cX2_init 5 = .ok (.aconst_null, 1) := by decide +kernel
theorem dX2_init_6 : decode cX2_init 6 = .ok (.putfield 9, 3) := by decide +kernel
theorem dX2_init_9 : decode cX2_init 9 = .ok (.aload_n 0, 1) := by decide +kernel
theorem dX2_init_10 : decode cX2_init 10 = .ok (.iconst 0, 1) := by decide +kernel
theorem dX2_init_11 : decode cX2_init 11 = .ok (.putfield 15, 3) := by decide +kernel
theorem dX2_init_14 : decode cX2_init 14 = .ok (.aload_n 0, 1) := by decide +kernel
theorem dX2_init_15 : decode cX2_init 15 = .ok (.iconst 0, 1) := by decide +kernel
theorem dX2_init_16 : decode cX2_init 16 = .ok (.putfield 19, 3) := by decide +kernel
theorem dX2_init_19 : decode cX2_init 19 = .ok (.aload_n 0, 1) := by decide +kernel
theorem dX2_init_20 : decode cX2_init 20 = .ok (.iconst 1, 1) := by decide +kernel
theorem dX2_init_21 : decode cX2_init 21 = .ok (.putfield 23, 3) := by decide +kernel
theorem dX2_init_24 : decode cX2_init 24 = .ok (.aload_n 0, 1) := by decide +kernel
theorem dX2_init_25 : decode cX2_init 25 = .ok (.iconst 0, 1) := by decide +kernel
theorem dX2_init_26 : decode cX2_init 26 = .ok (.putfield 26, 3) := by decide +kernel
theorem dX2_init_29 : decode cX2_init 29 = .ok (.aload_n 0, 1) := by decide +kernel
theorem dX2_init_30 : decode cX2_init 30 = .ok (.iload_n 1, 1) := by decide +kernel
theorem dX2_init_31 : decode cX2_init 31 = .ok (.putfield 29, 3) := by decide +kernel
theorem dX2_init_34 : decode cX2_init 34 = .ok (.return_, 1) := by decide +kernel
theorem dX2_hold_0 : decode cX2_hold 0 = .ok (.aload_n 0, 1) := by decide +kernel
theorem dX2_hold_1 : decode cX2_hold 1 = .ok (.aload_n 1, 1) := by decide +kernel
theorem dX2_hold_2 : decode cX2_hold 2 = .ok (.putfield 9, 3) := by decide +kernel
theorem dX2_hold_5 : decode cX2_hold 5 = .ok (.aload_n 0, 1) := by decide +kernel
theorem dX2_hold_6 : decode cX2_hold 6 = .ok (.iload_n 2, 1) := by decide +kernel
theorem dX2_hold_7 : decode cX2_hold 7 = .ok (.putfield 15, 3) := by decide +kernel
theorem dX2_hold_10 : decode cX2_hold 10 = .ok (.return_, 1) := by decide +kernel
theorem dX2_has_0 : decode cX2_has 0 = .ok (.aload_n 0, 1) := by decide +kernel
theorem dX2_has_1 : decode cX2_has 1 = .ok (.getfield 9, 3) := by decide +kernel
theorem dX2_has_4 : decode cX2_has 4 = .ok (.ifnull 5, 3) := by decide +kernel
theorem dX2_has_7 : decode cX2_has 7 = .ok (.iconst 1, 1) := by decide +kernel
theorem dX2_has_8 : decode cX2_has 8 = .ok (.ireturn, 1) := by decide +kernel
theorem dX2_has_9 : decode cX2_has 9 = .ok (.aload_n 0, 1) := by decide +kernel
theorem dX2_has_10 : decode cX2_has 10 = .ok (.getfield 15, 3) := by decide +kernel
theorem dX2_has_13 : decode cX2_has 13 = .ok (.ifCond .eq 7, 3) := by decide +kernel
theorem dX2_has_16 : decode cX2_has 16 = .ok (.iconst 2, 1) := by decide +kernel
theorem dX2_has_17 : decode cX2_has 17 = .ok (.goto 4, 3) := by decide +kernel
theorem dX2_has_20 : decode cX2_has 20 = .ok (.iconst 0, 1) := by decide +kernel
theorem dX2_has_21 : decode cX2_has 21 = .ok (.ireturn, 1) := by decide +kernel
theorem dX2_refusalWithoutTape_0 : decode cX2_refusalWithoutTape 0 = .ok (.aload_n 0, 1) := by decide +kernel
theorem dX2_refusalWithoutTape_1 : decode cX2_refusalWithoutTape 1 = .ok (.getfield 15, 3) := by decide +kernel
theorem dX2_refusalWithoutTape_4 : decode cX2_refusalWithoutTape 4 = .ok (.ifCond .eq 7, 3) := by decide +kernel
theorem dX2_refusalWithoutTape_7 : decode cX2_refusalWithoutTape 7 = .ok (.iconst 2, 1) := by decide +kernel
theorem dX2_refusalWithoutTape_8 : decode cX2_refusalWithoutTape 8 = .ok (.goto 4, 3) := by decide +kernel
theorem dX2_refusalWithoutTape_11 : decode cX2_refusalWithoutTape 11 = .ok (.iconst 1, 1) := by decide +kernel
theorem dX2_refusalWithoutTape_12 : decode cX2_refusalWithoutTape 12 = .ok (.ireturn, 1) := by decide +kernel
theorem dX2_refusalOfPlain_0 : decode cX2_refusalOfPlain 0 = .ok (.aload_n 0, 1) := by decide +kernel
theorem dX2_refusalOfPlain_1 : decode cX2_refusalOfPlain 1 = .ok (.getfield 9, 3) := by decide +kernel
theorem dX2_refusalOfPlain_4 : decode cX2_refusalOfPlain 4 = .ok (.ifnonnull 8, 3) := by decide +kernel
theorem dX2_refusalOfPlain_7 : decode cX2_refusalOfPlain 7 = .ok (.aload_n 0, 1) := by decide +kernel
theorem dX2_refusalOfPlain_8 : decode cX2_refusalOfPlain 8 = .ok (.invokevirtual 32, 3) := by decide +kernel
theorem dX2_refusalOfPlain_11 : decode cX2_refusalOfPlain 11 = .ok (.ireturn, 1) := by decide +kernel
theorem dX2_refusalOfPlain_12 : decode cX2_refusalOfPlain 12 = .ok (.aload_n 0, 1) := by decide +kernel
theorem dX2_refusalOfPlain_13 : decode cX2_refusalOfPlain 13 = .ok (.getfield 9, 3) := by decide +kernel
theorem dX2_refusalOfPlain_16 : decode cX2_refusalOfPlain 16 = .ok (.getfield 36, 3) := by decide +kernel
theorem dX2_refusalOfPlain_19 : decode cX2_refusalOfPlain 19 = .ok (.invokestatic 41, 3) := by decide +kernel
theorem dX2_refusalOfPlain_22 : decode cX2_refusalOfPlain 22 = .ok (.ifCond .eq 7, 3) := by decide +kernel
theorem dX2_refusalOfPlain_25 : decode cX2_refusalOfPlain 25 = .ok (.iconst 0, 1) := by decide +kernel
theorem dX2_refusalOfPlain_26 : decode cX2_refusalOfPlain 26 = .ok (.goto 4, 3) := by decide +kernel
theorem dX2_refusalOfPlain_29 : decode cX2_refusalOfPlain 29 = .ok (.iconst 2, 1) := by decide +kernel
theorem dX2_refusalOfPlain_30 : decode cX2_refusalOfPlain 30 = .ok (.ireturn, 1) := by decide +kernel
theorem dX2_read_0 : decode cX2_read 0 = .ok (.aload_n 0, 1) := by decide +kernel
theorem dX2_read_1 : decode cX2_read 1 = .ok (.getfield 9, 3) := by decide +kernel
theorem dX2_read_4 : decode cX2_read 4 = .ok (.ifnonnull 10, 3) := by decide +kernel
theorem dX2_read_7 : decode cX2_read 7 = .ok (.aload_n 0, 1) := by decide +kernel
theorem dX2_read_8 : decode cX2_read 8 = .ok (.invokevirtual 32, 3) := by decide +kernel
theorem dX2_read_11 : decode cX2_read 11 = .ok (.goto 12, 3) := by decide +kernel
theorem dX2_read_14 : decode cX2_read 14 = .ok (.aload_n 0, 1) := by decide +kernel
theorem dX2_read_15 : decode cX2_read 15 = .ok (.getfield 9, 3) := by decide +kernel
theorem dX2_read_18 : decode cX2_read 18 = .ok (.iload_n 1, 1) := by decide +kernel
theorem dX2_read_19 : decode cX2_read 19 = .ok (.aload_n 2, 1) := by decide +kernel
theorem dX2_read_20 : decode cX2_read 20 = .ok (.invokevirtual 45, 3) := by decide +kernel
theorem dX2_read_23 : decode cX2_read 23 = .ok (.ireturn, 1) := by decide +kernel
theorem dX2_write_0 : decode cX2_write 0 = .ok (.aload_n 0, 1) := by decide +kernel
theorem dX2_write_1 : decode cX2_write 1 = .ok (.getfield 9, 3) := by decide +kernel
theorem dX2_write_4 : decode cX2_write 4 = .ok (.ifnonnull 10, 3) := by decide +kernel
theorem dX2_write_7 : decode cX2_write 7 = .ok (.aload_n 0, 1) := by decide +kernel
theorem dX2_write_8 : decode cX2_write 8 = .ok (.invokevirtual 32, 3) := by decide +kernel
theorem dX2_write_11 : decode cX2_write 11 = .ok (.goto 12, 3) := by decide +kernel
theorem dX2_write_14 : decode cX2_write 14 = .ok (.aload_n 0, 1) := by decide +kernel
theorem dX2_write_15 : decode cX2_write 15 = .ok (.getfield 9, 3) := by decide +kernel
theorem dX2_write_18 : decode cX2_write 18 = .ok (.iload_n 1, 1) := by decide +kernel
theorem dX2_write_19 : decode cX2_write 19 = .ok (.aload_n 2, 1) := by decide +kernel
theorem dX2_write_20 : decode cX2_write 20 = .ok (.invokevirtual 49, 3) := by decide +kernel
theorem dX2_write_23 : decode cX2_write 23 = .ok (.ireturn, 1) := by decide +kernel
theorem dX2_asCell_0 : decode cX2_asCell 0 = .ok (.aload_n 0, 1) := by decide +kernel
theorem dX2_asCell_1 : decode cX2_asCell 1 = .ok (.getfield 9, 3) := by decide +kernel
theorem dX2_asCell_4 : decode cX2_asCell 4 = .ok (.ifnull 35, 3) := by decide +kernel
theorem dX2_asCell_7 : decode cX2_asCell 7 = .ok (.aload_n 0, 1) := by decide +kernel
theorem dX2_asCell_8 : decode cX2_asCell 8 = .ok (.getfield 9, 3) := by decide +kernel
theorem dX2_asCell_11 : decode cX2_asCell 11 = .ok (.getfield 36, 3) := by decide +kernel
theorem dX2_asCell_14 : decode cX2_asCell 14 = .ok (.iconst 4, 1) := by decide +kernel
theorem dX2_asCell_15 : decode cX2_asCell 15 = .ok (.if_icmp .ne 24, 3) := by decide +kernel
theorem dX2_asCell_18 : decode cX2_asCell 18 = .ok (.aload_n 1, 1) := by decide +kernel
theorem dX2_asCell_19 : decode cX2_asCell 19 = .ok (.bipush 10, 2) := by decide +kernel
theorem dX2_asCell_21 : decode cX2_asCell 21 = .ok (.aload_n 0, 1) := by decide +kernel
theorem dX2_asCell_22 : decode cX2_asCell 22 = .ok (.getfield 9, 3) := by decide +kernel
theorem dX2_asCell_25 : decode cX2_asCell 25 = .ok (.getfield 52, 3) := by decide +kernel
theorem dX2_asCell_28 : decode cX2_asCell 28 = .ok (.i2l, 1) := by decide +kernel
theorem dX2_asCell_29 : decode cX2_asCell 29 = .ok (.aload_n 0, 1) := by decide +kernel
theorem dX2_asCell_30 : decode cX2_asCell 30 = .ok (.getfield 9, 3) := by decide +kernel
theorem dX2_asCell_33 : decode cX2_asCell 33 = .ok (.invokevirtual 55, 3) := by decide +kernel
theorem dX2_asCell_36 : decode cX2_asCell 36 = .ok (.goto 29, 3) := by decide +kernel
theorem dX2_asCell_39 : decode cX2_asCell 39 = .ok (.aload_n 0, 1) := by decide +kernel
theorem dX2_asCell_40 : decode cX2_asCell 40 = .ok (.invokevirtual 61, 3) := by decide +kernel
theorem dX2_asCell_43 : decode cX2_asCell 43 = .ok (.ifCond .ne 14, 3) := by decide +kernel
theorem dX2_asCell_46 : decode cX2_asCell 46 = .ok (.aload_n 1, 1) := by decide +kernel
theorem dX2_asCell_47 : decode cX2_asCell 47 = .ok (.bipush 11, 2) := by decide +kernel
theorem dX2_asCell_49 : decode cX2_asCell 49 = .ok (.lconst 0, 1) := by decide +kernel
theorem dX2_asCell_50 : decode cX2_asCell 50 = .ok (.aconst_null, 1) := by decide +kernel
theorem dX2_asCell_51 : decode cX2_asCell 51 = .ok (.invokevirtual 55, 3) := by decide +kernel
theorem dX2_asCell_54 : decode cX2_asCell 54 = .ok (.goto 11, 3) := by decide +kernel
theorem dX2_asCell_57 : decode cX2_asCell 57 = .ok (.aload_n 1, 1) := by decide +kernel
theorem dX2_asCell_58 : decode cX2_asCell 58 = .ok (.bipush 12, 2) := by decide +kernel
theorem dX2_asCell_60 : decode cX2_asCell 60 = .ok (.lconst 0, 1) := by decide +kernel
theorem dX2_asCell_61 : decode cX2_asCell 61 = .ok (.aconst_null, 1) := by decide +kernel
theorem dX2_asCell_62 : decode cX2_asCell 62 = .ok (.invokevirtual 55, 3) := by decide +kernel
theorem dX2_asCell_65 : decode cX2_asCell 65 = .ok (.return_, 1) := by decide +kernel
theorem dX3_init_0 : decode cX3_init 0 = .ok (.aload_n 0, 1) := by decide +kernel
theorem dX3_init_1 : decode cX3_init 1 = .ok (.invokespecial 3, 3) := by decide +kernel
theorem dX3_init_4 : decode cX3_init 4 = .ok (.aload_n 0, 1) := by decide +kernel
theorem dX3_init_5 : decode cX3_init 5 = .ok (.iload_n 1, 1) := by decide +kernel
theorem dX3_init_6 : decode cX3_init 6 = .ok (.putfield 9, 3) := by decide +kernel
theorem dX3_init_9 : decode cX3_init 9 = .ok (.aload_n 0, 1) := by decide +kernel
theorem dX3_init_10 : decode cX3_init 10 = .ok (.iload_n 2, 1) := by decide +kernel
theorem dX3_init_11 : decode cX3_init 11 = .ok (.putfield 15, 3) := by decide +kernel
theorem dX3_init_14 : decode cX3_init 14 = .ok (.aload_n 0, 1) := by decide +kernel
theorem dX3_init_15 : decode cX3_init 15 = .ok (.iload_n 2, 1) := by decide +kernel
theorem dX3_init_16 : decode cX3_init 16 = .ok (.newarray .int, 2) := by decide +kernel
theorem dX3_init_18 : decode cX3_init 18 = .ok (.putfield 18, 3) := by decide +kernel
theorem dX3_init_21 : decode cX3_init 21 = .ok (.aload_n 0, 1) := by decide +kernel
theorem dX3_init_22 : decode cX3_init 22 = .ok (.iload_n 2, 1) := by decide +kernel
theorem dX3_init_23 : decode cX3_init 23 = .ok (.newarray .long, 2) := by decide +kernel
theorem dX3_init_25 : decode cX3_init 25 = .ok (.putfield 22, 3) := by decide +kernel
theorem dX3_init_28 : decode cX3_init 28 = .ok (.aload_n 0, 1) := by decide +kernel
theorem dX3_init_29 : decode cX3_init 29 = .ok (.iload_n 2, 1) := by decide +kernel
theorem dX3_init_30 : decode cX3_init 30 = .ok (.anewarray 10, 3) := by decide +kernel
theorem dX3_init_33 : decode cX3_init 33 = .ok (.putfield 26, 3) := by decide +kernel
theorem dX3_init_36 : decode cX3_init 36 = .ok (.iconst 0, 1) := by decide +kernel
theorem dX3_init_37 : decode cX3_init 37 = .ok (.istore_n 3, 1) := by decide +kernel
theorem dX3_init_38 : decode cX3_init 38 = .ok (.iload_n 3, 1) := by decide +kernel
theorem dX3_init_39 : decode cX3_init 39 = .ok (.iload_n 2, 1) := by decide +kernel
theorem dX3_init_40 : decode cX3_init 40 = .ok (.if_icmp .ge 28, 3) := by decide +kernel
theorem dX3_init_43 : decode cX3_init 43 = .ok (.aload_n 0, 1) := by decide +kernel
theorem dX3_init_44 : decode cX3_init 44 = .ok (.getfield 18, 3) := by decide +kernel
theorem dX3_init_47 : decode cX3_init 47 = .ok (.iload_n 3, 1) := by decide +kernel
theorem dX3_init_48 : decode cX3_init 48 = .ok (.iload_n 1, 1) := by decide +kernel
theorem dX3_init_49 : decode cX3_init 49 = .ok (.invokestatic 30, 3) := by decide +kernel
theorem dX3_init_52 : decode cX3_init 52 = .ok (.ifCond .eq 7, 3) := by decide +kernel
theorem dX3_init_55 : decode cX3_init 55 = .ok (.iload_n 1, 1) := by decide +kernel
theorem dX3_init_56 : decode cX3_init 56 = .ok (.goto 5, 3) := by decide +kernel
theorem dX3_init_59 : decode cX3_init 59 = .ok (.bipush 11, 2) := by decide +kernel
theorem dX3_init_61 : decode cX3_init 61 = .ok (.iastore, 1) := by decide +kernel
theorem dX3_init_62 : decode cX3_init 62 = .ok (.iinc 3 1, 3) := by decide +kernel
theorem dX3_init_65 : decode cX3_init 65 = .ok (.goto (-27), 3) := by decide +kernel
theorem dX3_init_68 : decode cX3_init 68 = .ok (.return_, 1) := by decide +kernel
theorem dX3_copyTo_0 : decode cX3_copyTo 0 = .ok (.iload_n 1, 1) := by decide +kernel
theorem dX3_copyTo_1 : decode cX3_copyTo 1 = .ok (.ifCond .lt 11, 3) := by decide +kernel
theorem dX3_copyTo_4 : decode cX3_copyTo 4 = .ok (.iload_n 1, 1) := by decide +kernel
theorem dX3_copyTo_5 : decode cX3_copyTo 5 = .ok (.aload_n 0, 1) := by decide +kernel
theorem dX3_copyTo_6 : decode cX3_copyTo 6 = .ok (.getfield 15, 3) := by decide +kernel
theorem dX3_copyTo_9 : decode cX3_copyTo 9 = .ok (.if_icmp .lt 5, 3) := by decide +kernel
theorem dX3_copyTo_12 : decode cX3_copyTo 12 = .ok (.iconst 3, 1) := by decide +kernel
theorem dX3_copyTo_13 : decode cX3_copyTo 13 = .ok (.ireturn, 1) := by decide +kernel
theorem dX3_copyTo_14 : decode cX3_copyTo 14 = .ok (.aload_n 2, 1) := by decide +kernel
theorem dX3_copyTo_15 : decode cX3_copyTo 15 = .ok (.aload_n 0, 1) := by decide +kernel
theorem dX3_copyTo_16 : decode cX3_copyTo 16 = .ok (.getfield 18, 3) := by decide +kernel
theorem dX3_copyTo_19 : decode cX3_copyTo 19 = .ok (.iload_n 1, 1) := by decide +kernel
theorem dX3_copyTo_20 : decode cX3_copyTo 20 = .ok (.iaload, 1) := by decide +kernel
theorem dX3_copyTo_21 : decode cX3_copyTo 21 = .ok (.aload_n 0, 1) := by decide +kernel
theorem dX3_copyTo_22 : decode cX3_copyTo 22 = .ok (.getfield 22, 3) := by decide +kernel
theorem dX3_copyTo_25 : decode cX3_copyTo 25 = .ok (.iload_n 1, 1) := by decide +kernel
theorem dX3_copyTo_26 : decode cX3_copyTo 26 = .ok (.laload, 1) := by decide +kernel
theorem dX3_copyTo_27 : decode cX3_copyTo 27 = .ok (.aload_n 0, 1) := by decide +kernel
theorem dX3_copyTo_28 : decode cX3_copyTo 28 = .ok (.getfield 26, 3) := by decide +kernel
theorem dX3_copyTo_31 : decode cX3_copyTo 31 = .ok (.iload_n 1, 1) := by decide +kernel
theorem dX3_copyTo_32 : decode cX3_copyTo 32 = .ok (.aaload, 1) := by decide +kernel
theorem dX3_copyTo_33 : decode cX3_copyTo 33 = .ok (.invokevirtual 34, 3) := by decide +kernel
theorem dX3_copyTo_36 : decode cX3_copyTo 36 = .ok (.iconst 0, 1) := by decide +kernel
theorem dX3_copyTo_37 : decode cX3_copyTo 37 = .ok (.ireturn, 1) := by decide +kernel
theorem dX3_accept_0 : decode cX3_accept 0 = .ok (.aload_n 2, 1) := by decide +kernel
theorem dX3_accept_1 : decode cX3_accept 1 = .ok (.getfield 40, 3) := by decide +kernel
theorem dX3_accept_4 : decode cX3_accept 4 = .ok (.bipush 11, 2) := by decide +kernel
theorem dX3_accept_6 : decode cX3_accept 6 = .ok (.if_icmp .ne 15, 3) := by decide +kernel
theorem dX3_accept_9 : decode cX3_accept 9 = .ok (.aload_n 0, 1) := by decide +kernel
theorem dX3_accept_10 : decode cX3_accept 10 = .ok (.getfield 9, 3) := by decide +kernel
theorem dX3_accept_13 : decode cX3_accept 13 = .ok (.invokestatic 30, 3) := by decide +kernel
theorem dX3_accept_16 : decode cX3_accept 16 = .ok (.ifCond .eq 5, 3) := by decide +kernel
theorem dX3_accept_19 : decode cX3_accept 19 = .ok (.iconst 2, 1) := by decide +kernel
theorem dX3_accept_20 : decode cX3_accept 20 = .ok (.ireturn, 1) := by decide +kernel
theorem dX3_accept_21 : decode cX3_accept 21 = .ok (.iload_n 1, 1) := by decide +kernel
theorem dX3_accept_22 : decode cX3_accept 22 = .ok (.ifCond .lt 11, 3) := by decide +kernel
theorem dX3_accept_25 : decode cX3_accept 25 = .ok (.iload_n 1, 1) := by decide +kernel
theorem dX3_accept_26 : decode cX3_accept 26 = .ok (.aload_n 0, 1) := by decide +kernel
theorem dX3_accept_27 : decode cX3_accept 27 = .ok (.getfield 15, 3) := by decide +kernel
theorem dX3_accept_30 : decode cX3_accept 30 = .ok (.if_icmp .lt 5, 3) := by decide +kernel
theorem dX3_accept_33 : decode cX3_accept 33 = .ok (.iconst 3, 1) := by decide +kernel
theorem dX3_accept_34 : decode cX3_accept 34 = .ok (.ireturn, 1) := by decide +kernel
theorem dX3_accept_35 : decode cX3_accept 35 = .ok (.aload_n 0, 1) := by decide +kernel
theorem dX3_accept_36 : decode cX3_accept 36 = .ok (.getfield 9, 3) := by decide +kernel
theorem dX3_accept_39 : decode cX3_accept 39 = .ok (.aload_n 2, 1) := by decide +kernel
theorem dX3_accept_40 : decode cX3_accept 40 = .ok (.getfield 40, 3) := by decide +kernel
theorem dX3_accept_43 : decode cX3_accept 43 = .ok (.invokestatic 41, 3) := by decide +kernel
theorem dX3_accept_46 : decode cX3_accept 46 = .ok (.ifCond .ne 5, 3) := by decide +kernel
theorem dX3_accept_49 : decode cX3_accept 49 = .ok (.iconst 2, 1) := by decide +kernel
theorem dX3_accept_50 : decode cX3_accept 50 = .ok (.ireturn, 1) := by decide +kernel
theorem dX3_accept_51 : decode cX3_accept 51 = .ok (.aload_n 0, 1) := by decide +kernel
theorem dX3_accept_52 : decode cX3_accept 52 = .ok (.getfield 18, 3) := by decide +kernel
theorem dX3_accept_55 : decode cX3_accept 55 = .ok (.iload_n 1, 1) := by decide +kernel
theorem dX3_accept_56 : decode cX3_accept 56 = .ok (.aload_n 0, 1) := by decide +kernel
theorem dX3_accept_57 : decode cX3_accept 57 = .ok (.getfield 9, 3) := by decide +kernel
theorem dX3_accept_60 : decode cX3_accept 60 = .ok (.invokestatic 30, 3) := by decide +kernel
theorem dX3_accept_63 : decode cX3_accept 63 = .ok (.ifCond .eq 10, 3) := by decide +kernel
theorem dX3_accept_66 : decode cX3_accept 66 = .ok (.aload_n 0, 1) := by decide +kernel
theorem dX3_accept_67 : decode cX3_accept 67 = .ok (.getfield 9, 3) := by decide +kernel
theorem dX3_accept_70 : decode cX3_accept 70 = .ok (.goto 7, 3) := by decide +kernel
theorem dX3_accept_73 : decode cX3_accept 73 = .ok (.aload_n 2, 1) := by decide +kernel
theorem dX3_accept_74 : decode cX3_accept 74 = .ok (.getfield 40, 3) := by decide +kernel
theorem dX3_accept_77 : decode cX3_accept 77 = .ok (.iastore, 1) := by decide +kernel
theorem dX3_accept_78 : decode cX3_accept 78 = .ok (.aload_n 0, 1) := by decide +kernel
theorem dX3_accept_79 : decode cX3_accept 79 = .ok (.getfield 22, 3) := by decide +kernel
theorem dX3_accept_82 : decode cX3_accept 82 = .ok (.iload_n 1, 1) := by decide +kernel
theorem dX3_accept_83 : decode cX3_accept 83 = .ok (.aload_n 0, 1) := by decide +kernel
theorem dX3_accept_84 : decode cX3_accept 84 = .ok (.getfield 9, 3) := by decide +kernel
theorem dX3_accept_87 : decode cX3_accept 87 = .ok (.aload_n 2, 1) := by decide +kernel
theorem dX3_accept_88 : decode cX3_accept 88 = .ok (.getfield 45, 3) := by decide +kernel
theorem dX3_accept_91 : decode cX3_accept 91 = .ok (.invokestatic 49, 3) := by decide +kernel
theorem dX3_accept_94 : decode cX3_accept 94 = .ok (.lastore, 1) := by decide +kernel
theorem dX3_accept_95 : decode cX3_accept 95 = .ok (.aload_n 0, 1) := by decide +kernel
theorem dX3_accept_96 : decode cX3_accept 96 = .ok (.getfield 26, 3) := by decide +kernel
theorem dX3_accept_99 : decode cX3_accept 99 = .ok (.iload_n 1, 1) := by decide +kernel
theorem dX3_accept_100 : decode cX3_accept 100 = .ok (.aload_n 2, 1) := by decide +kernel
theorem dX3_accept_101 : decode cX3_accept 101 = .ok (.getfield 53, 3) := by decide +kernel
theorem dX3_accept_104 : decode cX3_accept 104 = .ok (.aastore, 1) := by decide +kernel
theorem dX3_accept_105 : decode cX3_accept 105 = .ok (.iconst 0, 1) := by decide +kernel
theorem dX3_accept_106 : decode cX3_accept 106 = .ok (.ireturn, 1) := by decide +kernel
theorem dX4_init_0 : decode cX4_init 0 = .ok (.aload_n 0, 1) := by decide +kernel
theorem dX4_init_1 : decode cX4_init 1 = .ok (.invokespecial 1, 3) := by decide +kernel
theorem dX4_init_4 : decode cX4_init 4 = .ok (.aload_n 0, 1) := by decide +kernel
theorem dX4_init_5 : decode cX4_init 5 = .ok (.bipush 16, 2) := by decide +kernel
theorem dX4_init_7 : decode cX4_init 7 = .ok (.anewarray 9, 3) := by decide +kernel
theorem dX4_init_10 : decode cX4_init 10 = .ok (.putfield 11, 3) := by decide +kernel
theorem dX4_init_13 : decode cX4_init 13 = .ok (.aload_n 0, 1) := by decide +kernel
theorem dX4_init_14 : decode cX4_init 14 = .ok (.bipush 24, 2) := by decide +kernel
theorem dX4_init_16 : decode cX4_init 16 = .ok (.anewarray 15, 3) := by decide +kernel
theorem dX4_init_19 : decode cX4_init 19 = .ok (.putfield 17, 3) := by decide +kernel
theorem dX4_init_22 : decode cX4_init 22 = .ok (.aload_n 0, 1) := by decide +kernel
theorem dX4_init_23 : decode cX4_init 23 = .ok (.iconst 0, 1) := by decide +kernel
theorem dX4_init_24 : decode cX4_init 24 = .ok (.putfield 21, 3) := by decide +kernel
theorem dX4_init_27 : decode cX4_init 27 = .ok (.aload_n 0, 1) := by decide +kernel
theorem dX4_init_28 : decode cX4_init 28 = .ok (.iconst 0, 1) := by decide +kernel
theorem dX4_init_29 : decode cX4_init 29 = .ok (.putfield 25, 3) := by decide +kernel
theorem dX4_init_32 : decode cX4_init 32 = .ok (.aload_n 0, 1) := by decide +kernel
theorem dX4_init_33 : decode cX4_init 33 = .ok (.iconst 0, 1) := by decide +kernel
theorem dX4_init_34 : decode cX4_init 34 = .ok (.putfield 28, 3) := by decide +kernel
theorem dX4_init_37 : decode cX4_init 37 = .ok (.aload_n 0, 1) := by decide +kernel
theorem dX4_init_38 : decode cX4_init 38 = .ok (.bipush 20, 2) := by decide +kernel
theorem dX4_init_40 : decode cX4_init 40 = .ok (.iconst 3, 1) := by decide +kernel
theorem dX4_init_41 : decode cX4_init 41 = .ok (.multianewarray 31 2, 4) := by decide +kernel
theorem dX4_init_45 : decode cX4_init 45 = .ok (.putfield 33, 3) := by decide +kernel
theorem dX4_init_48 : decode cX4_init 48 = .ok (.aload_n 0, 1) := by decide +kernel
theorem dX4_init_49 : decode cX4_init 49 = .ok (.iconst 0, 1) := by decide +kernel
theorem dX4_init_50 : decode cX4_init 50 = .ok (.putfield 36, 3) := by decide +kernel
theorem dX4_init_53 : decode cX4_init 53 = .ok (.aload_n 0, 1) := by decide +kernel
theorem dX4_init_54 : decode cX4_init 54 = .ok (.bipush 6, 2) := by decide +kernel
theorem dX4_init_56 : decode cX4_init 56 = .ok (.newarray .int, 2) := by decide +kernel
theorem dX4_init_58 : decode cX4_init 58 = .ok (.putfield 39, 3) := by decide +kernel
theorem dX4_init_61 : decode cX4_init 61 = .ok (.aload_n 0, 1) := by decide +kernel
theorem dX4_init_62 : decode cX4_init 62 = .ok (.iconst 0, 1) := by decide +kernel
theorem dX4_init_63 : decode cX4_init 63 = .ok (.putfield 43, 3) := by decide +kernel
theorem dX4_init_66 : decode cX4_init 66 = .ok (.aload_n 0, 1) := by decide +kernel
theorem dX4_init_67 : decode cX4_init 67 = .ok (.new 46, 3) := by decide +kernel
theorem dX4_init_70 : decode cX4_init 70 = .ok (.dup, 1) := by decide +kernel
theorem dX4_init_71 : decode cX4_init 71 = .ok (.invokespecial 48, 3) := by decide +kernel
theorem dX4_init_74 : decode cX4_init 74 = .ok (.putfield 49, 3) := by decide +kernel
theorem dX4_init_77 : decode cX4_init 77 = .ok (.aload_n 0, 1) := by decide +kernel
theorem dX4_init_78 : decode cX4_init 78 = .ok (.new 46, 3) := by decide +kernel
theorem dX4_init_81 : decode cX4_init 81 = .ok (.dup, 1) := by decide +kernel
theorem dX4_init_82 : decode cX4_init 82 = .ok (.invokespecial 48, 3) := by decide +kernel
theorem dX4_init_85 : decode cX4_init 85 = .ok (.putfield 53, 3) := by decide +kernel
theorem dX4_init_88 : decode cX4_init 88 = .ok (.iconst 0, 1) := by decide +kernel
theorem dX4_init_89 : decode cX4_init 89 = .ok (.istore_n 1, 1) := by decide +kernel
theorem dX4_init_90 : decode cX4_init 90 = .ok (.iload_n 1, 1) := by decide +kernel
theorem dX4_init_91 : decode cX4_init 91 = .ok (.bipush 16, 2) := by decide +kernel
theorem dX4_init_93 : decode cX4_init 93 = .ok (.if_icmp .ge 23, 3) := by decide +kernel
theorem dX4_init_96 : decode cX4_init 96 = .ok (.aload_n 0, 1) := by decide +kernel
theorem dX4_init_97 : decode cX4_init 97 = .ok (.getfield 11, 3) := by decide +kernel
theorem dX4_init_100 : decode cX4_init 100 = .ok (.iload_n 1, 1) := by decide +kernel
theorem dX4_init_101 : decode cX4_init 101 = .ok (.new 9, 3) := by decide +kernel
theorem dX4_init_104 : decode cX4_init 104 = .ok (.dup, 1) := by decide +kernel
theorem dX4_init_105 : decode cX4_init 105 = .ok (.iload_n 1, 1) := by decide +kernel
theorem dX4_init_106 : decode cX4_init 106 = .ok (.invokespecial 56, 3) := by decide +kernel
theorem dX4_init_109 : decode cX4_init 109 = .ok (.aastore, 1) := by decide +kernel
theorem dX4_init_110 : decode cX4_init 110 = .ok (.iinc 1 1, 3) := by decide +kernel
theorem dX4_init_113 : decode cX4_init 113 = .ok (.goto (-23), 3) := by decide +kernel
theorem dX4_init_116 : decode cX4_init 116 = .ok (.return_, 1) := by decide +kernel
theorem dX4_tape_0 : decode cX4_tape 0 = .ok (.aload_n 0, 1) := by decide +kernel
theorem dX4_tape_1 : decode cX4_tape 1 = .ok (.iload_n 1, 1) := by decide +kernel
theorem dX4_tape_2 : decode cX4_tape 2 = .ok (.invokevirtual 59, 3) := by decide +kernel
theorem dX4_tape_5 : decode cX4_tape 5 = .ok (.astore 4, 2) := by decide +kernel
theorem dX4_tape_7 : decode cX4_tape 7 = .ok (.aload 4, 2) := by decide +kernel
theorem dX4_tape_9 : decode cX4_tape 9 = .ok (.ifnull 16, 3) := by decide +kernel
theorem dX4_tape_12 : decode cX4_tape 12 = .ok (.iload_n 2, 1) := by decide +kernel
theorem dX4_tape_13 : decode cX4_tape 13 = .ok (.invokestatic 63, 3) := by decide +kernel
theorem dX4_tape_16 : decode cX4_tape 16 = .ok (.ifCond .eq 9, 3) := by decide +kernel
theorem dX4_tape_19 : decode cX4_tape 19 = .ok (.iload_n 3, 1) := by decide +kernel
theorem dX4_tape_20 : decode cX4_tape 20 = .ok (.bipush 32, 2) := by decide +kernel
theorem dX4_tape_22 : decode cX4_tape 22 = .ok (.if_icmp .le 5, 3) := by decide +kernel
theorem dX4_tape_25 : decode cX4_tape 25 = .ok (.iconst (-1), 1) := by decide +kernel
theorem dX4_tape_26 : decode cX4_tape 26 = .ok (.ireturn, 1) := by decide +kernel
theorem dX4_tape_27 : decode cX4_tape 27 = .ok (.iload_n 3, 1) := by decide +kernel
theorem dX4_tape_28 : decode cX4_tape 28 = .ok (.ifCond .ge 10, 3) := by decide +kernel
theorem dX4_tape_31 : decode cX4_tape 31 = .ok (.aload_n 0, 1) := by decide +kernel
theorem dX4_tape_32 : decode cX4_tape 32 = .ok (.iconst 5, 1) := by decide +kernel
theorem dX4_tape_33 : decode cX4_tape 33 = .ok (.iconst 0, 1) := by decide +kernel
theorem dX4_tape_34 : decode cX4_tape 34 = .ok (.invokevirtual 67, 3) := by decide +kernel
theorem dX4_tape_37 : decode cX4_tape 37 = .ok (.ireturn, 1) := by decide +kernel
theorem dX4_tape_38 : decode cX4_tape 38 = .ok (.aload 4, 2) := by decide +kernel
theorem dX4_tape_40 : decode cX4_tape 40 = .ok (.new 71, 3) := by decide +kernel
theorem dX4_tape_43 : decode cX4_tape 43 = .ok (.dup, 1) := by decide +kernel
theorem dX4_tape_44 : decode cX4_tape 44 = .ok (.iload_n 2, 1) := by decide +kernel
theorem dX4_tape_45 : decode cX4_tape 45 = .ok (.iload_n 3, 1) := by decide +kernel
theorem dX4_tape_46 : decode cX4_tape 46 = .ok (.invokespecial 73, 3) := by decide +kernel
theorem dX4_tape_49 : decode cX4_tape 49 = .ok (.iconst 0, 1) := by decide +kernel
theorem dX4_tape_50 : decode cX4_tape 50 = .ok (.invokevirtual 76, 3) := by decide +kernel
theorem dX4_tape_53 : decode cX4_tape 53 = .ok (.aload_n 0, 1) := by decide +kernel
theorem dX4_tape_54 : decode cX4_tape 54 = .ok (.iconst 0, 1) := by decide +kernel
theorem dX4_tape_55 : decode cX4_tape 55 = .ok (.iload_n 3, 1) := by decide +kernel
theorem dX4_tape_56 : decode cX4_tape 56 = .ok (.invokevirtual 67, 3) := by decide +kernel
theorem dX4_tape_59 : decode cX4_tape 59 = .ok (.ireturn, 1) := by decide +kernel
theorem dX4_plug_0 : decode cX4_plug 0 = .ok (.aload_n 0, 1) := by decide +kernel
theorem dX4_plug_1 : decode cX4_plug 1 = .ok (.iload_n 1, 1) := by decide +kernel
theorem dX4_plug_2 : decode cX4_plug 2 = .ok (.invokevirtual 59, 3) := by decide +kernel
theorem dX4_plug_5 : decode cX4_plug 5 = .ok (.astore_n 2, 1) := by decide +kernel
theorem dX4_plug_6 : decode cX4_plug 6 = .ok (.aload_n 2, 1) := by decide +kernel
theorem dX4_plug_7 : decode cX4_plug 7 = .ok (.ifnonnull 5, 3) := by decide +kernel
theorem dX4_plug_10 : decode cX4_plug 10 = .ok (.iconst (-1), 1) := by decide +kernel
theorem dX4_plug_11 : decode cX4_plug 11 = .ok (.ireturn, 1) := by decide +kernel
theorem dX4_plug_12 : decode cX4_plug 12 = .ok (.aload_n 2, 1) := by decide +kernel
theorem dX4_plug_13 : decode cX4_plug 13 = .ok (.invokevirtual 80, 3) := by decide +kernel
theorem dX4_plug_16 : decode cX4_plug 16 = .ok (.istore_n 3, 1) := by decide +kernel
theorem dX4_plug_17 : decode cX4_plug 17 = .ok (.aload_n 2, 1) := by decide +kernel
theorem dX4_plug_18 : decode cX4_plug 18 = .ok (.aconst_null, 1) := by decide +kernel
theorem dX4_plug_19 : decode cX4_plug 19 = .ok (.iconst 1, 1) := by decide +kernel
theorem dX4_plug_20 : decode cX4_plug 20 = .ok (.invokevirtual 76, 3) := by decide +kernel
theorem dX4_plug_23 : decode cX4_plug 23 = .ok (.iload_n 3, 1) := by decide +kernel
theorem dX4_plug_24 : decode cX4_plug 24 = .ok (.ireturn, 1) := by decide +kernel
theorem dX4_strip_0 : decode cX4_strip 0 = .ok (.aload_n 0, 1) := by decide +kernel
theorem dX4_strip_1 : decode cX4_strip 1 = .ok (.iload_n 1, 1) := by decide +kernel
theorem dX4_strip_2 : decode cX4_strip 2 = .ok (.invokevirtual 59, 3) := by decide +kernel
theorem dX4_strip_5 : decode cX4_strip 5 = .ok (.astore_n 2, 1) := by decide +kernel
theorem dX4_strip_6 : decode cX4_strip 6 = .ok (.aload_n 2, 1) := by decide +kernel
theorem dX4_strip_7 : decode cX4_strip 7 = .ok (.ifnonnull 5, 3) := by decide +kernel
theorem dX4_strip_10 : decode cX4_strip 10 = .ok (.iconst (-1), 1) := by decide +kernel
theorem dX4_strip_11 : decode cX4_strip 11 = .ok (.ireturn, 1) := by decide +kernel
theorem dX4_strip_12 : decode cX4_strip 12 = .ok (.aload_n 2, 1) := by decide +kernel
theorem dX4_strip_13 : decode cX4_strip 13 = .ok (.invokevirtual 80, 3) := by decide +kernel
theorem dX4_strip_16 : decode cX4_strip 16 = .ok (.istore_n 3, 1) := by decide +kernel
theorem dX4_strip_17 : decode cX4_strip 17 = .ok (.aload_n 2, 1) := by decide +kernel
theorem dX4_strip_18 : decode cX4_strip 18 = .ok (.aconst_null, 1) := by decide +kernel
theorem dX4_strip_19 : decode cX4_strip 19 = .ok (.iconst 0, 1) := by decide +kernel
theorem dX4_strip_20 : decode cX4_strip 20 = .ok (.invokevirtual 76, 3) := by decide +kernel
theorem dX4_strip_23 : decode cX4_strip 23 = .ok (.iload_n 3, 1) := by decide +kernel
theorem dX4_strip_24 : decode cX4_strip 24 = .ok (.ireturn, 1) := by decide +kernel
theorem dX4_share_0 : decode cX4_share 0 = .ok (.aload_n 0, 1) := by decide +kernel
theorem dX4_share_1 : decode cX4_share 1 = .ok (.iload_n 1, 1) := by decide +kernel
theorem dX4_share_2 : decode cX4_share 2 = .ok (.invokevirtual 59, 3) := by decide +kernel
theorem dX4_share_5 : decode cX4_share 5 = .ok (.astore_n 3, 1) := by decide +kernel
theorem dX4_share_6 : decode cX4_share 6 = .ok (.aload_n 0, 1) := by decide +kernel
theorem dX4_share_7 : decode cX4_share 7 = .ok (.iload_n 2, 1) := by decide +kernel
theorem dX4_share_8 : decode cX4_share 8 = .ok (.invokevirtual 59, 3) := by decide +kernel
theorem dX4_share_11 : decode cX4_share 11 = .ok (.astore 4, 2) := by decide +kernel
theorem dX4_share_13 : decode cX4_share 13 = .ok (.aload_n 3, 1) := by decide +kernel
theorem dX4_share_14 : decode cX4_share 14 = .ok (.ifnull 8, 3) := by decide +kernel
theorem dX4_share_17 : decode cX4_share 17 = .ok (.aload 4, 2) := by decide +kernel
theorem dX4_share_19 : decode cX4_share 19 = .ok (.ifnonnull 5, 3) := by decide +kernel
theorem dX4_share_22 : decode cX4_share 22 = .ok (.iconst (-1), 1) := by decide +kernel
theorem dX4_share_23 : decode cX4_share 23 = .ok (.ireturn, 1) := by decide +kernel
theorem dX4_share_24 : decode cX4_share 24 = .ok (.aload_n 3, 1) := by decide +kernel
theorem dX4_share_25 : decode cX4_share 25 = .ok (.aload 4, 2) := by decide +kernel
theorem dX4_share_27 : decode cX4_share 27 = .ok (.getfield 84, 3) := by decide +kernel
theorem dX4_share_30 : decode cX4_share 30 = .ok (.aload 4, 2) := by decide +kernel
theorem dX4_share_32 : decode cX4_share 32 = .ok (.getfield 88, 3) := by decide +kernel
theorem dX4_share_35 : decode cX4_share 35 = .ok (.invokevirtual 76, 3) := by decide +kernel
theorem dX4_share_38 : decode cX4_share 38 = .ok (.aload_n 3, 1) := by decide +kernel
theorem dX4_share_39 : decode cX4_share 39 = .ok (.invokevirtual 80, 3) := by decide +kernel
theorem dX4_share_42 : decode cX4_share 42 = .ok (.ireturn, 1) := by decide +kernel
theorem dX4_head_0 : decode cX4_head 0 = .ok (.aload_n 0, 1) := by decide +kernel
theorem dX4_head_1 : decode cX4_head 1 = .ok (.iload_n 1, 1) := by decide +kernel
theorem dX4_head_2 : decode cX4_head 2 = .ok (.invokevirtual 59, 3) := by decide +kernel
theorem dX4_head_5 : decode cX4_head 5 = .ok (.astore_n 3, 1) := by decide +kernel
theorem dX4_head_6 : decode cX4_head 6 = .ok (.aload_n 3, 1) := by decide +kernel
theorem dX4_head_7 : decode cX4_head 7 = .ok (.ifnonnull 5, 3) := by decide +kernel
theorem dX4_head_10 : decode cX4_head 10 = .ok (.iconst (-1), 1) := by decide +kernel
theorem dX4_head_11 : decode cX4_head 11 = .ok (.ireturn, 1) := by decide +kernel
theorem dX4_head_12 : decode cX4_head 12 = .ok (.aload_n 3, 1) := by decide +kernel
theorem dX4_head_13 : decode cX4_head 13 = .ok (.iload_n 2, 1) := by decide +kernel
theorem dX4_head_14 : decode cX4_head 14 = .ok (.putfield 92, 3) := by decide +kernel
theorem dX4_head_17 : decode cX4_head 17 = .ok (.iconst 1, 1) := by decide +kernel
theorem dX4_head_18 : decode cX4_head 18 = .ok (.ireturn, 1) := by decide +kernel
theorem dX4_step_0 : decode cX4_step 0 = .ok (.aload_n 0, 1) := by decide +kernel
theorem dX4_step_1 : decode cX4_step 1 = .ok (.iload_n 1, 1) := by decide +kernel
theorem dX4_step_2 : decode cX4_step 2 = .ok (.invokevirtual 59, 3) := by decide +kernel
theorem dX4_step_5 : decode cX4_step 5 = .ok (.astore_n 3, 1) := by decide +kernel
theorem dX4_step_6 : decode cX4_step 6 = .ok (.aload_n 3, 1) := by decide +kernel
theorem dX4_step_7 : decode cX4_step 7 = .ok (.ifnull 14, 3) := by decide +kernel
theorem dX4_step_10 : decode cX4_step 10 = .ok (.iload_n 2, 1) := by decide +kernel
theorem dX4_step_11 : decode cX4_step 11 = .ok (.bipush (-3), 2) := by decide +kernel
theorem dX4_step_13 : decode cX4_step 13 = .ok (.if_icmp .lt 8, 3) := by decide +kernel
theorem dX4_step_16 : decode cX4_step 16 = .ok (.iload_n 2, 1) := by decide +kernel
theorem dX4_step_17 : decode cX4_step 17 = .ok (.iconst 3, 1) := by decide +kernel
theorem dX4_step_18 : decode cX4_step 18 = .ok (.if_icmp .le 5, 3) := by decide +kernel
theorem dX4_step_21 : decode cX4_step 21 = .ok (.iconst (-1), 1) := by decide +kernel
theorem dX4_step_22 : decode cX4_step 22 = .ok (.ireturn, 1) := by decide +kernel
theorem dX4_step_23 : decode cX4_step 23 = .ok (.aload_n 3, 1) := by decide +kernel
theorem dX4_step_24 : decode cX4_step 24 = .ok (.getfield 95, 3) := by decide +kernel
theorem dX4_step_27 : decode cX4_step 27 = .ok (.istore 4, 2) := by decide +kernel
theorem dX4_step_29 : decode cX4_step 29 = .ok (.aload_n 3, 1) := by decide +kernel
theorem dX4_step_30 : decode cX4_step 30 = .ok (.iload_n 2, 1) := by decide +kernel
theorem dX4_step_31 : decode cX4_step 31 = .ok (.putfield 95, 3) := by decide +kernel
theorem dX4_step_34 : decode cX4_step 34 = .ok (.iload 4, 2) := by decide +kernel
theorem dX4_step_36 : decode cX4_step 36 = .ok (.iconst 3, 1) := by decide +kernel
theorem dX4_step_37 : decode cX4_step 37 = .ok (.iadd, 1) := by decide +kernel
theorem dX4_step_38 : decode cX4_step 38 = .ok (.ireturn, 1) := by decide +kernel
theorem dX4_loop_0 : decode cX4_loop 0 = .ok (.aload_n 0, 1) := by decide +kernel
theorem dX4_loop_1 : decode cX4_loop 1 = .ok (.iload_n 1, 1) := by decide +kernel
theorem dX4_loop_2 : decode cX4_loop 2 = .ok (.invokevirtual 59, 3) := by decide +kernel
theorem dX4_loop_5 : decode cX4_loop 5 = .ok (.astore_n 3, 1) := by decide +kernel
theorem dX4_loop_6 : decode cX4_loop 6 = .ok (.aload_n 3, 1) := by decide +kernel
theorem dX4_loop_7 : decode cX4_loop 7 = .ok (.ifnonnull 5, 3) := by decide +kernel
theorem dX4_loop_10 : decode cX4_loop 10 = .ok (.iconst (-1), 1) := by decide +kernel
theorem dX4_loop_11 : decode cX4_loop 11 = .ok (.ireturn, 1) := by decide +kernel
theorem dX4_loop_12 : decode cX4_loop 12 = .ok (.aload_n 3, 1) := by decide +kernel
theorem dX4_loop_13 : decode cX4_loop 13 = .ok (.getfield 98, 3) := by decide +kernel
theorem dX4_loop_16 : decode cX4_loop 16 = .ok (.istore 4, 2) := by decide +kernel
theorem dX4_loop_18 : decode cX4_loop 18 = .ok (.aload_n 3, 1) := by decide +kernel
theorem dX4_loop_19 : decode cX4_loop 19 = .ok (.iload_n 2, 1) := by decide +kernel
theorem dX4_loop_20 : decode cX4_loop 20 = .ok (.putfield 98, 3) := by decide +kernel
theorem dX4_loop_23 : decode cX4_loop 23 = .ok (.iload 4, 2) := by decide +kernel
theorem dX4_loop_25 : decode cX4_loop 25 = .ok (.ifCond .eq 7, 3) := by decide +kernel
theorem dX4_loop_28 : decode cX4_loop 28 = .ok (.iconst 1, 1) := by decide +kernel
theorem dX4_loop_29 : decode cX4_loop 29 = .ok (.goto 4, 3) := by decide +kernel
theorem dX4_loop_32 : decode cX4_loop 32 = .ok (.iconst 0, 1) := by decide +kernel
theorem dX4_loop_33 : decode cX4_loop 33 = .ok (.ireturn, 1) := by decide +kernel
theorem dX4_stamp_0 : decode cX4_stamp 0 = .ok (.aload_n 0, 1) := by decide +kernel
theorem dX4_stamp_1 : decode cX4_stamp 1 = .ok (.iload_n 1, 1) := by decide +kernel
theorem dX4_stamp_2 : decode cX4_stamp 2 = .ok (.invokevirtual 59, 3) := by decide +kernel
theorem dX4_stamp_5 : decode cX4_stamp 5 = .ok (.astore 6, 2) := by decide +kernel
theorem dX4_stamp_7 : decode cX4_stamp 7 = .ok (.aload 6, 2) := by decide +kernel
theorem dX4_stamp_9 : decode cX4_stamp 9 = .ok (.ifnull 10, 3) := by decide +kernel
theorem dX4_stamp_12 : decode cX4_stamp 12 = .ok (.iload_n 3, 1) := by decide +kernel
theorem dX4_stamp_13 : decode cX4_stamp 13 = .ok (.invokestatic 101, 3) := by decide +kernel
theorem dX4_stamp_16 : decode cX4_stamp 16 = .ok (.ifCond .ne 5, 3) := by decide +kernel
theorem dX4_stamp_19 : decode cX4_stamp 19 = .ok (.iconst (-1), 1) := by decide +kernel
theorem dX4_stamp_20 : decode cX4_stamp 20 = .ok (.ireturn, 1) := by decide +kernel
theorem dX4_stamp_21 : decode cX4_stamp 21 = .ok (.aload 6, 2) := by decide +kernel
theorem dX4_stamp_23 : decode cX4_stamp 23 = .ok (.invokevirtual 104, 3) := by decide +kernel
theorem dX4_stamp_26 : decode cX4_stamp 26 = .ok (.istore 7, 2) := by decide +kernel
theorem dX4_stamp_28 : decode cX4_stamp 28 = .ok (.iload 7, 2) := by decide +kernel
theorem dX4_stamp_30 : decode cX4_stamp 30 = .ok (.ifCond .ne 30, 3) := by decide +kernel
theorem dX4_stamp_33 : decode cX4_stamp 33 = .ok (.aload_n 0, 1) := by decide +kernel
theorem dX4_stamp_34 : decode cX4_stamp 34 = .ok (.getfield 49, 3) := by decide +kernel
theorem dX4_stamp_37 : decode cX4_stamp 37 = .ok (.iload_n 3, 1) := by decide +kernel
theorem dX4_stamp_38 : decode cX4_stamp 38 = .ok (.iload_n 3, 1) := by decide +kernel
theorem dX4_stamp_39 : decode cX4_stamp 39 = .ok (.lload 4, 2) := by decide +kernel
theorem dX4_stamp_41 : decode cX4_stamp 41 = .ok (.invokestatic 107, 3) := by decide +kernel
theorem dX4_stamp_44 : decode cX4_stamp 44 = .ok (.aconst_null, 1) := by decide +kernel
theorem dX4_stamp_45 : decode cX4_stamp 45 = .ok (.invokevirtual 111, 3) := by decide +kernel
theorem dX4_stamp_48 : decode cX4_stamp 48 = .ok (.aload 6, 2) := by decide +kernel
theorem dX4_stamp_50 : decode cX4_stamp 50 = .ok (.iload_n 2, 1) := by decide +kernel
theorem dX4_stamp_51 : decode cX4_stamp 51 = .ok (.aload_n 0, 1) := by decide +kernel
theorem dX4_stamp_52 : decode cX4_stamp 52 = .ok (.getfield 49, 3) := by decide +kernel
theorem dX4_stamp_55 : decode cX4_stamp 55 = .ok (.invokevirtual 115, 3) := by decide +kernel
theorem dX4_stamp_58 : decode cX4_stamp 58 = .ok (.istore 7, 2) := by decide +kernel
theorem dX4_stamp_60 : decode cX4_stamp 60 = .ok (.aload_n 0, 1) := by decide +kernel
theorem dX4_stamp_61 : decode cX4_stamp 61 = .ok (.iload 7, 2) := by decide +kernel
theorem dX4_stamp_63 : decode cX4_stamp 63 = .ok (.iconst 1, 1) := by decide +kernel
theorem dX4_stamp_64 : decode cX4_stamp 64 = .ok (.invokevirtual 67, 3) := by decide +kernel
theorem dX4_stamp_67 : decode cX4_stamp 67 = .ok (.ireturn, 1) := by decide +kernel
theorem dX4_probe_0 : decode cX4_probe 0 = .ok (.aload_n 0, 1) := by decide +kernel
theorem dX4_probe_1 : decode cX4_probe 1 = .ok (.iload_n 1, 1) := by decide +kernel
theorem dX4_probe_2 : decode cX4_probe 2 = .ok (.invokevirtual 59, 3) := by decide +kernel
theorem dX4_probe_5 : decode cX4_probe 5 = .ok (.astore 4, 2) := by decide +kernel
theorem dX4_probe_7 : decode cX4_probe 7 = .ok (.aload 4, 2) := by decide +kernel
theorem dX4_probe_9 : decode cX4_probe 9 = .ok (.ifnull 10, 3) := by decide +kernel
theorem dX4_probe_12 : decode cX4_probe 12 = .ok (.iload_n 3, 1) := by decide +kernel
theorem dX4_probe_13 : decode cX4_probe 13 = .ok (.invokestatic 101, 3) := by decide +kernel
theorem dX4_probe_16 : decode cX4_probe 16 = .ok (.ifCond .ne 5, 3) := by decide +kernel
theorem dX4_probe_19 : decode cX4_probe 19 = .ok (.lconst 0, 1) := by decide +kernel
theorem dX4_probe_20 : decode cX4_probe 20 = .ok (.lreturn, 1) := by decide +kernel
theorem dX4_probe_21 : decode cX4_probe 21 = .ok (.aload 4, 2) := by decide +kernel
theorem dX4_probe_23 : decode cX4_probe 23 = .ok (.invokevirtual 104, 3) := by decide +kernel
theorem dX4_probe_26 : decode cX4_probe 26 = .ok (.istore 5, 2) := by decide +kernel
theorem dX4_probe_28 : decode cX4_probe 28 = .ok (.iload 5, 2) := by decide +kernel
theorem dX4_probe_30 : decode cX4_probe 30 = .ok (.ifCond .ne 15, 3) := by decide +kernel
theorem dX4_probe_33 : decode cX4_probe 33 = .ok (.aload 4, 2) := by decide +kernel
theorem dX4_probe_35 : decode cX4_probe 35 = .ok (.iload_n 2, 1) := by decide +kernel
theorem dX4_probe_36 : decode cX4_probe 36 = .ok (.aload_n 0, 1) := by decide +kernel
theorem dX4_probe_37 : decode cX4_probe 37 = .ok (.getfield 49, 3) := by decide +kernel
theorem dX4_probe_40 : decode cX4_probe 40 = .ok (.invokevirtual 119, 3) := by decide +kernel
theorem dX4_probe_43 : decode cX4_probe 43 = .ok (.istore 5, 2) := by decide +kernel
theorem dX4_probe_45 : decode cX4_probe 45 = .ok (.iload 5, 2) := by decide +kernel
theorem dX4_probe_47 : decode cX4_probe 47 = .ok (.ifCond .ne 20, 3) := by decide +kernel
theorem dX4_probe_50 : decode cX4_probe 50 = .ok (.iload_n 3, 1) := by decide +kernel
theorem dX4_probe_51 : decode cX4_probe 51 = .ok (.aload_n 0, 1) := by decide +kernel
theorem dX4_probe_52 : decode cX4_probe 52 = .ok (.getfield 49, 3) := by decide +kernel
theorem dX4_probe_55 : decode cX4_probe 55 = .ok (.getfield 122, 3) := by decide +kernel
theorem dX4_probe_58 : decode cX4_probe 58 = .ok (.invokestatic 125, 3) := by decide +kernel
theorem dX4_probe_61 : decode cX4_probe 61 = .ok (.ifCond .ne 6, 3) := by decide +kernel
theorem dX4_probe_64 : decode cX4_probe 64 = .ok (.iconst 2, 1) := by decide +kernel
theorem dX4_probe_65 : decode cX4_probe 65 = .ok (.istore 5, 2) := by decide +kernel
theorem dX4_probe_67 : decode cX4_probe 67 = .ok (.aload_n 0, 1) := by decide +kernel
theorem dX4_probe_68 : decode cX4_probe 68 = .ok (.iload 5, 2) := by decide +kernel
theorem dX4_probe_70 : decode cX4_probe 70 = .ok (.invokevirtual 129, 3) := by decide +kernel
theorem dX4_probe_73 : decode cX4_probe 73 = .ok (.iload 5, 2) := by decide +kernel
theorem dX4_probe_75 : decode cX4_probe 75 = .ok (.ifCond .ne 17, 3) := by decide +kernel
theorem dX4_probe_78 : decode cX4_probe 78 = .ok (.iload_n 3, 1) := by decide +kernel
theorem dX4_probe_79 : decode cX4_probe 79 = .ok (.aload_n 0, 1) := by decide +kernel
theorem dX4_probe_80 : decode cX4_probe 80 = .ok (.getfield 49, 3) := by decide +kernel
theorem dX4_probe_83 : decode cX4_probe 83 = .ok (.getfield 132, 3) := by decide +kernel
theorem dX4_probe_86 : decode cX4_probe 86 = .ok (.invokestatic 107, 3) := by decide +kernel
theorem dX4_probe_89 : decode cX4_probe 89 = .ok (.goto 4, 3) := by decide +kernel
theorem dX4_probe_92 : decode cX4_probe 92 = .ok (.lconst 0, 1) := by decide +kernel
theorem dX4_probe_93 : decode cX4_probe 93 = .ok (.lreturn, 1) := by decide +kernel
theorem dX4_tag_0 : decode cX4_tag 0 = .ok (.aload_n 0, 1) := by decide +kernel
theorem dX4_tag_1 : decode cX4_tag 1 = .ok (.iload_n 1, 1) := by decide +kernel
theorem dX4_tag_2 : decode cX4_tag 2 = .ok (.invokevirtual 59, 3) := by decide +kernel
theorem dX4_tag_5 : decode cX4_tag 5 = .ok (.astore 4, 2) := by decide +kernel
theorem dX4_tag_7 : decode cX4_tag 7 = .ok (.aload 4, 2) := by decide +kernel
theorem dX4_tag_9 : decode cX4_tag 9 = .ok (.ifnonnull 5, 3) := by decide +kernel
theorem dX4_tag_12 : decode cX4_tag 12 = .ok (.iconst (-1), 1) := by decide +kernel
theorem dX4_tag_13 : decode cX4_tag 13 = .ok (.ireturn, 1) := by decide +kernel
theorem dX4_tag_14 : decode cX4_tag 14 = .ok (.aload_n 0, 1) := by decide +kernel
theorem dX4_tag_15 : decode cX4_tag 15 = .ok (.getfield 25, 3) := by decide +kernel
theorem dX4_tag_18 : decode cX4_tag 18 = .ok (.sipush 200, 3) := by decide +kernel
theorem dX4_tag_21 : decode cX4_tag 21 = .ok (.if_icmp .lt 6, 3) := by decide +kernel
theorem dX4_tag_24 : decode cX4_tag 24 = .ok (.bipush (-2), 2) := by decide +kernel
theorem dX4_tag_26 : decode cX4_tag 26 = .ok (.ireturn, 1) := by decide +kernel
theorem dX4_tag_27 : decode cX4_tag 27 = .ok (.aload_n 0, 1) := by decide +kernel
theorem dX4_tag_28 : decode cX4_tag 28 = .ok (.dup, 1) := by decide +kernel
theorem dX4_tag_29 : decode cX4_tag 29 = .ok (.getfield 25, 3) := by decide +kernel
theorem dX4_tag_32 : decode cX4_tag 32 = .ok (.iconst 1, 1) := by decide +kernel
theorem dX4_tag_33 : decode cX4_tag 33 = .ok (.iadd, 1) := by decide +kernel
theorem dX4_tag_34 : decode cX4_tag 34 = .ok (.putfield 25, 3) := by decide +kernel
theorem dX4_tag_37 : decode cX4_tag 37 = .ok (.aload_n 0, 1) := by decide +kernel
theorem dX4_tag_38 : decode cX4_tag 38 = .ok (.getfield 49, 3) := by decide +kernel
theorem dX4_tag_41 : decode cX4_tag 41 = .ok (.iload_n 3, 1) := by decide +kernel
theorem dX4_tag_42 : decode cX4_tag 42 = .ok (.ifCond .eq 8, 3) := by decide +kernel
theorem dX4_tag_45 : decode cX4_tag 45 = .ok (.bipush 9, 2) := by decide +kernel
theorem dX4_tag_47 : decode cX4_tag 47 = .ok (.goto 5, 3) := by decide +kernel
theorem dX4_tag_50 : decode cX4_tag 50 = .ok (.bipush 8, 2) := by decide +kernel
theorem dX4_tag_52 : decode cX4_tag 52 = .ok (.aload_n 0, 1) := by decide +kernel
theorem dX4_tag_53 : decode cX4_tag 53 = .ok (.getfield 25, 3) := by decide +kernel
theorem dX4_tag_56 : decode cX4_tag 56 = .ok (.i2l, 1) := by decide +kernel
theorem dX4_tag_57 : decode cX4_tag 57 = .ok (.aconst_null, 1) := by decide +kernel
theorem dX4_tag_58 : decode cX4_tag 58 = .ok (.invokevirtual 111, 3) := by decide +kernel
theorem dX4_tag_61 : decode cX4_tag 61 = .ok (.aload_n 0, 1) := by decide +kernel
theorem dX4_tag_62 : decode cX4_tag 62 = .ok (.aload 4, 2) := by decide +kernel
theorem dX4_tag_64 : decode cX4_tag 64 = .ok (.iload_n 2, 1) := by decide +kernel
theorem dX4_tag_65 : decode cX4_tag 65 = .ok (.aload_n 0, 1) := by decide +kernel
theorem dX4_tag_66 : decode cX4_tag 66 = .ok (.getfield 49, 3) := by decide +kernel
theorem dX4_tag_69 : decode cX4_tag 69 = .ok (.invokevirtual 115, 3) := by decide +kernel
theorem dX4_tag_72 : decode cX4_tag 72 = .ok (.aload_n 0, 1) := by decide +kernel
theorem dX4_tag_73 : decode cX4_tag 73 = .ok (.getfield 25, 3) := by decide +kernel
theorem dX4_tag_76 : decode cX4_tag 76 = .ok (.invokevirtual 67, 3) := by decide +kernel
theorem dX4_tag_79 : decode cX4_tag 79 = .ok (.ireturn, 1) := by decide +kernel
theorem dX4_rack_0 : decode cX4_rack 0 = .ok (.aload_n 0, 1) := by decide +kernel
theorem dX4_rack_1 : decode cX4_rack 1 = .ok (.iload_n 1, 1) := by decide +kernel
theorem dX4_rack_2 : decode cX4_rack 2 = .ok (.invokevirtual 59, 3) := by decide +kernel
theorem dX4_rack_5 : decode cX4_rack 5 = .ok (.astore 4, 2) := by decide +kernel
theorem dX4_rack_7 : decode cX4_rack 7 = .ok (.aload_n 0, 1) := by decide +kernel
theorem dX4_rack_8 : decode cX4_rack 8 = .ok (.iload_n 3, 1) := by decide +kernel
theorem dX4_rack_9 : decode cX4_rack 9 = .ok (.invokevirtual 59, 3) := by decide +kernel
theorem dX4_rack_12 : decode cX4_rack 12 = .ok (.astore 5, 2) := by decide +kernel
theorem dX4_rack_14 : decode cX4_rack 14 = .ok (.aload 4, 2) := by decide +kernel
theorem dX4_rack_16 : decode cX4_rack 16 = .ok (.ifnull 8, 3) := by decide +kernel
theorem dX4_rack_19 : decode cX4_rack 19 = .ok (.aload 5, 2) := by decide +kernel
theorem dX4_rack_21 : decode cX4_rack 21 = .ok (.ifnonnull 5, 3) := by decide +kernel
theorem dX4_rack_24 : decode cX4_rack 24 = .ok (.iconst (-1), 1) := by decide +kernel
theorem dX4_rack_25 : decode cX4_rack 25 = .ok (.ireturn, 1) := by decide +kernel
theorem dX4_rack_26 : decode cX4_rack 26 = .ok (.aload 5, 2) := by decide +kernel
theorem dX4_rack_28 : decode cX4_rack 28 = .ok (.aload_n 0, 1) := by decide +kernel
theorem dX4_rack_29 : decode cX4_rack 29 = .ok (.getfield 49, 3) := by decide +kernel
theorem dX4_rack_32 : decode cX4_rack 32 = .ok (.invokevirtual 136, 3) := by decide +kernel
theorem dX4_rack_35 : decode cX4_rack 35 = .ok (.aload_n 0, 1) := by decide +kernel
theorem dX4_rack_36 : decode cX4_rack 36 = .ok (.aload 4, 2) := by decide +kernel
theorem dX4_rack_38 : decode cX4_rack 38 = .ok (.iload_n 2, 1) := by decide +kernel
theorem dX4_rack_39 : decode cX4_rack 39 = .ok (.aload_n 0, 1) := by decide +kernel
theorem dX4_rack_40 : decode cX4_rack 40 = .ok (.getfield 49, 3) := by decide +kernel
theorem dX4_rack_43 : decode cX4_rack 43 = .ok (.invokevirtual 115, 3) := by decide +kernel
theorem dX4_rack_46 : decode cX4_rack 46 = .ok (.iconst 1, 1) := by decide +kernel
theorem dX4_rack_47 : decode cX4_rack 47 = .ok (.invokevirtual 67, 3) := by decide +kernel
theorem dX4_rack_50 : decode cX4_rack 50 = .ok (.ireturn, 1) := by decide +kernel
theorem dX4_unrack_0 : decode cX4_unrack 0 = .ok (.aload_n 0, 1) := by decide +kernel
theorem dX4_unrack_1 : decode cX4_unrack 1 = .ok (.iload_n 1, 1) := by decide +kernel
theorem dX4_unrack_2 : decode cX4_unrack 2 = .ok (.invokevirtual 59, 3) := by decide +kernel
theorem dX4_unrack_5 : decode cX4_unrack 5 = .ok (.astore 4, 2) := by decide +kernel
theorem dX4_unrack_7 : decode cX4_unrack 7 = .ok (.aload_n 0, 1) := by decide +kernel
theorem dX4_unrack_8 : decode cX4_unrack 8 = .ok (.iload_n 3, 1) := by decide +kernel
theorem dX4_unrack_9 : decode cX4_unrack 9 = .ok (.invokevirtual 59, 3) := by decide +kernel
theorem dX4_unrack_12 : decode cX4_unrack 12 = .ok (.astore 5, 2) := by decide +kernel
theorem dX4_unrack_14 : decode cX4_unrack 14 = .ok (.aload 4, 2) := by decide +kernel
theorem dX4_unrack_16 : decode cX4_unrack 16 = .ok (.ifnull 8, 3) := by decide +kernel
theorem dX4_unrack_19 : decode cX4_unrack 19 = .ok (.aload 5, 2) := by decide +kernel
theorem dX4_unrack_21 : decode cX4_unrack 21 = .ok (.ifnonnull 5, 3) := by decide +kernel
theorem dX4_unrack_24 : decode cX4_unrack 24 = .ok (.iconst (-1), 1) := by decide +kernel
theorem dX4_unrack_25 : decode cX4_unrack 25 = .ok (.ireturn, 1) := by decide +kernel
theorem dX4_unrack_26 : decode cX4_unrack 26 = .ok (.aload 4, 2) := by decide +kernel
theorem dX4_unrack_28 : decode cX4_unrack 28 = .ok (.iload_n 2, 1) := by decide +kernel
theorem dX4_unrack_29 : decode cX4_unrack 29 = .ok (.aload_n 0, 1) := by decide +kernel
theorem dX4_unrack_30 : decode cX4_unrack 30 = .ok (.getfield 49, 3) := by decide +kernel
theorem dX4_unrack_33 : decode cX4_unrack 33 = .ok (.invokevirtual 119, 3) := by decide +kernel
theorem dX4_unrack_36 : decode cX4_unrack 36 = .ok (.istore 6, 2) := by decide +kernel
theorem dX4_unrack_38 : decode cX4_unrack 38 = .ok (.iload 6, 2) := by decide +kernel
theorem dX4_unrack_40 : decode cX4_unrack 40 = .ok (.ifCond .ne 30, 3) := by decide +kernel
theorem dX4_unrack_43 : decode cX4_unrack 43 = .ok (.aload_n 0, 1) := by decide +kernel
theorem dX4_unrack_44 : decode cX4_unrack 44 = .ok (.getfield 49, 3) := by decide +kernel
theorem dX4_unrack_47 : decode cX4_unrack 47 = .ok (.getfield 122, 3) := by decide +kernel
theorem dX4_unrack_50 : decode cX4_unrack 50 = .ok (.bipush 10, 2) := by decide +kernel
theorem dX4_unrack_52 : decode cX4_unrack 52 = .ok (.if_icmp .eq 18, 3) := by decide +kernel
theorem dX4_unrack_55 : decode cX4_unrack 55 = .ok (.aload_n 0, 1) := by decide +kernel
theorem dX4_unrack_56 : decode cX4_unrack 56 = .ok (.getfield 49, 3) := by decide +kernel
theorem dX4_unrack_59 : decode cX4_unrack 59 = .ok (.getfield 122, 3) := by decide +kernel
theorem dX4_unrack_62 : decode cX4_unrack 62 = .ok (.bipush 11, 2) := by decide +kernel
theorem dX4_unrack_64 : decode cX4_unrack 64 = .ok (.if_icmp .eq 6, 3) := by decide +kernel
theorem dX4_unrack_67 : decode cX4_unrack 67 = .ok (.iconst 2, 1) := by decide +kernel
theorem dX4_unrack_68 : decode cX4_unrack 68 = .ok (.istore 6, 2) := by decide +kernel
theorem dX4_unrack_70 : decode cX4_unrack 70 = .ok (.iload 6, 2) := by decide +kernel
theorem dX4_unrack_72 : decode cX4_unrack 72 = .ok (.ifCond .eq 11, 3) := by decide +kernel
theorem dX4_unrack_75 : decode cX4_unrack 75 = .ok (.aload_n 0, 1) := by decide +kernel
theorem dX4_unrack_76 : decode cX4_unrack 76 = .ok (.iload 6, 2) := by decide +kernel
theorem dX4_unrack_78 : decode cX4_unrack 78 = .ok (.iconst 0, 1) := by decide +kernel
theorem dX4_unrack_79 : decode cX4_unrack 79 = .ok (.invokevirtual 67, 3) := by decide +kernel
theorem dX4_unrack_82 : decode cX4_unrack 82 = .ok (.ireturn, 1) := by decide +kernel
theorem dX4_unrack_83 : decode cX4_unrack 83 = .ok (.aload 5, 2) := by decide +kernel
theorem dX4_unrack_85 : decode cX4_unrack 85 = .ok (.aload_n 0, 1) := by decide +kernel
theorem dX4_unrack_86 : decode cX4_unrack 86 = .ok (.getfield 49, 3) := by decide +kernel
theorem dX4_unrack_89 : decode cX4_unrack 89 = .ok (.getfield 140, 3) := by decide +kernel
theorem dX4_unrack_92 : decode cX4_unrack 92 = .ok (.iconst 0, 1) := by decide +kernel
theorem dX4_unrack_93 : decode cX4_unrack 93 = .ok (.invokevirtual 76, 3) := by decide +kernel
theorem dX4_unrack_96 : decode cX4_unrack 96 = .ok (.aload_n 0, 1) := by decide +kernel
theorem dX4_unrack_97 : decode cX4_unrack 97 = .ok (.iconst 0, 1) := by decide +kernel
theorem dX4_unrack_98 : decode cX4_unrack 98 = .ok (.aload_n 0, 1) := by decide +kernel
theorem dX4_unrack_99 : decode cX4_unrack 99 = .ok (.getfield 49, 3) := by decide +kernel
theorem dX4_unrack_102 : decode cX4_unrack 102 = .ok (.getfield 140, 3) := by decide +kernel
theorem dX4_unrack_105 : decode cX4_unrack 105 = .ok (.ifnonnull 7, 3) := by decide +kernel
theorem dX4_unrack_108 : decode cX4_unrack 108 = .ok (.iconst 0, 1) := by decide +kernel
theorem dX4_unrack_109 : decode cX4_unrack 109 = .ok (.goto 13, 3) := by decide +kernel
theorem dX4_unrack_112 : decode cX4_unrack 112 = .ok (.aload_n 0, 1) := by decide +kernel
theorem dX4_unrack_113 : decode cX4_unrack 113 = .ok (.getfield 49, 3) := by decide +kernel
theorem dX4_unrack_116 : decode cX4_unrack 116 = .ok (.getfield 140, 3) := by decide +kernel
theorem dX4_unrack_119 : decode cX4_unrack 119 = .ok (.getfield 141, 3) := by decide +kernel
theorem dX4_unrack_122 : decode cX4_unrack 122 = .ok (.invokevirtual 67, 3) := by decide +kernel
theorem dX4_unrack_125 : decode cX4_unrack 125 = .ok (.ireturn, 1) := by decide +kernel
theorem dX4_cable_0 : decode cX4_cable 0 = .ok (.aload_n 0, 1) := by decide +kernel
theorem dX4_cable_1 : decode cX4_cable 1 = .ok (.iload_n 2, 1) := by decide +kernel
theorem dX4_cable_2 : decode cX4_cable 2 = .ok (.invokevirtual 59, 3) := by decide +kernel
theorem dX4_cable_5 : decode cX4_cable 5 = .ok (.astore 4, 2) := by decide +kernel
theorem dX4_cable_7 : decode cX4_cable 7 = .ok (.aload_n 0, 1) := by decide +kernel
theorem dX4_cable_8 : decode cX4_cable 8 = .ok (.iload_n 3, 1) := by decide +kernel
theorem dX4_cable_9 : decode cX4_cable 9 = .ok (.invokevirtual 59, 3) := by decide +kernel
theorem dX4_cable_12 : decode cX4_cable 12 = .ok (.astore 5, 2) := by decide +kernel
theorem dX4_cable_14 : decode cX4_cable 14 = .ok (.iload_n 1, 1) := by decide +kernel
theorem dX4_cable_15 : decode cX4_cable 15 = .ok (.ifCond .lt 18, 3) := by decide +kernel
theorem dX4_cable_18 : decode cX4_cable 18 = .ok (.iload_n 1, 1) := by decide +kernel
theorem dX4_cable_19 : decode cX4_cable 19 = .ok (.iconst 3, 1) := by decide +kernel
theorem dX4_cable_20 : decode cX4_cable 20 = .ok (.if_icmp .gt 13, 3) := by decide +kernel
theorem dX4_cable_23 : decode cX4_cable 23 = .ok (.aload 4, 2) := by decide +kernel
theorem dX4_cable_25 : decode cX4_cable 25 = .ok (.ifnull 8, 3) := by decide +kernel
theorem dX4_cable_28 : decode cX4_cable 28 = .ok (.aload 5, 2) := by decide +kernel
theorem dX4_cable_30 : decode cX4_cable 30 = .ok (.ifnonnull 5, 3) := by decide +kernel
theorem dX4_cable_33 : decode cX4_cable 33 = .ok (.iconst (-1), 1) := by decide +kernel
theorem dX4_cable_34 : decode cX4_cable 34 = .ok (.ireturn, 1) := by decide +kernel
theorem dX4_cable_35 : decode cX4_cable 35 = .ok (.aload_n 0, 1) := by decide +kernel
theorem dX4_cable_36 : decode cX4_cable 36 = .ok (.getfield 21, 3) := by decide +kernel
theorem dX4_cable_39 : decode cX4_cable 39 = .ok (.bipush 24, 2) := by decide +kernel
theorem dX4_cable_41 : decode cX4_cable 41 = .ok (.if_icmp .lt 6, 3) := by decide +kernel
theorem dX4_cable_44 : decode cX4_cable 44 = .ok (.bipush (-2), 2) := by decide +kernel
theorem dX4_cable_46 : decode cX4_cable 46 = .ok (.ireturn, 1) := by decide +kernel
theorem dX4_cable_47 : decode cX4_cable 47 = .ok (.aload_n 0, 1) := by decide +kernel
theorem dX4_cable_48 : decode cX4_cable 48 = .ok (.getfield 17, 3) := by decide +kernel
theorem dX4_cable_51 : decode cX4_cable 51 = .ok (.aload_n 0, 1) := by decide +kernel
theorem dX4_cable_52 : decode cX4_cable 52 = .ok (.getfield 21, 3) := by decide +kernel
theorem dX4_cable_55 : decode cX4_cable 55 = .ok (.new 15, 3) := by decide +kernel
theorem dX4_cable_58 : decode cX4_cable 58 = .ok (.dup, 1) := by decide +kernel
theorem dX4_cable_59 : decode cX4_cable 59 = .ok (.aload_n 0, 1) := by decide +kernel
theorem dX4_cable_60 : decode cX4_cable 60 = .ok (.getfield 21, 3) := by decide +kernel
theorem dX4_cable_63 : decode cX4_cable 63 = .ok (.iload_n 1, 1) := by decide +kernel
theorem dX4_cable_64 : decode cX4_cable 64 = .ok (.aload 4, 2) := by decide +kernel
theorem dX4_cable_66 : decode cX4_cable 66 = .ok (.aload 5, 2) := by decide +kernel
theorem dX4_cable_68 : decode cX4_cable 68 = .ok (.invokespecial 144, 3) := by decide +kernel
theorem dX4_cable_71 : decode cX4_cable 71 = .ok (.aastore, 1) := by decide +kernel
theorem dX4_cable_72 : decode cX4_cable 72 = .ok (.aload_n 0, 1) := by decide +kernel
theorem dX4_cable_73 : decode cX4_cable 73 = .ok (.dup, 1) := by decide +kernel
theorem dX4_cable_74 : decode cX4_cable 74 = .ok (.getfield 21, 3) := by decide +kernel
theorem dX4_cable_77 : decode cX4_cable 77 = .ok (.iconst 1, 1) := by decide +kernel
theorem dX4_cable_78 : decode cX4_cable 78 = .ok (.iadd, 1) := by decide +kernel
theorem dX4_cable_79 : decode cX4_cable 79 = .ok (.putfield 21, 3) := by decide +kernel
theorem dX4_cable_82 : decode cX4_cable 82 = .ok (.aload_n 0, 1) := by decide +kernel
theorem dX4_cable_83 : decode cX4_cable 83 = .ok (.getfield 21, 3) := by decide +kernel
theorem dX4_cable_86 : decode cX4_cable 86 = .ok (.iconst 1, 1) := by decide +kernel
theorem dX4_cable_87 : decode cX4_cable 87 = .ok (.isub, 1) := by decide +kernel
theorem dX4_cable_88 : decode cX4_cable 88 = .ok (.ireturn, 1) := by decide +kernel
theorem dX4_patience_0 : decode cX4_patience 0 = .ok (.aload_n 0, 1) := by decide +kernel
theorem dX4_patience_1 : decode cX4_patience 1 = .ok (.iload_n 1, 1) := by decide +kernel
theorem dX4_patience_2 : decode cX4_patience 2 = .ok (.invokevirtual 147, 3) := by decide +kernel
theorem dX4_patience_5 : decode cX4_patience 5 = .ok (.astore_n 3, 1) := by decide +kernel
theorem dX4_patience_6 : decode cX4_patience 6 = .ok (.aload_n 3, 1) := by decide +kernel
theorem dX4_patience_7 : decode cX4_patience 7 = .ok (.ifnull 14, 3) := by decide +kernel
theorem dX4_patience_10 : decode cX4_patience 10 = .ok (.iload_n 2, 1) := by decide +kernel
theorem dX4_patience_11 : decode cX4_patience 11 = .ok (.iconst 1, 1) := by decide +kernel
theorem dX4_patience_12 : decode cX4_patience 12 = .ok (.if_icmp .lt 9, 3) := by decide +kernel
theorem dX4_patience_15 : decode cX4_patience 15 = .ok (.iload_n 2, 1) := by decide +kernel
theorem dX4_patience_16 : decode cX4_patience 16 = .ok (.bipush 9, 2) := by decide +kernel
theorem dX4_patience_18 : decode cX4_patience 18 = .ok (.if_icmp .le 5, 3) := by decide +kernel
theorem dX4_patience_21 : decode cX4_patience 21 = .ok (.iconst (-1), 1) := by decide +kernel
theorem dX4_patience_22 : decode cX4_patience 22 = .ok (.ireturn, 1) := by decide +kernel
theorem dX4_patience_23 : decode cX4_patience 23 = .ok (.aload_n 3, 1) := by decide +kernel
theorem dX4_patience_24 : decode cX4_patience 24 = .ok (.getfield 151, 3) := by decide +kernel
theorem dX4_patience_27 : decode cX4_patience 27 = .ok (.istore 4, 2) := by decide +kernel
theorem dX4_patience_29 : decode cX4_patience 29 = .ok (.aload_n 3, 1) := by decide +kernel
theorem dX4_patience_30 : decode cX4_patience 30 = .ok (.iload_n 2, 1) := by decide +kernel
theorem dX4_patience_31 : decode cX4_patience 31 = .ok (.putfield 151, 3) := by decide +kernel
theorem dX4_patience_34 : decode cX4_patience 34 = .ok (.iload 4, 2) := by decide +kernel
theorem dX4_patience_36 : decode cX4_patience 36 = .ok (.ireturn, 1) := by decide +kernel
theorem dX4_pull_0 : decode cX4_pull 0 = .ok (.aload_n 0, 1) := by decide +kernel
theorem dX4_pull_1 : decode cX4_pull 1 = .ok (.iload_n 1, 1) := by decide +kernel
theorem dX4_pull_2 : decode cX4_pull 2 = .ok (.invokevirtual 147, 3) := by decide +kernel
theorem dX4_pull_5 : decode cX4_pull 5 = .ok (.astore_n 2, 1) := by decide +kernel
theorem dX4_pull_6 : decode cX4_pull 6 = .ok (.aload_n 2, 1) := by decide +kernel
theorem dX4_pull_7 : decode cX4_pull 7 = .ok (.ifnonnull 5, 3) := by decide +kernel
theorem dX4_pull_10 : decode cX4_pull 10 = .ok (.iconst (-1), 1) := by decide +kernel
theorem dX4_pull_11 : decode cX4_pull 11 = .ok (.ireturn, 1) := by decide +kernel
theorem dX4_pull_12 : decode cX4_pull 12 = .ok (.aload_n 2, 1) := by decide +kernel
theorem dX4_pull_13 : decode cX4_pull 13 = .ok (.getfield 154, 3) := by decide +kernel
theorem dX4_pull_16 : decode cX4_pull 16 = .ok (.istore_n 3, 1) := by decide +kernel
theorem dX4_pull_17 : decode cX4_pull 17 = .ok (.aload_n 2, 1) := by decide +kernel
theorem dX4_pull_18 : decode cX4_pull 18 = .ok (.iconst 0, 1) := by decide +kernel
theorem dX4_pull_19 : decode cX4_pull 19 = .ok (.putfield 154, 3) := by decide +kernel
theorem dX4_pull_22 : decode cX4_pull 22 = .ok (.iload_n 3, 1) := by decide +kernel
theorem dX4_pull_23 : decode cX4_pull 23 = .ok (.ifCond .eq 7, 3) := by decide +kernel
theorem dX4_pull_26 : decode cX4_pull 26 = .ok (.iconst 1, 1) := by decide +kernel
theorem dX4_pull_27 : decode cX4_pull 27 = .ok (.goto 4, 3) := by decide +kernel
theorem dX4_pull_30 : decode cX4_pull 30 = .ok (.iconst 0, 1) := by decide +kernel
theorem dX4_pull_31 : decode cX4_pull 31 = .ok (.ireturn, 1) := by decide +kernel
theorem dX4_plugIn_0 : decode cX4_plugIn 0 = .ok (.aload_n 0, 1) := by decide +kernel
theorem dX4_plugIn_1 : decode cX4_plugIn 1 = .ok (.iload_n 1, 1) := by decide +kernel
theorem dX4_plugIn_2 : decode cX4_plugIn 2 = .ok (.invokevirtual 147, 3) := by decide +kernel
theorem dX4_plugIn_5 : decode cX4_plugIn 5 = .ok (.astore_n 2, 1) := by decide +kernel
theorem dX4_plugIn_6 : decode cX4_plugIn 6 = .ok (.aload_n 2, 1) := by decide +kernel
theorem dX4_plugIn_7 : decode cX4_plugIn 7 = .ok (.ifnonnull 5, 3) := by decide +kernel
theorem dX4_plugIn_10 : decode cX4_plugIn 10 = .ok (.iconst (-1), 1) := by decide +kernel
theorem dX4_plugIn_11 : decode cX4_plugIn 11 = .ok (.ireturn, 1) := by decide +kernel
theorem dX4_plugIn_12 : decode cX4_plugIn 12 = .ok (.aload_n 2, 1) := by decide +kernel
theorem dX4_plugIn_13 : decode cX4_plugIn 13 = .ok (.getfield 154, 3) := by decide +kernel
theorem dX4_plugIn_16 : decode cX4_plugIn 16 = .ok (.istore_n 3, 1) := by decide +kernel
theorem dX4_plugIn_17 : decode cX4_plugIn 17 = .ok (.aload_n 2, 1) := by decide +kernel
theorem dX4_plugIn_18 : decode cX4_plugIn 18 = .ok (.iconst 1, 1) := by decide +kernel
theorem dX4_plugIn_19 : decode cX4_plugIn 19 = .ok (.putfield 154, 3) := by decide +kernel
theorem dX4_plugIn_22 : decode cX4_plugIn 22 = .ok (.aload_n 2, 1) := by decide +kernel
theorem dX4_plugIn_23 : decode cX4_plugIn 23 = .ok (.iconst 0, 1) := by decide +kernel
theorem dX4_plugIn_24 : decode cX4_plugIn 24 = .ok (.putfield 157, 3) := by decide +kernel
theorem dX4_plugIn_27 : decode cX4_plugIn 27 = .ok (.iload_n 3, 1) := by decide +kernel
theorem dX4_plugIn_28 : decode cX4_plugIn 28 = .ok (.ifCond .eq 7, 3) := by decide +kernel
theorem dX4_plugIn_31 : decode cX4_plugIn 31 = .ok (.iconst 1, 1) := by decide +kernel
theorem dX4_plugIn_32 : decode cX4_plugIn 32 = .ok (.goto 4, 3) := by decide +kernel
theorem dX4_plugIn_35 : decode cX4_plugIn 35 = .ok (.iconst 0, 1) := by decide +kernel
theorem dX4_plugIn_36 : decode cX4_plugIn 36 = .ok (.ireturn, 1) := by decide +kernel
theorem dX4_tick_0 : decode cX4_tick 0 = .ok (.aload_n 0, 1) := by decide +kernel
theorem dX4_tick_1 : decode cX4_tick 1 = .ok (.dup, 1) := by decide +kernel
theorem dX4_tick_2 : decode cX4_tick 2 = .ok (.getfield 28, 3) := by decide +kernel
theorem dX4_tick_5 : decode cX4_tick 5 = .ok (.iconst 1, 1) := by decide +kernel
theorem dX4_tick_6 : decode cX4_tick 6 = .ok (.iadd, 1) := by decide +kernel
theorem dX4_tick_7 : decode cX4_tick 7 = .ok (.putfield 28, 3) := by decide +kernel
theorem dX4_tick_10 : decode cX4_tick 10 = .ok (.iconst 0, 1) := by decide +kernel
theorem dX4_tick_11 : decode cX4_tick 11 = .ok (.istore_n 1, 1) := by decide +kernel
theorem dX4_tick_12 : decode cX4_tick 12 = .ok (.iconst 0, 1) := by decide +kernel
theorem dX4_tick_13 : decode cX4_tick 13 = .ok (.istore_n 2, 1) := by decide +kernel
theorem dX4_tick_14 : decode cX4_tick 14 = .ok (.iload_n 2, 1) := by decide +kernel
theorem dX4_tick_15 : decode cX4_tick 15 = .ok (.aload_n 0, 1) := by decide +kernel
theorem dX4_tick_16 : decode cX4_tick 16 = .ok (.getfield 21, 3) := by decide +kernel
theorem dX4_tick_19 : decode cX4_tick 19 = .ok (.if_icmp .ge 48, 3) := by decide +kernel
theorem dX4_tick_22 : decode cX4_tick 22 = .ok (.aload_n 0, 1) := by decide +kernel
theorem dX4_tick_23 : decode cX4_tick 23 = .ok (.iload_n 2, 1) := by decide +kernel
theorem dX4_tick_24 : decode cX4_tick 24 = .ok (.invokevirtual 147, 3) := by decide +kernel
theorem dX4_tick_27 : decode cX4_tick 27 = .ok (.astore_n 3, 1) := by decide +kernel
theorem dX4_tick_28 : decode cX4_tick 28 = .ok (.aload_n 3, 1) := by decide +kernel
theorem dX4_tick_29 : decode cX4_tick 29 = .ok (.ifnull 32, 3) := by decide +kernel
theorem dX4_tick_32 : decode cX4_tick 32 = .ok (.aload_n 3, 1) := by decide +kernel
theorem dX4_tick_33 : decode cX4_tick 33 = .ok (.getfield 154, 3) := by decide +kernel
theorem dX4_tick_36 : decode cX4_tick 36 = .ok (.ifCond .eq 25, 3) := by decide +kernel
theorem dX4_tick_39 : decode cX4_tick 39 = .ok (.aload_n 0, 1) := by decide +kernel
theorem dX4_tick_40 : decode cX4_tick 40 = .ok (.aload_n 3, 1) := by decide +kernel
theorem dX4_tick_41 : decode cX4_tick 41 = .ok (.invokevirtual 160, 3) := by decide +kernel
theorem dX4_tick_44 : decode cX4_tick 44 = .ok (.istore 4, 2) := by decide +kernel
theorem dX4_tick_46 : decode cX4_tick 46 = .ok (.aload_n 0, 1) := by decide +kernel
theorem dX4_tick_47 : decode cX4_tick 47 = .ok (.aload_n 3, 1) := by decide +kernel
theorem dX4_tick_48 : decode cX4_tick 48 = .ok (.iload 4, 2) := by decide +kernel
theorem dX4_tick_50 : decode cX4_tick 50 = .ok (.invokevirtual 164, 3) := by decide +kernel
theorem dX4_tick_53 : decode cX4_tick 53 = .ok (.iload 4, 2) := by decide +kernel
theorem dX4_tick_55 : decode cX4_tick 55 = .ok (.ifCond .ne 6, 3) := by decide +kernel
theorem dX4_tick_58 : decode cX4_tick 58 = .ok (.iinc 1 1, 3) := by decide +kernel
theorem dX4_tick_61 : decode cX4_tick 61 = .ok (.iinc 2 1, 3) := by decide +kernel
theorem dX4_tick_64 : decode cX4_tick 64 = .ok (.goto (-50), 3) := by decide +kernel
theorem dX4_tick_67 : decode cX4_tick 67 = .ok (.iconst 0, 1) := by decide +kernel
theorem dX4_tick_68 : decode cX4_tick 68 = .ok (.istore_n 2, 1) := by decide +kernel
theorem dX4_tick_69 : decode cX4_tick 69 = .ok (.iload_n 2, 1) := by decide +kernel
theorem dX4_tick_70 : decode cX4_tick 70 = .ok (.bipush 16, 2) := by decide +kernel
theorem dX4_tick_72 : decode cX4_tick 72 = .ok (.if_icmp .ge 24, 3) := by decide +kernel
theorem dX4_tick_75 : decode cX4_tick 75 = .ok (.aload_n 0, 1) := by decide +kernel
theorem dX4_tick_76 : decode cX4_tick 76 = .ok (.iload_n 2, 1) := by decide +kernel
theorem dX4_tick_77 : decode cX4_tick 77 = .ok (.invokevirtual 59, 3) := by decide +kernel
theorem dX4_tick_80 : decode cX4_tick 80 = .ok (.astore_n 3, 1) := by decide +kernel
theorem dX4_tick_81 : decode cX4_tick 81 = .ok (.aload_n 3, 1) := by decide +kernel
theorem dX4_tick_82 : decode cX4_tick 82 = .ok (.ifnull 8, 3) := by decide +kernel
theorem dX4_tick_85 : decode cX4_tick 85 = .ok (.aload_n 0, 1) := by decide +kernel
theorem dX4_tick_86 : decode cX4_tick 86 = .ok (.aload_n 3, 1) := by decide +kernel
theorem dX4_tick_87 : decode cX4_tick 87 = .ok (.invokevirtual 168, 3) := by decide +kernel
theorem dX4_tick_90 : decode cX4_tick 90 = .ok (.iinc 2 1, 3) := by decide +kernel
theorem dX4_tick_93 : decode cX4_tick 93 = .ok (.goto (-24), 3) := by decide +kernel
theorem dX4_tick_96 : decode cX4_tick 96 = .ok (.iload_n 1, 1) := by decide +kernel
theorem dX4_tick_97 : decode cX4_tick 97 = .ok (.ireturn, 1) := by decide +kernel
theorem dX4_splice_0 : decode cX4_splice 0 = .ok (.aload_n 0, 1) := by decide +kernel
theorem dX4_splice_1 : decode cX4_splice 1 = .ok (.iload_n 1, 1) := by decide +kernel
theorem dX4_splice_2 : decode cX4_splice 2 = .ok (.invokevirtual 59, 3) := by decide +kernel
theorem dX4_splice_5 : decode cX4_splice 5 = .ok (.astore 6, 2) := by decide +kernel
theorem dX4_splice_7 : decode cX4_splice 7 = .ok (.aload_n 0, 1) := by decide +kernel
theorem dX4_splice_8 : decode cX4_splice 8 = .ok (.iload_n 3, 1) := by decide +kernel
theorem dX4_splice_9 : decode cX4_splice 9 = .ok (.invokevirtual 59, 3) := by decide +kernel
theorem dX4_splice_12 : decode cX4_splice 12 = .ok (.astore 7, 2) := by decide +kernel
theorem dX4_splice_14 : decode cX4_splice 14 = .ok (.aload 6, 2) := by decide +kernel
theorem dX4_splice_16 : decode cX4_splice 16 = .ok (.ifnull 20, 3) := by decide +kernel
theorem dX4_splice_19 : decode cX4_splice 19 = .ok (.aload 7, 2) := by decide +kernel
theorem dX4_splice_21 : decode cX4_splice 21 = .ok (.ifnull 15, 3) := by decide +kernel
theorem dX4_splice_24 : decode cX4_splice 24 = .ok (.iload 5, 2) := by decide +kernel
theorem dX4_splice_26 : decode cX4_splice 26 = .ok (.ifCond .lt 10, 3) := by decide +kernel
theorem dX4_splice_29 : decode cX4_splice 29 = .ok (.iload 5, 2) := by decide +kernel
theorem dX4_splice_31 : decode cX4_splice 31 = .ok (.bipush 32, 2) := by decide +kernel
theorem dX4_splice_33 : decode cX4_splice 33 = .ok (.if_icmp .le 5, 3) := by decide +kernel
theorem dX4_splice_36 : decode cX4_splice 36 = .ok (.iconst (-1), 1) := by decide +kernel
theorem dX4_splice_37 : decode cX4_splice 37 = .ok (.ireturn, 1) := by decide +kernel
theorem dX4_splice_38 : decode cX4_splice 38 = .ok (.iconst 0, 1) := by decide +kernel
theorem dX4_splice_39 : decode cX4_splice 39 = .ok (.istore 8, 2) := by decide +kernel
theorem dX4_splice_41 : decode cX4_splice 41 = .ok (.iload 8, 2) := by decide +kernel
theorem dX4_splice_43 : decode cX4_splice 43 = .ok (.iload 5, 2) := by decide +kernel
theorem dX4_splice_45 : decode cX4_splice 45 = .ok (.if_icmp .ge 42, 3) := by decide +kernel
theorem dX4_splice_48 : decode cX4_splice 48 = .ok (.aload_n 0, 1) := by decide +kernel
theorem dX4_splice_49 : decode cX4_splice 49 = .ok (.aload 6, 2) := by decide +kernel
theorem dX4_splice_51 : decode cX4_splice 51 = .ok (.iload_n 2, 1) := by decide +kernel
theorem dX4_splice_52 : decode cX4_splice 52 = .ok (.iload 8, 2) := by decide +kernel
theorem dX4_splice_54 : decode cX4_splice 54 = .ok (.iadd, 1) := by decide +kernel
theorem dX4_splice_55 : decode cX4_splice 55 = .ok (.aload 7, 2) := by decide +kernel
theorem dX4_splice_57 : decode cX4_splice 57 = .ok (.iload 4, 2) := by decide +kernel
theorem dX4_splice_59 : decode cX4_splice 59 = .ok (.iload 8, 2) := by decide +kernel
theorem dX4_splice_61 : decode cX4_splice 61 = .ok (.iadd, 1) := by decide +kernel
theorem dX4_splice_62 : decode cX4_splice 62 = .ok (.invokevirtual 172, 3) := by decide +kernel
theorem dX4_splice_65 : decode cX4_splice 65 = .ok (.istore 9, 2) := by decide +kernel
theorem dX4_splice_67 : decode cX4_splice 67 = .ok (.iload 9, 2) := by decide +kernel
theorem dX4_splice_69 : decode cX4_splice 69 = .ok (.ifCond .eq 12, 3) := by decide +kernel
theorem dX4_splice_72 : decode cX4_splice 72 = .ok (.aload_n 0, 1) := by decide +kernel
theorem dX4_splice_73 : decode cX4_splice 73 = .ok (.iload 9, 2) := by decide +kernel
theorem dX4_splice_75 : decode cX4_splice 75 = .ok (.invokevirtual 129, 3) := by decide +kernel
theorem dX4_splice_78 : decode cX4_splice 78 = .ok (.iload 8, 2) := by decide +kernel
theorem dX4_splice_80 : decode cX4_splice 80 = .ok (.ireturn, 1) := by decide +kernel
theorem dX4_splice_81 : decode cX4_splice 81 = .ok (.iinc 8 1, 3) := by decide +kernel
theorem dX4_splice_84 : decode cX4_splice 84 = .ok (.goto (-43), 3) := by decide +kernel
theorem dX4_splice_87 : decode cX4_splice 87 = .ok (.aload_n 0, 1) := by decide +kernel
theorem dX4_splice_88 : decode cX4_splice 88 = .ok (.iconst 0, 1) := by decide +kernel
theorem dX4_splice_89 : decode cX4_splice 89 = .ok (.invokevirtual 129, 3) := by decide +kernel
theorem dX4_splice_92 : decode cX4_splice 92 = .ok (.iload 5, 2) := by decide +kernel
theorem dX4_splice_94 : decode cX4_splice 94 = .ok (.ireturn, 1) := by decide +kernel
theorem dX4_dub_0 : decode cX4_dub 0 = .ok (.aload_n 0, 1) := by decide +kernel
theorem dX4_dub_1 : decode cX4_dub 1 = .ok (.iload_n 1, 1) := by decide +kernel
theorem dX4_dub_2 : decode cX4_dub 2 = .ok (.invokevirtual 59, 3) := by decide +kernel
theorem dX4_dub_5 : decode cX4_dub 5 = .ok (.astore 4, 2) := by decide +kernel
theorem dX4_dub_7 : decode cX4_dub 7 = .ok (.aload_n 0, 1) := by decide +kernel
theorem dX4_dub_8 : decode cX4_dub 8 = .ok (.iload_n 2, 1) := by decide +kernel
theorem dX4_dub_9 : decode cX4_dub 9 = .ok (.invokevirtual 59, 3) := by decide +kernel
theorem dX4_dub_12 : decode cX4_dub 12 = .ok (.astore 5, 2) := by decide +kernel
theorem dX4_dub_14 : decode cX4_dub 14 = .ok (.aload 4, 2) := by decide +kernel
theorem dX4_dub_16 : decode cX4_dub 16 = .ok (.ifnull 15, 3) := by decide +kernel
theorem dX4_dub_19 : decode cX4_dub 19 = .ok (.aload 5, 2) := by decide +kernel
theorem dX4_dub_21 : decode cX4_dub 21 = .ok (.ifnull 10, 3) := by decide +kernel
theorem dX4_dub_24 : decode cX4_dub 24 = .ok (.iload_n 3, 1) := by decide +kernel
theorem dX4_dub_25 : decode cX4_dub 25 = .ok (.invokestatic 63, 3) := by decide +kernel
theorem dX4_dub_28 : decode cX4_dub 28 = .ok (.ifCond .ne 5, 3) := by decide +kernel
theorem dX4_dub_31 : decode cX4_dub 31 = .ok (.iconst (-1), 1) := by decide +kernel
theorem dX4_dub_32 : decode cX4_dub 32 = .ok (.ireturn, 1) := by decide +kernel
theorem dX4_dub_33 : decode cX4_dub 33 = .ok (.aload 5, 2) := by decide +kernel
theorem dX4_dub_35 : decode cX4_dub 35 = .ok (.getfield 84, 3) := by decide +kernel
theorem dX4_dub_38 : decode cX4_dub 38 = .ok (.astore 6, 2) := by decide +kernel
theorem dX4_dub_40 : decode cX4_dub 40 = .ok (.aload 6, 2) := by decide +kernel
theorem dX4_dub_42 : decode cX4_dub 42 = .ok (.ifnonnull 14, 3) := by decide +kernel
theorem dX4_dub_45 : decode cX4_dub 45 = .ok (.aload_n 0, 1) := by decide +kernel
theorem dX4_dub_46 : decode cX4_dub 46 = .ok (.aload 5, 2) := by decide +kernel
theorem dX4_dub_48 : decode cX4_dub 48 = .ok (.invokevirtual 176, 3) := by decide +kernel
theorem dX4_dub_51 : decode cX4_dub 51 = .ok (.iconst 0, 1) := by decide +kernel
theorem dX4_dub_52 : decode cX4_dub 52 = .ok (.invokevirtual 67, 3) := by decide +kernel
theorem dX4_dub_55 : decode cX4_dub 55 = .ok (.ireturn, 1) := by decide +kernel
theorem dX4_dub_56 : decode cX4_dub 56 = .ok (.new 71, 3) := by decide +kernel
theorem dX4_dub_59 : decode cX4_dub 59 = .ok (.dup, 1) := by decide +kernel
theorem dX4_dub_60 : decode cX4_dub 60 = .ok (.iload_n 3, 1) := by decide +kernel
theorem dX4_dub_61 : decode cX4_dub 61 = .ok (.aload 6, 2) := by decide +kernel
theorem dX4_dub_63 : decode cX4_dub 63 = .ok (.getfield 141, 3) := by decide +kernel
theorem dX4_dub_66 : decode cX4_dub 66 = .ok (.invokespecial 73, 3) := by decide +kernel
theorem dX4_dub_69 : decode cX4_dub 69 = .ok (.astore 7, 2) := by decide +kernel
theorem dX4_dub_71 : decode cX4_dub 71 = .ok (.iconst 0, 1) := by decide +kernel
theorem dX4_dub_72 : decode cX4_dub 72 = .ok (.istore 8, 2) := by decide +kernel
theorem dX4_dub_74 : decode cX4_dub 74 = .ok (.iconst 0, 1) := by decide +kernel
theorem dX4_dub_75 : decode cX4_dub 75 = .ok (.istore 9, 2) := by decide +kernel
theorem dX4_dub_77 : decode cX4_dub 77 = .ok (.iload 9, 2) := by decide +kernel
theorem dX4_dub_79 : decode cX4_dub 79 = .ok (.aload 6, 2) := by decide +kernel
theorem dX4_dub_81 : decode cX4_dub 81 = .ok (.getfield 141, 3) := by decide +kernel
theorem dX4_dub_84 : decode cX4_dub 84 = .ok (.if_icmp .ge 45, 3) := by decide +kernel
theorem dX4_dub_87 : decode cX4_dub 87 = .ok (.iload 8, 2) := by decide +kernel
theorem dX4_dub_89 : decode cX4_dub 89 = .ok (.ifCond .ne 40, 3) := by decide +kernel
theorem dX4_dub_92 : decode cX4_dub 92 = .ok (.aload 6, 2) := by decide +kernel
theorem dX4_dub_94 : decode cX4_dub 94 = .ok (.iload 9, 2) := by decide +kernel
theorem dX4_dub_96 : decode cX4_dub 96 = .ok (.aload_n 0, 1) := by decide +kernel
theorem dX4_dub_97 : decode cX4_dub 97 = .ok (.getfield 49, 3) := by decide +kernel
theorem dX4_dub_100 : decode cX4_dub 100 = .ok (.invokevirtual 179, 3) := by decide +kernel
theorem dX4_dub_103 : decode cX4_dub 103 = .ok (.istore 8, 2) := by decide +kernel
theorem dX4_dub_105 : decode cX4_dub 105 = .ok (.iload 8, 2) := by decide +kernel
theorem dX4_dub_107 : decode cX4_dub 107 = .ok (.ifCond .ne 16, 3) := by decide +kernel
theorem dX4_dub_110 : decode cX4_dub 110 = .ok (.aload 7, 2) := by decide +kernel
theorem dX4_dub_112 : decode cX4_dub 112 = .ok (.iload 9, 2) := by decide +kernel
theorem dX4_dub_114 : decode cX4_dub 114 = .ok (.aload_n 0, 1) := by decide +kernel
theorem dX4_dub_115 : decode cX4_dub 115 = .ok (.getfield 49, 3) := by decide +kernel
theorem dX4_dub_118 : decode cX4_dub 118 = .ok (.invokevirtual 182, 3) := by decide +kernel
theorem dX4_dub_121 : decode cX4_dub 121 = .ok (.istore 8, 2) := by decide +kernel
theorem dX4_dub_123 : decode cX4_dub 123 = .ok (.iinc 9 1, 3) := by decide +kernel
theorem dX4_dub_126 : decode cX4_dub 126 = .ok (.goto (-49), 3) := by decide +kernel
theorem dX4_dub_129 : decode cX4_dub 129 = .ok (.iload 8, 2) := by decide +kernel
theorem dX4_dub_131 : decode cX4_dub 131 = .ok (.ifCond .ne 11, 3) := by decide +kernel
theorem dX4_dub_134 : decode cX4_dub 134 = .ok (.aload 4, 2) := by decide +kernel
theorem dX4_dub_136 : decode cX4_dub 136 = .ok (.aload 7, 2) := by decide +kernel
theorem dX4_dub_138 : decode cX4_dub 138 = .ok (.iconst 0, 1) := by decide +kernel
theorem dX4_dub_139 : decode cX4_dub 139 = .ok (.invokevirtual 76, 3) := by decide +kernel
theorem dX4_dub_142 : decode cX4_dub 142 = .ok (.aload_n 0, 1) := by decide +kernel
theorem dX4_dub_143 : decode cX4_dub 143 = .ok (.iload 8, 2) := by decide +kernel
theorem dX4_dub_145 : decode cX4_dub 145 = .ok (.aload 7, 2) := by decide +kernel
theorem dX4_dub_147 : decode cX4_dub 147 = .ok (.getfield 141, 3) := by decide +kernel
theorem dX4_dub_150 : decode cX4_dub 150 = .ok (.invokevirtual 67, 3) := by decide +kernel
theorem dX4_dub_153 : decode cX4_dub 153 = .ok (.ireturn, 1) := by decide +kernel
theorem dX4_sum_0 : decode cX4_sum 0 = .ok (.aload_n 0, 1) := by decide +kernel
theorem dX4_sum_1 : decode cX4_sum 1 = .ok (.iload_n 1, 1) := by decide +kernel
theorem dX4_sum_2 : decode cX4_sum 2 = .ok (.invokevirtual 59, 3) := by decide +kernel
theorem dX4_sum_5 : decode cX4_sum 5 = .ok (.astore_n 2, 1) := by decide +kernel
theorem dX4_sum_6 : decode cX4_sum 6 = .ok (.aload_n 2, 1) := by decide +kernel
theorem dX4_sum_7 : decode cX4_sum 7 = .ok (.ifnonnull 5, 3) := by decide +kernel
theorem dX4_sum_10 : decode cX4_sum 10 = .ok (.lconst 0, 1) := by decide +kernel
theorem dX4_sum_11 : decode cX4_sum 11 = .ok (.lreturn, 1) := by decide +kernel
theorem dX4_sum_12 : decode cX4_sum 12 = .ok (.aload_n 2, 1) := by decide +kernel
theorem dX4_sum_13 : decode cX4_sum 13 = .ok (.getfield 84, 3) := by decide +kernel
theorem dX4_sum_16 : decode cX4_sum 16 = .ok (.astore_n 3, 1) := by decide +kernel
theorem dX4_sum_17 : decode cX4_sum 17 = .ok (.aload_n 3, 1) := by decide +kernel
theorem dX4_sum_18 : decode cX4_sum 18 = .ok (.ifnonnull 13, 3) := by decide +kernel
theorem dX4_sum_21 : decode cX4_sum 21 = .ok (.aload_n 0, 1) := by decide +kernel
theorem dX4_sum_22 : decode cX4_sum 22 = .ok (.aload_n 2, 1) := by decide +kernel
theorem dX4_sum_23 : decode cX4_sum 23 = .ok (.invokevirtual 176, 3) := by decide +kernel
theorem dX4_sum_26 : decode cX4_sum 26 = .ok (.invokevirtual 129, 3) := by decide +kernel
theorem dX4_sum_29 : decode cX4_sum 29 = .ok (.lconst 0, 1) := by decide +kernel
theorem dX4_sum_30 : decode cX4_sum 30 = .ok (.lreturn, 1) := by decide +kernel
theorem dX4_sum_31 : decode cX4_sum 31 = .ok (.lconst 0, 1) := by decide +kernel
theorem dX4_sum_32 : decode cX4_sum 32 = .ok (.lstore 4, 2) := by decide +kernel
theorem dX4_sum_34 : decode cX4_sum 34 = .ok (.iconst 0, 1) := by decide +kernel
theorem dX4_sum_35 : decode cX4_sum 35 = .ok (.istore 6, 2) := by decide +kernel
theorem dX4_sum_37 : decode cX4_sum 37 = .ok (.iload 6, 2) := by decide +kernel
theorem dX4_sum_39 : decode cX4_sum 39 = .ok (.aload_n 3, 1) := by decide +kernel
theorem dX4_sum_40 : decode cX4_sum 40 = .ok (.getfield 141, 3) := by decide +kernel
theorem dX4_sum_43 : decode cX4_sum 43 = .ok (.if_icmp .ge 21, 3) := by decide +kernel
theorem dX4_sum_46 : decode cX4_sum 46 = .ok (.lload 4, 2) := by decide +kernel
theorem dX4_sum_48 : decode cX4_sum 48 = .ok (.aload_n 3, 1) := by decide +kernel
theorem dX4_sum_49 : decode cX4_sum 49 = .ok (.getfield 185, 3) := by decide +kernel
theorem dX4_sum_52 : decode cX4_sum 52 = .ok (.iload 6, 2) := by decide +kernel
theorem dX4_sum_54 : decode cX4_sum 54 = .ok (.laload, 1) := by decide +kernel
theorem dX4_sum_55 : decode cX4_sum 55 = .ok (.ladd, 1) := by decide +kernel
theorem dX4_sum_56 : decode cX4_sum 56 = .ok (.lstore 4, 2) := by decide +kernel
theorem dX4_sum_58 : decode cX4_sum 58 = .ok (.iinc 6 1, 3) := by decide +kernel
theorem dX4_sum_61 : decode cX4_sum 61 = .ok (.goto (-24), 3) := by decide +kernel
theorem dX4_sum_64 : decode cX4_sum 64 = .ok (.aload_n 0, 1) := by decide +kernel
theorem dX4_sum_65 : decode cX4_sum 65 = .ok (.iconst 0, 1) := by decide +kernel
theorem dX4_sum_66 : decode cX4_sum 66 = .ok (.invokevirtual 129, 3) := by decide +kernel
theorem dX4_sum_69 : decode cX4_sum 69 = .ok (.lload 4, 2) := by decide +kernel
theorem dX4_sum_71 : decode cX4_sum 71 = .ok (.lreturn, 1) := by decide +kernel
theorem dX4_match_0 : decode cX4_match 0 = .ok (.aload_n 0, 1) := by decide +kernel
theorem dX4_match_1 : decode cX4_match 1 = .ok (.iload_n 1, 1) := by decide +kernel
theorem dX4_match_2 : decode cX4_match 2 = .ok (.invokevirtual 59, 3) := by decide +kernel
theorem dX4_match_5 : decode cX4_match 5 = .ok (.astore_n 3, 1) := by decide +kernel
theorem dX4_match_6 : decode cX4_match 6 = .ok (.aload_n 0, 1) := by decide +kernel
theorem dX4_match_7 : decode cX4_match 7 = .ok (.iload_n 2, 1) := by decide +kernel
theorem dX4_match_8 : decode cX4_match 8 = .ok (.invokevirtual 59, 3) := by decide +kernel
theorem dX4_match_11 : decode cX4_match 11 = .ok (.astore 4, 2) := by decide +kernel
theorem dX4_match_13 : decode cX4_match 13 = .ok (.aload_n 3, 1) := by decide +kernel
theorem dX4_match_14 : decode cX4_match 14 = .ok (.ifnull 8, 3) := by decide +kernel
theorem dX4_match_17 : decode cX4_match 17 = .ok (.aload 4, 2) := by decide +kernel
theorem dX4_match_19 : decode cX4_match 19 = .ok (.ifnonnull 6, 3) := by decide +kernel
theorem dX4_match_22 : decode cX4_match 22 = .ok (.bipush (-101), 2) := by decide +kernel
theorem dX4_match_24 : decode cX4_match 24 = .ok (.ireturn, 1) := by decide +kernel
theorem dX4_match_25 : decode cX4_match 25 = .ok (.aload_n 3, 1) := by decide +kernel
theorem dX4_match_26 : decode cX4_match 26 = .ok (.getfield 84, 3) := by decide +kernel
theorem dX4_match_29 : decode cX4_match 29 = .ok (.astore 5, 2) := by decide +kernel
theorem dX4_match_31 : decode cX4_match 31 = .ok (.aload 4, 2) := by decide +kernel
theorem dX4_match_33 : decode cX4_match 33 = .ok (.getfield 84, 3) := by decide +kernel
theorem dX4_match_36 : decode cX4_match 36 = .ok (.astore 6, 2) := by decide +kernel
theorem dX4_match_38 : decode cX4_match 38 = .ok (.aload 5, 2) := by decide +kernel
theorem dX4_match_40 : decode cX4_match 40 = .ok (.ifnull 8, 3) := by decide +kernel
theorem dX4_match_43 : decode cX4_match 43 = .ok (.aload 6, 2) := by decide +kernel
theorem dX4_match_45 : decode cX4_match 45 = .ok (.ifnonnull 34, 3) := by decide +kernel
theorem dX4_match_48 : decode cX4_match 48 = .ok (.aload 5, 2) := by decide +kernel
theorem dX4_match_50 : decode cX4_match 50 = .ok (.ifnonnull 10, 3) := by decide +kernel
theorem dX4_match_53 : decode cX4_match 53 = .ok (.aload_n 3, 1) := by decide +kernel
theorem dX4_match_54 : decode cX4_match 54 = .ok (.invokevirtual 176, 3) := by decide +kernel
theorem dX4_match_57 : decode cX4_match 57 = .ok (.goto 8, 3) := by decide +kernel
theorem dX4_match_60 : decode cX4_match 60 = .ok (.aload 4, 2) := by decide +kernel
theorem dX4_match_62 : decode cX4_match 62 = .ok (.invokevirtual 176, 3) := by decide +kernel
theorem dX4_match_65 : decode cX4_match 65 = .ok (.istore 7, 2) := by decide +kernel
theorem dX4_match_67 : decode cX4_match 67 = .ok (.aload_n 0, 1) := by decide +kernel
theorem dX4_match_68 : decode cX4_match 68 = .ok (.iload 7, 2) := by decide +kernel
theorem dX4_match_70 : decode cX4_match 70 = .ok (.invokevirtual 129, 3) := by decide +kernel
theorem dX4_match_73 : decode cX4_match 73 = .ok (.bipush (-110), 2) := by decide +kernel
theorem dX4_match_75 : decode cX4_match 75 = .ok (.iload 7, 2) := by decide +kernel
theorem dX4_match_77 : decode cX4_match 77 = .ok (.isub, 1) := by decide +kernel
theorem dX4_match_78 : decode cX4_match 78 = .ok (.ireturn, 1) := by decide +kernel
theorem dX4_match_79 : decode cX4_match 79 = .ok (.aload_n 0, 1) := by decide +kernel
theorem dX4_match_80 : decode cX4_match 80 = .ok (.iconst 0, 1) := by decide +kernel
theorem dX4_match_81 : decode cX4_match 81 = .ok (.invokevirtual 129, 3) := by decide +kernel
theorem dX4_match_84 : decode cX4_match 84 = .ok (.aload 5, 2) := by decide +kernel
theorem dX4_match_86 : decode cX4_match 86 = .ok (.getfield 141, 3) := by decide +kernel
theorem dX4_match_89 : decode cX4_match 89 = .ok (.aload 6, 2) := by decide +kernel
theorem dX4_match_91 : decode cX4_match 91 = .ok (.getfield 141, 3) := by decide +kernel
theorem dX4_match_94 : decode cX4_match 94 = .ok (.invokestatic 189, 3) := by decide +kernel
theorem dX4_match_97 : decode cX4_match 97 = .ok (.istore 7, 2) := by decide +kernel
theorem dX4_match_99 : decode cX4_match 99 = .ok (.iconst 0, 1) := by decide +kernel
theorem dX4_match_100 : decode cX4_match 100 = .ok (.istore 8, 2) := by decide +kernel
theorem dX4_match_102 : decode cX4_match 102 = .ok (.iload 8, 2) := by decide +kernel
theorem dX4_match_104 : decode cX4_match 104 = .ok (.iload 7, 2) := by decide +kernel
theorem dX4_match_106 : decode cX4_match 106 = .ok (.if_icmp .ge 32, 3) := by decide +kernel
theorem dX4_match_109 : decode cX4_match 109 = .ok (.aload 5, 2) := by decide +kernel
theorem dX4_match_111 : decode cX4_match 111 = .ok (.getfield 185, 3) := by decide +kernel
theorem dX4_match_114 : decode cX4_match 114 = .ok (.iload 8, 2) := by decide +kernel
theorem dX4_match_116 : decode cX4_match 116 = .ok (.laload, 1) := by decide +kernel
theorem dX4_match_117 : decode cX4_match 117 = .ok (.aload 6, 2) := by decide +kernel
theorem dX4_match_119 : decode cX4_match 119 = .ok (.getfield 185, 3) := by decide +kernel
theorem dX4_match_122 : decode cX4_match 122 = .ok (.iload 8, 2) := by decide +kernel
theorem dX4_match_124 : decode cX4_match 124 = .ok (.laload, 1) := by decide +kernel
theorem dX4_match_125 : decode cX4_match 125 = .ok (.lcmp, 1) := by decide +kernel
theorem dX4_match_126 : decode cX4_match 126 = .ok (.ifCond .eq 6, 3) := by decide +kernel
theorem dX4_match_129 : decode cX4_match 129 = .ok (.iload 8, 2) := by decide +kernel
theorem dX4_match_131 : decode cX4_match 131 = .ok (.ireturn, 1) := by decide +kernel
theorem dX4_match_132 : decode cX4_match 132 = .ok (.iinc 8 1, 3) := by decide +kernel
theorem dX4_match_135 : decode cX4_match 135 = .ok (.goto (-33), 3) := by decide +kernel
theorem dX4_match_138 : decode cX4_match 138 = .ok (.aload 5, 2) := by decide +kernel
theorem dX4_match_140 : decode cX4_match 140 = .ok (.getfield 141, 3) := by decide +kernel
theorem dX4_match_143 : decode cX4_match 143 = .ok (.aload 6, 2) := by decide +kernel
theorem dX4_match_145 : decode cX4_match 145 = .ok (.getfield 141, 3) := by decide +kernel
theorem dX4_match_148 : decode cX4_match 148 = .ok (.if_icmp .ne 10, 3) := by decide +kernel
theorem dX4_match_151 : decode cX4_match 151 = .ok (.iconst (-1), 1) := by decide +kernel
theorem dX4_match_152 : decode cX4_match 152 = .ok (.iload 7, 2) := by decide +kernel
theorem dX4_match_154 : decode cX4_match 154 = .ok (.isub, 1) := by decide +kernel
theorem dX4_match_155 : decode cX4_match 155 = .ok (.goto 5, 3) := by decide +kernel
theorem dX4_match_158 : decode cX4_match 158 = .ok (.iload 7, 2) := by decide +kernel
theorem dX4_match_160 : decode cX4_match 160 = .ok (.ireturn, 1) := by decide +kernel
theorem dX4_why_0 : decode cX4_why 0 = .ok (.aload_n 0, 1) := by decide +kernel
theorem dX4_why_1 : decode cX4_why 1 = .ok (.getfield 43, 3) := by decide +kernel
theorem dX4_why_4 : decode cX4_why 4 = .ok (.ireturn, 1) := by decide +kernel
theorem dX4_number_0 : decode cX4_number 0 = .ok (.aload_n 0, 1) := by decide +kernel
theorem dX4_number_1 : decode cX4_number 1 = .ok (.iload_n 1, 1) := by decide +kernel
theorem dX4_number_2 : decode cX4_number 2 = .ok (.invokevirtual 59, 3) := by decide +kernel
theorem dX4_number_5 : decode cX4_number 5 = .ok (.astore_n 3, 1) := by decide +kernel
theorem dX4_number_6 : decode cX4_number 6 = .ok (.aload_n 3, 1) := by decide +kernel
theorem dX4_number_7 : decode cX4_number 7 = .ok (.ifnonnull 5, 3) := by decide +kernel
theorem dX4_number_10 : decode cX4_number 10 = .ok (.lconst 0, 1) := by decide +kernel
theorem dX4_number_11 : decode cX4_number 11 = .ok (.lreturn, 1) := by decide +kernel
theorem dX4_number_12 : decode cX4_number 12 = .ok (.aload_n 3, 1) := by decide +kernel
theorem dX4_number_13 : decode cX4_number 13 = .ok (.iload_n 2, 1) := by decide +kernel
theorem dX4_number_14 : decode cX4_number 14 = .ok (.aload_n 0, 1) := by decide +kernel
theorem dX4_number_15 : decode cX4_number 15 = .ok (.getfield 49, 3) := by decide +kernel
theorem dX4_number_18 : decode cX4_number 18 = .ok (.invokevirtual 119, 3) := by decide +kernel
theorem dX4_number_21 : decode cX4_number 21 = .ok (.istore 4, 2) := by decide +kernel
theorem dX4_number_23 : decode cX4_number 23 = .ok (.aload_n 0, 1) := by decide +kernel
theorem dX4_number_24 : decode cX4_number 24 = .ok (.iload 4, 2) := by decide +kernel
theorem dX4_number_26 : decode cX4_number 26 = .ok (.invokevirtual 129, 3) := by decide +kernel
theorem dX4_number_29 : decode cX4_number 29 = .ok (.iload 4, 2) := by decide +kernel
theorem dX4_number_31 : decode cX4_number 31 = .ok (.ifCond .ne 13, 3) := by decide +kernel
theorem dX4_number_34 : decode cX4_number 34 = .ok (.aload_n 0, 1) := by decide +kernel
theorem dX4_number_35 : decode cX4_number 35 = .ok (.getfield 49, 3) := by decide +kernel
theorem dX4_number_38 : decode cX4_number 38 = .ok (.getfield 132, 3) := by decide +kernel
theorem dX4_number_41 : decode cX4_number 41 = .ok (.goto 4, 3) := by decide +kernel
theorem dX4_number_44 : decode cX4_number 44 = .ok (.lconst 0, 1) := by decide +kernel
theorem dX4_number_45 : decode cX4_number 45 = .ok (.lreturn, 1) := by decide +kernel
theorem dX4_kind_0 : decode cX4_kind 0 = .ok (.aload_n 0, 1) := by decide +kernel
theorem dX4_kind_1 : decode cX4_kind 1 = .ok (.iload_n 1, 1) := by decide +kernel
theorem dX4_kind_2 : decode cX4_kind 2 = .ok (.invokevirtual 59, 3) := by decide +kernel
theorem dX4_kind_5 : decode cX4_kind 5 = .ok (.astore_n 3, 1) := by decide +kernel
theorem dX4_kind_6 : decode cX4_kind 6 = .ok (.aload_n 3, 1) := by decide +kernel
theorem dX4_kind_7 : decode cX4_kind 7 = .ok (.ifnonnull 5, 3) := by decide +kernel
theorem dX4_kind_10 : decode cX4_kind 10 = .ok (.iconst (-1), 1) := by decide +kernel
theorem dX4_kind_11 : decode cX4_kind 11 = .ok (.ireturn, 1) := by decide +kernel
theorem dX4_kind_12 : decode cX4_kind 12 = .ok (.aload_n 3, 1) := by decide +kernel
theorem dX4_kind_13 : decode cX4_kind 13 = .ok (.iload_n 2, 1) := by decide +kernel
theorem dX4_kind_14 : decode cX4_kind 14 = .ok (.aload_n 0, 1) := by decide +kernel
theorem dX4_kind_15 : decode cX4_kind 15 = .ok (.getfield 49, 3) := by decide +kernel
theorem dX4_kind_18 : decode cX4_kind 18 = .ok (.invokevirtual 119, 3) := by decide +kernel
theorem dX4_kind_21 : decode cX4_kind 21 = .ok (.istore 4, 2) := by decide +kernel
theorem dX4_kind_23 : decode cX4_kind 23 = .ok (.aload_n 0, 1) := by decide +kernel
theorem dX4_kind_24 : decode cX4_kind 24 = .ok (.iload 4, 2) := by decide +kernel
theorem dX4_kind_26 : decode cX4_kind 26 = .ok (.aload_n 0, 1) := by decide +kernel
theorem dX4_kind_27 : decode cX4_kind 27 = .ok (.getfield 49, 3) := by decide +kernel
theorem dX4_kind_30 : decode cX4_kind 30 = .ok (.getfield 122, 3) := by decide +kernel
theorem dX4_kind_33 : decode cX4_kind 33 = .ok (.invokevirtual 67, 3) := by decide +kernel
theorem dX4_kind_36 : decode cX4_kind 36 = .ok (.ireturn, 1) := by decide +kernel
theorem dX4_cells_0 : decode cX4_cells 0 = .ok (.aload_n 0, 1) := by decide +kernel
theorem dX4_cells_1 : decode cX4_cells 1 = .ok (.iload_n 1, 1) := by decide +kernel
theorem dX4_cells_2 : decode cX4_cells 2 = .ok (.invokevirtual 59, 3) := by decide +kernel
theorem dX4_cells_5 : decode cX4_cells 5 = .ok (.astore_n 2, 1) := by decide +kernel
theorem dX4_cells_6 : decode cX4_cells 6 = .ok (.aload_n 2, 1) := by decide +kernel
theorem dX4_cells_7 : decode cX4_cells 7 = .ok (.ifnonnull 5, 3) := by decide +kernel
theorem dX4_cells_10 : decode cX4_cells 10 = .ok (.iconst (-1), 1) := by decide +kernel
theorem dX4_cells_11 : decode cX4_cells 11 = .ok (.ireturn, 1) := by decide +kernel
theorem dX4_cells_12 : decode cX4_cells 12 = .ok (.aload_n 2, 1) := by decide +kernel
theorem dX4_cells_13 : decode cX4_cells 13 = .ok (.getfield 84, 3) := by decide +kernel
theorem dX4_cells_16 : decode cX4_cells 16 = .ok (.astore_n 3, 1) := by decide +kernel
theorem dX4_cells_17 : decode cX4_cells 17 = .ok (.aload_n 3, 1) := by decide +kernel
theorem dX4_cells_18 : decode cX4_cells 18 = .ok (.ifnonnull 13, 3) := by decide +kernel
theorem dX4_cells_21 : decode cX4_cells 21 = .ok (.aload_n 0, 1) := by decide +kernel
theorem dX4_cells_22 : decode cX4_cells 22 = .ok (.aload_n 2, 1) := by decide +kernel
theorem dX4_cells_23 : decode cX4_cells 23 = .ok (.invokevirtual 176, 3) := by decide +kernel
theorem dX4_cells_26 : decode cX4_cells 26 = .ok (.iconst 0, 1) := by decide +kernel
theorem dX4_cells_27 : decode cX4_cells 27 = .ok (.invokevirtual 67, 3) := by decide +kernel
theorem dX4_cells_30 : decode cX4_cells 30 = .ok (.ireturn, 1) := by decide +kernel
theorem dX4_cells_31 : decode cX4_cells 31 = .ok (.aload_n 0, 1) := by decide +kernel
theorem dX4_cells_32 : decode cX4_cells 32 = .ok (.iconst 0, 1) := by decide +kernel
theorem dX4_cells_33 : decode cX4_cells 33 = .ok (.aload_n 3, 1) := by decide +kernel
theorem dX4_cells_34 : decode cX4_cells 34 = .ok (.getfield 141, 3) := by decide +kernel
theorem dX4_cells_37 : decode cX4_cells 37 = .ok (.invokevirtual 67, 3) := by decide +kernel
theorem dX4_cells_40 : decode cX4_cells 40 = .ok (.ireturn, 1) := by decide +kernel
theorem dX4_of_0 : decode cX4_of 0 = .ok (.aload_n 0, 1) := by decide +kernel
theorem dX4_of_1 : decode cX4_of 1 = .ok (.iload_n 1, 1) := by decide +kernel
theorem dX4_of_2 : decode cX4_of 2 = .ok (.invokevirtual 59, 3) := by decide +kernel
theorem dX4_of_5 : decode cX4_of 5 = .ok (.astore_n 3, 1) := by decide +kernel
theorem dX4_of_6 : decode cX4_of 6 = .ok (.aload_n 3, 1) := by decide +kernel
theorem dX4_of_7 : decode cX4_of 7 = .ok (.ifnonnull 6, 3) := by decide +kernel
theorem dX4_of_10 : decode cX4_of 10 = .ok (.ldc 196, 2) := by decide +kernel
theorem dX4_of_12 : decode cX4_of 12 = .ok (.ireturn, 1) := by decide +kernel
theorem dX4_of_13 : decode cX4_of 13 = .ok (.iload_n 2, 1) := by decide +kernel
theorem dX4_of_14 : decode cX4_of 14 = .ok (.tableswitch 58 0 3 #[30, 35, 40, 53], 30) := by decide +kernel
theorem dX4_of_44 : decode cX4_of 44 = .ok (.aload_n 3, 1) := by decide +kernel
theorem dX4_of_45 : decode cX4_of 45 = .ok (.getfield 92, 3) := by decide +kernel
theorem dX4_of_48 : decode cX4_of 48 = .ok (.ireturn, 1) := by decide +kernel
theorem dX4_of_49 : decode cX4_of 49 = .ok (.aload_n 3, 1) := by decide +kernel
theorem dX4_of_50 : decode cX4_of 50 = .ok (.getfield 95, 3) := by decide +kernel
theorem dX4_of_53 : decode cX4_of 53 = .ok (.ireturn, 1) := by decide +kernel
theorem dX4_of_54 : decode cX4_of 54 = .ok (.aload_n 3, 1) := by decide +kernel
theorem dX4_of_55 : decode cX4_of 55 = .ok (.getfield 98, 3) := by decide +kernel
theorem dX4_of_58 : decode cX4_of 58 = .ok (.ifCond .eq 7, 3) := by decide +kernel
theorem dX4_of_61 : decode cX4_of 61 = .ok (.iconst 1, 1) := by decide +kernel
theorem dX4_of_62 : decode cX4_of 62 = .ok (.goto 4, 3) := by decide +kernel
theorem dX4_of_65 : decode cX4_of 65 = .ok (.iconst 0, 1) := by decide +kernel
theorem dX4_of_66 : decode cX4_of 66 = .ok (.ireturn, 1) := by decide +kernel
theorem dX4_of_67 : decode cX4_of 67 = .ok (.aload_n 3, 1) := by decide +kernel
theorem dX4_of_68 : decode cX4_of 68 = .ok (.invokevirtual 80, 3) := by decide +kernel
theorem dX4_of_71 : decode cX4_of 71 = .ok (.ireturn, 1) := by decide +kernel
theorem dX4_of_72 : decode cX4_of 72 = .ok (.ldc 196, 2) := by decide +kernel
theorem dX4_of_74 : decode cX4_of 74 = .ok (.ireturn, 1) := by decide +kernel
theorem dX4_told_0 : decode cX4_told 0 = .ok (.aload_n 0, 1) := by decide +kernel
theorem dX4_told_1 : decode cX4_told 1 = .ok (.iload_n 1, 1) := by decide +kernel
theorem dX4_told_2 : decode cX4_told 2 = .ok (.invokevirtual 147, 3) := by decide +kernel
theorem dX4_told_5 : decode cX4_told 5 = .ok (.astore_n 3, 1) := by decide +kernel
theorem dX4_told_6 : decode cX4_told 6 = .ok (.aload_n 3, 1) := by decide +kernel
theorem dX4_told_7 : decode cX4_told 7 = .ok (.ifnonnull 5, 3) := by decide +kernel
theorem dX4_told_10 : decode cX4_told 10 = .ok (.iconst (-1), 1) := by decide +kernel
theorem dX4_told_11 : decode cX4_told 11 = .ok (.ireturn, 1) := by decide +kernel
theorem dX4_told_12 : decode cX4_told 12 = .ok (.iload_n 2, 1) := by decide +kernel
theorem dX4_told_13 : decode cX4_told 13 = .ok (.tableswitch 101 0 7 #[47, 52, 60, 68, 81, 86, 91, 96], 47) := by decide +kernel
theorem dX4_told_60 : decode cX4_told 60 = .ok (.aload_n 3, 1) := by decide +kernel
theorem dX4_told_61 : decode cX4_told 61 = .ok (.getfield 197, 3) := by decide +kernel
theorem dX4_told_64 : decode cX4_told 64 = .ok (.ireturn, 1) := by decide +kernel
theorem dX4_told_65 : decode cX4_told 65 = .ok (.aload_n 3, 1) := by decide +kernel
theorem dX4_told_66 : decode cX4_told 66 = .ok (.getfield 198, 3) := by decide +kernel
theorem dX4_told_69 : decode cX4_told 69 = .ok (.getfield 202, 3) := by decide +kernel
theorem dX4_told_72 : decode cX4_told 72 = .ok (.ireturn, 1) := by decide +kernel
theorem dX4_told_73 : decode cX4_told 73 = .ok (.aload_n 3, 1) := by decide +kernel
theorem dX4_told_74 : decode cX4_told 74 = .ok (.getfield 205, 3) := by decide +kernel
theorem dX4_told_77 : decode cX4_told 77 = .ok (.getfield 202, 3) := by decide +kernel
theorem dX4_told_80 : decode cX4_told 80 = .ok (.ireturn, 1) := by decide +kernel
theorem dX4_told_81 : decode cX4_told 81 = .ok (.aload_n 3, 1) := by decide +kernel
theorem dX4_told_82 : decode cX4_told 82 = .ok (.getfield 154, 3) := by decide +kernel
theorem dX4_told_85 : decode cX4_told 85 = .ok (.ifCond .eq 7, 3) := by decide +kernel
theorem dX4_told_88 : decode cX4_told 88 = .ok (.iconst 1, 1) := by decide +kernel
theorem dX4_told_89 : decode cX4_told 89 = .ok (.goto 4, 3) := by decide +kernel
theorem dX4_told_92 : decode cX4_told 92 = .ok (.iconst 0, 1) := by decide +kernel
theorem dX4_told_93 : decode cX4_told 93 = .ok (.ireturn, 1) := by decide +kernel
theorem dX4_told_94 : decode cX4_told 94 = .ok (.aload_n 3, 1) := by decide +kernel
theorem dX4_told_95 : decode cX4_told 95 = .ok (.getfield 151, 3) := by decide +kernel
theorem dX4_told_98 : decode cX4_told 98 = .ok (.ireturn, 1) := by decide +kernel
theorem dX4_told_99 : decode cX4_told 99 = .ok (.aload_n 3, 1) := by decide +kernel
theorem dX4_told_100 : decode cX4_told 100 = .ok (.getfield 157, 3) := by decide +kernel
theorem dX4_told_103 : decode cX4_told 103 = .ok (.ireturn, 1) := by decide +kernel
theorem dX4_told_104 : decode cX4_told 104 = .ok (.aload_n 3, 1) := by decide +kernel
theorem dX4_told_105 : decode cX4_told 105 = .ok (.getfield 208, 3) := by decide +kernel
theorem dX4_told_108 : decode cX4_told 108 = .ok (.ireturn, 1) := by decide +kernel
theorem dX4_told_109 : decode cX4_told 109 = .ok (.aload_n 3, 1) := by decide +kernel
theorem dX4_told_110 : decode cX4_told 110 = .ok (.getfield 211, 3) := by decide +kernel
theorem dX4_told_113 : decode cX4_told 113 = .ok (.ireturn, 1) := by decide +kernel
theorem dX4_told_114 : decode cX4_told 114 = .ok (.iconst (-1), 1) := by decide +kernel
theorem dX4_told_115 : decode cX4_told 115 = .ok (.ireturn, 1) := by decide +kernel
theorem dX4_fault_0 : decode cX4_fault 0 = .ok (.aload_n 0, 1) := by decide +kernel
theorem dX4_fault_1 : decode cX4_fault 1 = .ok (.getfield 36, 3) := by decide +kernel
theorem dX4_fault_4 : decode cX4_fault 4 = .ok (.bipush 20, 2) := by decide +kernel
theorem dX4_fault_6 : decode cX4_fault 6 = .ok (.invokestatic 189, 3) := by decide +kernel
theorem dX4_fault_9 : decode cX4_fault 9 = .ok (.istore_n 3, 1) := by decide +kernel
theorem dX4_fault_10 : decode cX4_fault 10 = .ok (.iload_n 1, 1) := by decide +kernel
theorem dX4_fault_11 : decode cX4_fault 11 = .ok (.ifCond .lt 17, 3) := by decide +kernel
theorem dX4_fault_14 : decode cX4_fault 14 = .ok (.iload_n 1, 1) := by decide +kernel
theorem dX4_fault_15 : decode cX4_fault 15 = .ok (.iload_n 3, 1) := by decide +kernel
theorem dX4_fault_16 : decode cX4_fault 16 = .ok (.if_icmp .ge 12, 3) := by decide +kernel
theorem dX4_fault_19 : decode cX4_fault 19 = .ok (.iload_n 2, 1) := by decide +kernel
theorem dX4_fault_20 : decode cX4_fault 20 = .ok (.ifCond .lt 8, 3) := by decide +kernel
theorem dX4_fault_23 : decode cX4_fault 23 = .ok (.iload_n 2, 1) := by decide +kernel
theorem dX4_fault_24 : decode cX4_fault 24 = .ok (.iconst 3, 1) := by decide +kernel
theorem dX4_fault_25 : decode cX4_fault 25 = .ok (.if_icmp .lt 5, 3) := by decide +kernel
theorem dX4_fault_28 : decode cX4_fault 28 = .ok (.iconst (-1), 1) := by decide +kernel
theorem dX4_fault_29 : decode cX4_fault 29 = .ok (.ireturn, 1) := by decide +kernel
theorem dX4_fault_30 : decode cX4_fault 30 = .ok (.aload_n 0, 1) := by decide +kernel
theorem dX4_fault_31 : decode cX4_fault 31 = .ok (.getfield 33, 3) := by decide +kernel
theorem dX4_fault_34 : decode cX4_fault 34 = .ok (.aload_n 0, 1) := by decide +kernel
theorem dX4_fault_35 : decode cX4_fault 35 = .ok (.getfield 36, 3) := by decide +kernel
theorem dX4_fault_38 : decode cX4_fault 38 = .ok (.iconst 1, 1) := by decide +kernel
theorem dX4_fault_39 : decode cX4_fault 39 = .ok (.isub, 1) := by decide +kernel
theorem dX4_fault_40 : decode cX4_fault 40 = .ok (.iload_n 1, 1) := by decide +kernel
theorem dX4_fault_41 : decode cX4_fault 41 = .ok (.isub, 1) := by decide +kernel
theorem dX4_fault_42 : decode cX4_fault 42 = .ok (.bipush 20, 2) := by decide +kernel
theorem dX4_fault_44 : decode cX4_fault 44 = .ok (.invokestatic 214, 3) := by decide +kernel
theorem dX4_fault_47 : decode cX4_fault 47 = .ok (.aaload, 1) := by decide +kernel
theorem dX4_fault_48 : decode cX4_fault 48 = .ok (.iload_n 2, 1) := by decide +kernel
theorem dX4_fault_49 : decode cX4_fault 49 = .ok (.iaload, 1) := by decide +kernel
theorem dX4_fault_50 : decode cX4_fault 50 = .ok (.ireturn, 1) := by decide +kernel
theorem dX4_count_0 : decode cX4_count 0 = .ok (.iload_n 1, 1) := by decide +kernel
theorem dX4_count_1 : decode cX4_count 1 = .ok (.tableswitch 42 0 2 #[27, 32, 37], 27) := by decide +kernel
theorem dX4_count_28 : decode cX4_count 28 = .ok (.aload_n 0, 1) := by decide +kernel
theorem dX4_count_29 : decode cX4_count 29 = .ok (.getfield 21, 3) := by decide +kernel
theorem dX4_count_32 : decode cX4_count 32 = .ok (.ireturn, 1) := by decide +kernel
theorem dX4_count_33 : decode cX4_count 33 = .ok (.aload_n 0, 1) := by decide +kernel
theorem dX4_count_34 : decode cX4_count 34 = .ok (.getfield 28, 3) := by decide +kernel
theorem dX4_count_37 : decode cX4_count 37 = .ok (.ireturn, 1) := by decide +kernel
theorem dX4_count_38 : decode cX4_count 38 = .ok (.aload_n 0, 1) := by decide +kernel
theorem dX4_count_39 : decode cX4_count 39 = .ok (.getfield 36, 3) := by decide +kernel
theorem dX4_count_42 : decode cX4_count 42 = .ok (.ireturn, 1) := by decide +kernel
theorem dX4_count_43 : decode cX4_count 43 = .ok (.aload_n 0, 1) := by decide +kernel
theorem dX4_count_44 : decode cX4_count 44 = .ok (.iload_n 1, 1) := by decide +kernel
theorem dX4_count_45 : decode cX4_count 45 = .ok (.iconst 2, 1) := by decide +kernel
theorem dX4_count_46 : decode cX4_count 46 = .ok (.isub, 1) := by decide +kernel
theorem dX4_count_47 : decode cX4_count 47 = .ok (.invokevirtual 217, 3) := by decide +kernel
theorem dX4_count_50 : decode cX4_count 50 = .ok (.ireturn, 1) := by decide +kernel
theorem dX4_channelAt_0 : decode cX4_channelAt 0 = .ok (.iload_n 1, 1) := by decide +kernel
theorem dX4_channelAt_1 : decode cX4_channelAt 1 = .ok (.ifCond .lt 9, 3) := by decide +kernel
theorem dX4_channelAt_4 : decode cX4_channelAt 4 = .ok (.iload_n 1, 1) := by decide +kernel
theorem dX4_channelAt_5 : decode cX4_channelAt 5 = .ok (.bipush 16, 2) := by decide +kernel
theorem dX4_channelAt_7 : decode cX4_channelAt 7 = .ok (.if_icmp .lt 7, 3) := by decide +kernel
theorem dX4_channelAt_10 : decode cX4_channelAt 10 = .ok (.aconst_null, 1) := by decide +kernel
theorem dX4_channelAt_11 : decode cX4_channelAt 11 = .ok (.goto 9, 3) := by decide +kernel
theorem dX4_channelAt_14 : decode cX4_channelAt 14 = .ok (.aload_n 0, 1) := by decide +kernel
theorem dX4_channelAt_15 : decode cX4_channelAt 15 = .ok (.getfield 11, 3) := by decide +kernel
theorem dX4_channelAt_18 : decode cX4_channelAt 18 = .ok (.iload_n 1, 1) := by decide +kernel
theorem dX4_channelAt_19 : decode cX4_channelAt 19 = .ok (.aaload, 1) := by decide +kernel
theorem dX4_channelAt_20 : decode cX4_channelAt 20 = .ok (.areturn, 1) := by decide +kernel
theorem dX4_cableAt_0 : decode cX4_cableAt 0 = .ok (.iload_n 1, 1) := by decide +kernel
theorem dX4_cableAt_1 : decode cX4_cableAt 1 = .ok (.ifCond .lt 9, 3) := by decide +kernel
theorem dX4_cableAt_4 : decode cX4_cableAt 4 = .ok (.iload_n 1, 1) := by decide +kernel
theorem dX4_cableAt_5 : decode cX4_cableAt 5 = .ok (.bipush 24, 2) := by decide +kernel
theorem dX4_cableAt_7 : decode cX4_cableAt 7 = .ok (.if_icmp .lt 7, 3) := by decide +kernel
theorem dX4_cableAt_10 : decode cX4_cableAt 10 = .ok (.aconst_null, 1) := by decide +kernel
theorem dX4_cableAt_11 : decode cX4_cableAt 11 = .ok (.goto 9, 3) := by decide +kernel
theorem dX4_cableAt_14 : decode cX4_cableAt 14 = .ok (.aload_n 0, 1) := by decide +kernel
theorem dX4_cableAt_15 : decode cX4_cableAt 15 = .ok (.getfield 17, 3) := by decide +kernel
theorem dX4_cableAt_18 : decode cX4_cableAt 18 = .ok (.iload_n 1, 1) := by decide +kernel
theorem dX4_cableAt_19 : decode cX4_cableAt 19 = .ok (.aaload, 1) := by decide +kernel
theorem dX4_cableAt_20 : decode cX4_cableAt 20 = .ok (.areturn, 1) := by decide +kernel
theorem dX4_isPlain_0 : decode cX4_isPlain 0 = .ok (.iload_n 0, 1) := by decide +kernel
theorem dX4_isPlain_1 : decode cX4_isPlain 1 = .ok (.ifCond .lt 13, 3) := by decide +kernel
theorem dX4_isPlain_4 : decode cX4_isPlain 4 = .ok (.iload_n 0, 1) := by decide +kernel
theorem dX4_isPlain_5 : decode cX4_isPlain 5 = .ok (.bipush 7, 2) := by decide +kernel
theorem dX4_isPlain_7 : decode cX4_isPlain 7 = .ok (.if_icmp .gt 7, 3) := by decide +kernel
theorem dX4_isPlain_10 : decode cX4_isPlain 10 = .ok (.iconst 1, 1) := by decide +kernel
theorem dX4_isPlain_11 : decode cX4_isPlain 11 = .ok (.goto 4, 3) := by decide +kernel
theorem dX4_isPlain_14 : decode cX4_isPlain 14 = .ok (.iconst 0, 1) := by decide +kernel
theorem dX4_isPlain_15 : decode cX4_isPlain 15 = .ok (.ireturn, 1) := by decide +kernel
theorem dX4_isTapeKind_0 : decode cX4_isTapeKind 0 = .ok (.iload_n 0, 1) := by decide +kernel
theorem dX4_isTapeKind_1 : decode cX4_isTapeKind 1 = .ok (.ifCond .lt 13, 3) := by decide +kernel
theorem dX4_isTapeKind_4 : decode cX4_isTapeKind 4 = .ok (.iload_n 0, 1) := by decide +kernel
theorem dX4_isTapeKind_5 : decode cX4_isTapeKind 5 = .ok (.bipush 10, 2) := by decide +kernel
theorem dX4_isTapeKind_7 : decode cX4_isTapeKind 7 = .ok (.if_icmp .gt 7, 3) := by decide +kernel
theorem dX4_isTapeKind_10 : decode cX4_isTapeKind 10 = .ok (.iconst 1, 1) := by decide +kernel
theorem dX4_isTapeKind_11 : decode cX4_isTapeKind 11 = .ok (.goto 4, 3) := by decide +kernel
theorem dX4_isTapeKind_14 : decode cX4_isTapeKind 14 = .ok (.iconst 0, 1) := by decide +kernel
theorem dX4_isTapeKind_15 : decode cX4_isTapeKind 15 = .ok (.ireturn, 1) := by decide +kernel
theorem dX4_takes_0 : decode cX4_takes 0 = .ok (.iload_n 0, 1) := by decide +kernel
theorem dX4_takes_1 : decode cX4_takes 1 = .ok (.tableswitch 146 0 10 #[119, 119, 130, 119, 146, 146, 146, 146, 59, 83, 101], 59) := by decide +kernel
theorem dX4_takes_60 : decode cX4_takes 60 = .ok (.iload_n 1, 1) := by decide +kernel
theorem dX4_takes_61 : decode cX4_takes 61 = .ok (.bipush 8, 2) := by decide +kernel
theorem dX4_takes_63 : decode cX4_takes 63 = .ok (.if_icmp .eq 15, 3) := by decide +kernel
theorem dX4_takes_66 : decode cX4_takes 66 = .ok (.iload_n 1, 1) := by decide +kernel
theorem dX4_takes_67 : decode cX4_takes 67 = .ok (.bipush 9, 2) := by decide +kernel
theorem dX4_takes_69 : decode cX4_takes 69 = .ok (.if_icmp .eq 9, 3) := by decide +kernel
theorem dX4_takes_72 : decode cX4_takes 72 = .ok (.iload_n 1, 1) := by decide +kernel
theorem dX4_takes_73 : decode cX4_takes 73 = .ok (.bipush 11, 2) := by decide +kernel
theorem dX4_takes_75 : decode cX4_takes 75 = .ok (.if_icmp .ne 7, 3) := by decide +kernel
theorem dX4_takes_78 : decode cX4_takes 78 = .ok (.iconst 1, 1) := by decide +kernel
theorem dX4_takes_79 : decode cX4_takes 79 = .ok (.goto 4, 3) := by decide +kernel
theorem dX4_takes_82 : decode cX4_takes 82 = .ok (.iconst 0, 1) := by decide +kernel
theorem dX4_takes_83 : decode cX4_takes 83 = .ok (.ireturn, 1) := by decide +kernel
theorem dX4_takes_84 : decode cX4_takes 84 = .ok (.iload_n 1, 1) := by decide +kernel
theorem dX4_takes_85 : decode cX4_takes 85 = .ok (.bipush 9, 2) := by decide +kernel
theorem dX4_takes_87 : decode cX4_takes 87 = .ok (.if_icmp .eq 9, 3) := by decide +kernel
theorem dX4_takes_90 : decode cX4_takes 90 = .ok (.iload_n 1, 1) := by decide +kernel
theorem dX4_takes_91 : decode cX4_takes 91 = .ok (.bipush 11, 2) := by decide +kernel
theorem dX4_takes_93 : decode cX4_takes 93 = .ok (.if_icmp .ne 7, 3) := by decide +kernel
theorem dX4_takes_96 : decode cX4_takes 96 = .ok (.iconst 1, 1) := by decide +kernel
theorem dX4_takes_97 : decode cX4_takes 97 = .ok (.goto 4, 3) := by decide +kernel
theorem dX4_takes_100 : decode cX4_takes 100 = .ok (.iconst 0, 1) := by decide +kernel
theorem dX4_takes_101 : decode cX4_takes 101 = .ok (.ireturn, 1) := by decide +kernel
theorem dX4_takes_102 : decode cX4_takes 102 = .ok (.iload_n 1, 1) := by decide +kernel
theorem dX4_takes_103 : decode cX4_takes 103 = .ok (.bipush 10, 2) := by decide +kernel
theorem dX4_takes_105 : decode cX4_takes 105 = .ok (.if_icmp .eq 9, 3) := by decide +kernel
theorem dX4_takes_108 : decode cX4_takes 108 = .ok (.iload_n 1, 1) := by decide +kernel
theorem dX4_takes_109 : decode cX4_takes 109 = .ok (.bipush 11, 2) := by decide +kernel
theorem dX4_takes_111 : decode cX4_takes 111 = .ok (.if_icmp .ne 7, 3) := by decide +kernel
theorem dX4_takes_114 : decode cX4_takes 114 = .ok (.iconst 1, 1) := by decide +kernel
theorem dX4_takes_115 : decode cX4_takes 115 = .ok (.goto 4, 3) := by decide +kernel
theorem dX4_takes_118 : decode cX4_takes 118 = .ok (.iconst 0, 1) := by decide +kernel
theorem dX4_takes_119 : decode cX4_takes 119 = .ok (.ireturn, 1) := by decide +kernel
theorem dX4_takes_120 : decode cX4_takes 120 = .ok (.iload_n 1, 1) := by decide +kernel
theorem dX4_takes_121 : decode cX4_takes 121 = .ok (.iload_n 0, 1) := by decide +kernel
theorem dX4_takes_122 : decode cX4_takes 122 = .ok (.if_icmp .ne 7, 3) := by decide +kernel
theorem dX4_takes_125 : decode cX4_takes 125 = .ok (.iconst 1, 1) := by decide +kernel
theorem dX4_takes_126 : decode cX4_takes 126 = .ok (.goto 4, 3) := by decide +kernel
theorem dX4_takes_129 : decode cX4_takes 129 = .ok (.iconst 0, 1) := by decide +kernel
theorem dX4_takes_130 : decode cX4_takes 130 = .ok (.ireturn, 1) := by decide +kernel
theorem dX4_takes_131 : decode cX4_takes 131 = .ok (.iload_n 1, 1) := by decide +kernel
theorem dX4_takes_132 : decode cX4_takes 132 = .ok (.iconst 1, 1) := by decide +kernel
theorem dX4_takes_133 : decode cX4_takes 133 = .ok (.if_icmp .eq 8, 3) := by decide +kernel
theorem dX4_takes_136 : decode cX4_takes 136 = .ok (.iload_n 1, 1) := by decide +kernel
theorem dX4_takes_137 : decode cX4_takes 137 = .ok (.iconst 2, 1) := by decide +kernel
theorem dX4_takes_138 : decode cX4_takes 138 = .ok (.if_icmp .ne 7, 3) := by decide +kernel
theorem dX4_takes_141 : decode cX4_takes 141 = .ok (.iconst 1, 1) := by decide +kernel
theorem dX4_takes_142 : decode cX4_takes 142 = .ok (.goto 4, 3) := by decide +kernel
theorem dX4_takes_145 : decode cX4_takes 145 = .ok (.iconst 0, 1) := by decide +kernel
theorem dX4_takes_146 : decode cX4_takes 146 = .ok (.ireturn, 1) := by decide +kernel
theorem dX4_takes_147 : decode cX4_takes 147 = .ok (.iload_n 1, 1) := by decide +kernel
theorem dX4_takes_148 : decode cX4_takes 148 = .ok (.iconst 1, 1) := by decide +kernel
theorem dX4_takes_149 : decode cX4_takes 149 = .ok (.if_icmp .lt 12, 3) := by decide +kernel
theorem dX4_takes_152 : decode cX4_takes 152 = .ok (.iload_n 1, 1) := by decide +kernel
theorem dX4_takes_153 : decode cX4_takes 153 = .ok (.iload_n 0, 1) := by decide +kernel
theorem dX4_takes_154 : decode cX4_takes 154 = .ok (.if_icmp .gt 7, 3) := by decide +kernel
theorem dX4_takes_157 : decode cX4_takes 157 = .ok (.iconst 1, 1) := by decide +kernel
theorem dX4_takes_158 : decode cX4_takes 158 = .ok (.goto 4, 3) := by decide +kernel
theorem dX4_takes_161 : decode cX4_takes 161 = .ok (.iconst 0, 1) := by decide +kernel
theorem dX4_takes_162 : decode cX4_takes 162 = .ok (.ireturn, 1) := by decide +kernel
theorem dX4_fitted_0 : decode cX4_fitted 0 = .ok (.iload_n 0, 1) := by decide +kernel
theorem dX4_fitted_1 : decode cX4_fitted 1 = .ok (.tableswitch 86 0 7 #[47, 59, 64, 69, 74, 86, 78, 82], 47) := by decide +kernel
theorem dX4_fitted_48 : decode cX4_fitted 48 = .ok (.lload_n 1, 1) := by decide +kernel
theorem dX4_fitted_49 : decode cX4_fitted 49 = .ok (.lconst 0, 1) := by decide +kernel
theorem dX4_fitted_50 : decode cX4_fitted 50 = .ok (.lcmp, 1) := by decide +kernel
theorem dX4_fitted_51 : decode cX4_fitted 51 = .ok (.ifCond .eq 7, 3) := by decide +kernel
theorem dX4_fitted_54 : decode cX4_fitted 54 = .ok (.lconst 1, 1) := by decide +kernel
theorem dX4_fitted_55 : decode cX4_fitted 55 = .ok (.goto 4, 3) := by decide +kernel
theorem dX4_fitted_58 : decode cX4_fitted 58 = .ok (.lconst 0, 1) := by decide +kernel
theorem dX4_fitted_59 : decode cX4_fitted 59 = .ok (.lreturn, 1) := by decide +kernel
theorem dX4_fitted_60 : decode cX4_fitted 60 = .ok (.lload_n 1, 1) := by decide +kernel
theorem dX4_fitted_61 : decode cX4_fitted 61 = .ok (.l2i, 1) := by decide +kernel
theorem dX4_fitted_62 : decode cX4_fitted 62 = .ok (.i2b, 1) := by decide +kernel
theorem dX4_fitted_63 : decode cX4_fitted 63 = .ok (.i2l, 1) := by decide +kernel
theorem dX4_fitted_64 : decode cX4_fitted 64 = .ok (.lreturn, 1) := by decide +kernel
theorem dX4_fitted_65 : decode cX4_fitted 65 = .ok (.lload_n 1, 1) := by decide +kernel
theorem dX4_fitted_66 : decode cX4_fitted 66 = .ok (.l2i, 1) := by decide +kernel
theorem dX4_fitted_67 : decode cX4_fitted 67 = .ok (.i2s, 1) := by decide +kernel
theorem dX4_fitted_68 : decode cX4_fitted 68 = .ok (.i2l, 1) := by decide +kernel
theorem dX4_fitted_69 : decode cX4_fitted 69 = .ok (.lreturn, 1) := by decide +kernel
theorem dX4_fitted_70 : decode cX4_fitted 70 = .ok (.lload_n 1, 1) := by decide +kernel
theorem dX4_fitted_71 : decode cX4_fitted 71 = .ok (.l2i, 1) := by decide +kernel
theorem dX4_fitted_72 : decode cX4_fitted 72 = .ok (.i2c, 1) := by decide +kernel
theorem dX4_fitted_73 : decode cX4_fitted 73 = .ok (.i2l, 1) := by decide +kernel
theorem dX4_fitted_74 : decode cX4_fitted 74 = .ok (.lreturn, 1) := by decide +kernel
theorem dX4_fitted_75 : decode cX4_fitted 75 = .ok (.lload_n 1, 1) := by decide +kernel
theorem dX4_fitted_76 : decode cX4_fitted 76 = .ok (.l2i, 1) := by decide +kernel
theorem dX4_fitted_77 : decode cX4_fitted 77 = .ok (.i2l, 1) := by decide +kernel
theorem dX4_fitted_78 : decode cX4_fitted 78 = .ok (.lreturn, 1) := by decide +kernel
theorem dX4_fitted_79 : decode cX4_fitted 79 = .ok (.lload_n 1, 1) := by decide +kernel
theorem dX4_fitted_80 : decode cX4_fitted 80 = .ok (.l2f, 1) := by decide +kernel
theorem dX4_fitted_81 : decode cX4_fitted 81 = .ok (.f2l, 1) := by decide +kernel
theorem dX4_fitted_82 : decode cX4_fitted 82 = .ok (.lreturn, 1) := by decide +kernel
theorem dX4_fitted_83 : decode cX4_fitted 83 = .ok (.lload_n 1, 1) := by decide +kernel
theorem dX4_fitted_84 : decode cX4_fitted 84 = .ok (.l2d, 1) := by decide +kernel
theorem dX4_fitted_85 : decode cX4_fitted 85 = .ok (.d2l, 1) := by decide +kernel
theorem dX4_fitted_86 : decode cX4_fitted 86 = .ok (.lreturn, 1) := by decide +kernel
theorem dX4_fitted_87 : decode cX4_fitted 87 = .ok (.lload_n 1, 1) := by decide +kernel
theorem dX4_fitted_88 : decode cX4_fitted 88 = .ok (.lreturn, 1) := by decide +kernel
theorem dX4_meet_0 : decode cX4_meet 0 = .ok (.iload_n 1, 1) := by decide +kernel
theorem dX4_meet_1 : decode cX4_meet 1 = .ok (.ifCond .le 22, 3) := by decide +kernel
theorem dX4_meet_4 : decode cX4_meet 4 = .ok (.iload_n 1, 1) := by decide +kernel
theorem dX4_meet_5 : decode cX4_meet 5 = .ok (.aload_n 0, 1) := by decide +kernel
theorem dX4_meet_6 : decode cX4_meet 6 = .ok (.getfield 39, 3) := by decide +kernel
theorem dX4_meet_9 : decode cX4_meet 9 = .ok (.arraylength, 1) := by decide +kernel
theorem dX4_meet_10 : decode cX4_meet 10 = .ok (.if_icmp .ge 13, 3) := by decide +kernel
theorem dX4_meet_13 : decode cX4_meet 13 = .ok (.aload_n 0, 1) := by decide +kernel
theorem dX4_meet_14 : decode cX4_meet 14 = .ok (.getfield 39, 3) := by decide +kernel
theorem dX4_meet_17 : decode cX4_meet 17 = .ok (.iload_n 1, 1) := by decide +kernel
theorem dX4_meet_18 : decode cX4_meet 18 = .ok (.dup2, 1) := by decide +kernel
theorem dX4_meet_19 : decode cX4_meet 19 = .ok (.iaload, 1) := by decide +kernel
theorem dX4_meet_20 : decode cX4_meet 20 = .ok (.iconst 1, 1) := by decide +kernel
theorem dX4_meet_21 : decode cX4_meet 21 = .ok (.iadd, 1) := by decide +kernel
theorem dX4_meet_22 : decode cX4_meet 22 = .ok (.iastore, 1) := by decide +kernel
theorem dX4_meet_23 : decode cX4_meet 23 = .ok (.return_, 1) := by decide +kernel
theorem dX4_timesMet_0 : decode cX4_timesMet 0 = .ok (.iload_n 1, 1) := by decide +kernel
theorem dX4_timesMet_1 : decode cX4_timesMet 1 = .ok (.ifCond .le 21, 3) := by decide +kernel
theorem dX4_timesMet_4 : decode cX4_timesMet 4 = .ok (.iload_n 1, 1) := by decide +kernel
theorem dX4_timesMet_5 : decode cX4_timesMet 5 = .ok (.aload_n 0, 1) := by decide +kernel
theorem dX4_timesMet_6 : decode cX4_timesMet 6 = .ok (.getfield 39, 3) := by decide +kernel
theorem dX4_timesMet_9 : decode cX4_timesMet 9 = .ok (.arraylength, 1) := by decide +kernel
theorem dX4_timesMet_10 : decode cX4_timesMet 10 = .ok (.if_icmp .ge 12, 3) := by decide +kernel
theorem dX4_timesMet_13 : decode cX4_timesMet 13 = .ok (.aload_n 0, 1) := by decide +kernel
theorem dX4_timesMet_14 : decode cX4_timesMet 14 = .ok (.getfield 39, 3) := by decide +kernel
theorem dX4_timesMet_17 : decode cX4_timesMet 17 = .ok (.iload_n 1, 1) := by decide +kernel
theorem dX4_timesMet_18 : decode cX4_timesMet 18 = .ok (.iaload, 1) := by decide +kernel
theorem dX4_timesMet_19 : decode cX4_timesMet 19 = .ok (.goto 4, 3) := by decide +kernel
theorem dX4_timesMet_22 : decode cX4_timesMet 22 = .ok (.iconst (-1), 1) := by decide +kernel
theorem dX4_timesMet_23 : decode cX4_timesMet 23 = .ok (.ireturn, 1) := by decide +kernel
theorem dX4_note_0 : decode cX4_note 0 = .ok (.aload_n 0, 1) := by decide +kernel
theorem dX4_note_1 : decode cX4_note 1 = .ok (.iload_n 1, 1) := by decide +kernel
theorem dX4_note_2 : decode cX4_note 2 = .ok (.putfield 43, 3) := by decide +kernel
theorem dX4_note_5 : decode cX4_note 5 = .ok (.aload_n 0, 1) := by decide +kernel
theorem dX4_note_6 : decode cX4_note 6 = .ok (.iload_n 1, 1) := by decide +kernel
theorem dX4_note_7 : decode cX4_note 7 = .ok (.invokevirtual 221, 3) := by decide +kernel
theorem dX4_note_10 : decode cX4_note 10 = .ok (.return_, 1) := by decide +kernel
theorem dX4_answer_0 : decode cX4_answer 0 = .ok (.aload_n 0, 1) := by decide +kernel
theorem dX4_answer_1 : decode cX4_answer 1 = .ok (.iload_n 1, 1) := by decide +kernel
theorem dX4_answer_2 : decode cX4_answer 2 = .ok (.invokevirtual 129, 3) := by decide +kernel
theorem dX4_answer_5 : decode cX4_answer 5 = .ok (.iload_n 1, 1) := by decide +kernel
theorem dX4_answer_6 : decode cX4_answer 6 = .ok (.ifCond .ne 7, 3) := by decide +kernel
theorem dX4_answer_9 : decode cX4_answer 9 = .ok (.iload_n 2, 1) := by decide +kernel
theorem dX4_answer_10 : decode cX4_answer 10 = .ok (.goto 7, 3) := by decide +kernel
theorem dX4_answer_13 : decode cX4_answer 13 = .ok (.bipush (-10), 2) := by decide +kernel
theorem dX4_answer_15 : decode cX4_answer 15 = .ok (.iload_n 1, 1) := by decide +kernel
theorem dX4_answer_16 : decode cX4_answer 16 = .ok (.isub, 1) := by decide +kernel
theorem dX4_answer_17 : decode cX4_answer 17 = .ok (.ireturn, 1) := by decide +kernel
theorem dX4_noteFault_0 : decode cX4_noteFault 0 = .ok (.aload_n 0, 1) := by decide +kernel
theorem dX4_noteFault_1 : decode cX4_noteFault 1 = .ok (.getfield 33, 3) := by decide +kernel
theorem dX4_noteFault_4 : decode cX4_noteFault 4 = .ok (.aload_n 0, 1) := by decide +kernel
theorem dX4_noteFault_5 : decode cX4_noteFault 5 = .ok (.getfield 36, 3) := by decide +kernel
theorem dX4_noteFault_8 : decode cX4_noteFault 8 = .ok (.bipush 20, 2) := by decide +kernel
theorem dX4_noteFault_10 : decode cX4_noteFault 10 = .ok (.invokestatic 214, 3) := by decide +kernel
theorem dX4_noteFault_13 : decode cX4_noteFault 13 = .ok (.aaload, 1) := by decide +kernel
theorem dX4_noteFault_14 : decode cX4_noteFault 14 = .ok (.astore_n 3, 1) := by decide +kernel
theorem dX4_noteFault_15 : decode cX4_noteFault 15 = .ok (.aload_n 3, 1) := by decide +kernel
theorem dX4_noteFault_16 : decode cX4_noteFault 16 = .ok (.iconst 0, 1) := by decide +kernel
theorem dX4_noteFault_17 : decode cX4_noteFault 17 = .ok (.aload_n 0, 1) := by decide +kernel
theorem dX4_noteFault_18 : decode cX4_noteFault 18 = .ok (.getfield 28, 3) := by decide +kernel
theorem dX4_noteFault_21 : decode cX4_noteFault 21 = .ok (.iastore, 1) := by decide +kernel
theorem dX4_noteFault_22 : decode cX4_noteFault 22 = .ok (.aload_n 3, 1) := by decide +kernel
theorem dX4_noteFault_23 : decode cX4_noteFault 23 = .ok (.iconst 1, 1) := by decide +kernel
theorem dX4_noteFault_24 : decode cX4_noteFault 24 = .ok (.iload_n 1, 1) := by decide +kernel
theorem dX4_noteFault_25 : decode cX4_noteFault 25 = .ok (.iastore, 1) := by decide +kernel
theorem dX4_noteFault_26 : decode cX4_noteFault 26 = .ok (.aload_n 3, 1) := by decide +kernel
theorem dX4_noteFault_27 : decode cX4_noteFault 27 = .ok (.iconst 2, 1) := by decide +kernel
theorem dX4_noteFault_28 : decode cX4_noteFault 28 = .ok (.iload_n 2, 1) := by decide +kernel
theorem dX4_noteFault_29 : decode cX4_noteFault 29 = .ok (.iastore, 1) := by decide +kernel
theorem dX4_noteFault_30 : decode cX4_noteFault 30 = .ok (.aload_n 0, 1) := by decide +kernel
theorem dX4_noteFault_31 : decode cX4_noteFault 31 = .ok (.dup, 1) := by decide +kernel
theorem dX4_noteFault_32 : decode cX4_noteFault 32 = .ok (.getfield 36, 3) := by decide +kernel
theorem dX4_noteFault_35 : decode cX4_noteFault 35 = .ok (.iconst 1, 1) := by decide +kernel
theorem dX4_noteFault_36 : decode cX4_noteFault 36 = .ok (.iadd, 1) := by decide +kernel
theorem dX4_noteFault_37 : decode cX4_noteFault 37 = .ok (.putfield 36, 3) := by decide +kernel
theorem dX4_noteFault_40 : decode cX4_noteFault 40 = .ok (.aload_n 0, 1) := by decide +kernel
theorem dX4_noteFault_41 : decode cX4_noteFault 41 = .ok (.iload_n 2, 1) := by decide +kernel
theorem dX4_noteFault_42 : decode cX4_noteFault 42 = .ok (.invokevirtual 221, 3) := by decide +kernel
theorem dX4_noteFault_45 : decode cX4_noteFault 45 = .ok (.return_, 1) := by decide +kernel
theorem dX4_keepBooks_0 : decode cX4_keepBooks 0 = .ok (.iload_n 2, 1) := by decide +kernel
theorem dX4_keepBooks_1 : decode cX4_keepBooks 1 = .ok (.ifCond .eq 22, 3) := by decide +kernel
theorem dX4_keepBooks_4 : decode cX4_keepBooks 4 = .ok (.iload_n 2, 1) := by decide +kernel
theorem dX4_keepBooks_5 : decode cX4_keepBooks 5 = .ok (.iconst (-1), 1) := by decide +kernel
theorem dX4_keepBooks_6 : decode cX4_keepBooks 6 = .ok (.if_icmp .eq 17, 3) := by decide +kernel
theorem dX4_keepBooks_9 : decode cX4_keepBooks 9 = .ok (.aload_n 0, 1) := by decide +kernel
theorem dX4_keepBooks_10 : decode cX4_keepBooks 10 = .ok (.aload_n 1, 1) := by decide +kernel
theorem dX4_keepBooks_11 : decode cX4_keepBooks 11 = .ok (.getfield 224, 3) := by decide +kernel
theorem dX4_keepBooks_14 : decode cX4_keepBooks 14 = .ok (.iload_n 2, 1) := by decide +kernel
theorem dX4_keepBooks_15 : decode cX4_keepBooks 15 = .ok (.invokevirtual 225, 3) := by decide +kernel
theorem dX4_keepBooks_18 : decode cX4_keepBooks 18 = .ok (.aload_n 1, 1) := by decide +kernel
theorem dX4_keepBooks_19 : decode cX4_keepBooks 19 = .ok (.invokevirtual 228, 3) := by decide +kernel
theorem dX4_keepBooks_22 : decode cX4_keepBooks 22 = .ok (.return_, 1) := by decide +kernel
theorem dX4_keepBooks_23 : decode cX4_keepBooks 23 = .ok (.aload_n 1, 1) := by decide +kernel
theorem dX4_keepBooks_24 : decode cX4_keepBooks 24 = .ok (.iconst 0, 1) := by decide +kernel
theorem dX4_keepBooks_25 : decode cX4_keepBooks 25 = .ok (.putfield 157, 3) := by decide +kernel
theorem dX4_keepBooks_28 : decode cX4_keepBooks 28 = .ok (.iload_n 2, 1) := by decide +kernel
theorem dX4_keepBooks_29 : decode cX4_keepBooks 29 = .ok (.iconst (-1), 1) := by decide +kernel
theorem dX4_keepBooks_30 : decode cX4_keepBooks 30 = .ok (.if_icmp .ne 16, 3) := by decide +kernel
theorem dX4_keepBooks_33 : decode cX4_keepBooks 33 = .ok (.aload_n 1, 1) := by decide +kernel
theorem dX4_keepBooks_34 : decode cX4_keepBooks 34 = .ok (.dup, 1) := by decide +kernel
theorem dX4_keepBooks_35 : decode cX4_keepBooks 35 = .ok (.getfield 211, 3) := by decide +kernel
theorem dX4_keepBooks_38 : decode cX4_keepBooks 38 = .ok (.iconst 1, 1) := by decide +kernel
theorem dX4_keepBooks_39 : decode cX4_keepBooks 39 = .ok (.iadd, 1) := by decide +kernel
theorem dX4_keepBooks_40 : decode cX4_keepBooks 40 = .ok (.putfield 211, 3) := by decide +kernel
theorem dX4_keepBooks_43 : decode cX4_keepBooks 43 = .ok (.goto 13, 3) := by decide +kernel
theorem dX4_keepBooks_46 : decode cX4_keepBooks 46 = .ok (.aload_n 1, 1) := by decide +kernel
theorem dX4_keepBooks_47 : decode cX4_keepBooks 47 = .ok (.dup, 1) := by decide +kernel
theorem dX4_keepBooks_48 : decode cX4_keepBooks 48 = .ok (.getfield 208, 3) := by decide +kernel
theorem dX4_keepBooks_51 : decode cX4_keepBooks 51 = .ok (.iconst 1, 1) := by decide +kernel
theorem dX4_keepBooks_52 : decode cX4_keepBooks 52 = .ok (.iadd, 1) := by decide +kernel
theorem dX4_keepBooks_53 : decode cX4_keepBooks 53 = .ok (.putfield 208, 3) := by decide +kernel
theorem dX4_keepBooks_56 : decode cX4_keepBooks 56 = .ok (.return_, 1) := by decide +kernel
theorem dX4_carry_0 : decode cX4_carry 0 = .ok (.aload_n 1, 1) := by decide +kernel
theorem dX4_carry_1 : decode cX4_carry 1 = .ok (.getfield 198, 3) := by decide +kernel
theorem dX4_carry_4 : decode cX4_carry 4 = .ok (.getfield 92, 3) := by decide +kernel
theorem dX4_carry_7 : decode cX4_carry 7 = .ok (.istore_n 2, 1) := by decide +kernel
theorem dX4_carry_8 : decode cX4_carry 8 = .ok (.aload_n 1, 1) := by decide +kernel
theorem dX4_carry_9 : decode cX4_carry 9 = .ok (.getfield 205, 3) := by decide +kernel
theorem dX4_carry_12 : decode cX4_carry 12 = .ok (.getfield 92, 3) := by decide +kernel
theorem dX4_carry_15 : decode cX4_carry 15 = .ok (.istore_n 3, 1) := by decide +kernel
theorem dX4_carry_16 : decode cX4_carry 16 = .ok (.aload_n 1, 1) := by decide +kernel
theorem dX4_carry_17 : decode cX4_carry 17 = .ok (.getfield 197, 3) := by decide +kernel
theorem dX4_carry_20 : decode cX4_carry 20 = .ok (.tableswitch 73 1 3 #[28, 43, 58], 28) := by decide +kernel
theorem dX4_carry_48 : decode cX4_carry 48 = .ok (.aload_n 0, 1) := by decide +kernel
theorem dX4_carry_49 : decode cX4_carry 49 = .ok (.aload_n 1, 1) := by decide +kernel
theorem dX4_carry_50 : decode cX4_carry 50 = .ok (.getfield 198, 3) := by decide +kernel
theorem dX4_carry_53 : decode cX4_carry 53 = .ok (.iload_n 2, 1) := by decide +kernel
theorem dX4_carry_54 : decode cX4_carry 54 = .ok (.aload_n 1, 1) := by decide +kernel
theorem dX4_carry_55 : decode cX4_carry 55 = .ok (.getfield 205, 3) := by decide +kernel
theorem dX4_carry_58 : decode cX4_carry 58 = .ok (.iload_n 3, 1) := by decide +kernel
theorem dX4_carry_59 : decode cX4_carry 59 = .ok (.invokevirtual 231, 3) := by decide +kernel
theorem dX4_carry_62 : decode cX4_carry 62 = .ok (.ireturn, 1) := by decide +kernel
theorem dX4_carry_63 : decode cX4_carry 63 = .ok (.aload_n 0, 1) := by decide +kernel
theorem dX4_carry_64 : decode cX4_carry 64 = .ok (.aload_n 1, 1) := by decide +kernel
theorem dX4_carry_65 : decode cX4_carry 65 = .ok (.getfield 198, 3) := by decide +kernel
theorem dX4_carry_68 : decode cX4_carry 68 = .ok (.iload_n 2, 1) := by decide +kernel
theorem dX4_carry_69 : decode cX4_carry 69 = .ok (.aload_n 1, 1) := by decide +kernel
theorem dX4_carry_70 : decode cX4_carry 70 = .ok (.getfield 205, 3) := by decide +kernel
theorem dX4_carry_73 : decode cX4_carry 73 = .ok (.iload_n 3, 1) := by decide +kernel
theorem dX4_carry_74 : decode cX4_carry 74 = .ok (.invokevirtual 234, 3) := by decide +kernel
theorem dX4_carry_77 : decode cX4_carry 77 = .ok (.ireturn, 1) := by decide +kernel
theorem dX4_carry_78 : decode cX4_carry 78 = .ok (.aload_n 0, 1) := by decide +kernel
theorem dX4_carry_79 : decode cX4_carry 79 = .ok (.aload_n 1, 1) := by decide +kernel
theorem dX4_carry_80 : decode cX4_carry 80 = .ok (.getfield 198, 3) := by decide +kernel
theorem dX4_carry_83 : decode cX4_carry 83 = .ok (.iload_n 2, 1) := by decide +kernel
theorem dX4_carry_84 : decode cX4_carry 84 = .ok (.aload_n 1, 1) := by decide +kernel
theorem dX4_carry_85 : decode cX4_carry 85 = .ok (.getfield 205, 3) := by decide +kernel
theorem dX4_carry_88 : decode cX4_carry 88 = .ok (.iload_n 3, 1) := by decide +kernel
theorem dX4_carry_89 : decode cX4_carry 89 = .ok (.invokevirtual 237, 3) := by decide +kernel
theorem dX4_carry_92 : decode cX4_carry 92 = .ok (.ireturn, 1) := by decide +kernel
theorem dX4_carry_93 : decode cX4_carry 93 = .ok (.aload_n 0, 1) := by decide +kernel
theorem dX4_carry_94 : decode cX4_carry 94 = .ok (.aload_n 1, 1) := by decide +kernel
theorem dX4_carry_95 : decode cX4_carry 95 = .ok (.getfield 198, 3) := by decide +kernel
theorem dX4_carry_98 : decode cX4_carry 98 = .ok (.iload_n 2, 1) := by decide +kernel
theorem dX4_carry_99 : decode cX4_carry 99 = .ok (.aload_n 1, 1) := by decide +kernel
theorem dX4_carry_100 : decode cX4_carry 100 = .ok (.getfield 205, 3) := by decide +kernel
theorem dX4_carry_103 : decode cX4_carry 103 = .ok (.iload_n 3, 1) := by decide +kernel
theorem dX4_carry_104 : decode cX4_carry 104 = .ok (.invokevirtual 172, 3) := by decide +kernel
theorem dX4_carry_107 : decode cX4_carry 107 = .ok (.ireturn, 1) := by decide +kernel
theorem dX4_wire_0 : decode cX4_wire 0 = .ok (.aload_n 1, 1) := by decide +kernel
theorem dX4_wire_1 : decode cX4_wire 1 = .ok (.iload_n 2, 1) := by decide +kernel
theorem dX4_wire_2 : decode cX4_wire 2 = .ok (.aload_n 0, 1) := by decide +kernel
theorem dX4_wire_3 : decode cX4_wire 3 = .ok (.getfield 49, 3) := by decide +kernel
theorem dX4_wire_6 : decode cX4_wire 6 = .ok (.invokevirtual 119, 3) := by decide +kernel
theorem dX4_wire_9 : decode cX4_wire 9 = .ok (.istore 5, 2) := by decide +kernel
theorem dX4_wire_11 : decode cX4_wire 11 = .ok (.iload 5, 2) := by decide +kernel
theorem dX4_wire_13 : decode cX4_wire 13 = .ok (.ifCond .eq 8, 3) := by decide +kernel
theorem dX4_wire_16 : decode cX4_wire 16 = .ok (.iload 5, 2) := by decide +kernel
theorem dX4_wire_18 : decode cX4_wire 18 = .ok (.goto 13, 3) := by decide +kernel
theorem dX4_wire_21 : decode cX4_wire 21 = .ok (.aload_n 3, 1) := by decide +kernel
theorem dX4_wire_22 : decode cX4_wire 22 = .ok (.iload 4, 2) := by decide +kernel
theorem dX4_wire_24 : decode cX4_wire 24 = .ok (.aload_n 0, 1) := by decide +kernel
theorem dX4_wire_25 : decode cX4_wire 25 = .ok (.getfield 49, 3) := by decide +kernel
theorem dX4_wire_28 : decode cX4_wire 28 = .ok (.invokevirtual 115, 3) := by decide +kernel
theorem dX4_wire_31 : decode cX4_wire 31 = .ok (.ireturn, 1) := by decide +kernel
theorem dX4_gate_0 : decode cX4_gate 0 = .ok (.aload_n 1, 1) := by decide +kernel
theorem dX4_gate_1 : decode cX4_gate 1 = .ok (.iload_n 2, 1) := by decide +kernel
theorem dX4_gate_2 : decode cX4_gate 2 = .ok (.aload_n 0, 1) := by decide +kernel
theorem dX4_gate_3 : decode cX4_gate 3 = .ok (.getfield 49, 3) := by decide +kernel
theorem dX4_gate_6 : decode cX4_gate 6 = .ok (.invokevirtual 119, 3) := by decide +kernel
theorem dX4_gate_9 : decode cX4_gate 9 = .ok (.istore 5, 2) := by decide +kernel
theorem dX4_gate_11 : decode cX4_gate 11 = .ok (.iload 5, 2) := by decide +kernel
theorem dX4_gate_13 : decode cX4_gate 13 = .ok (.ifCond .eq 6, 3) := by decide +kernel
theorem dX4_gate_16 : decode cX4_gate 16 = .ok (.iload 5, 2) := by decide +kernel
theorem dX4_gate_18 : decode cX4_gate 18 = .ok (.ireturn, 1) := by decide +kernel
theorem dX4_gate_19 : decode cX4_gate 19 = .ok (.aload_n 0, 1) := by decide +kernel
theorem dX4_gate_20 : decode cX4_gate 20 = .ok (.getfield 49, 3) := by decide +kernel
theorem dX4_gate_23 : decode cX4_gate 23 = .ok (.getfield 132, 3) := by decide +kernel
theorem dX4_gate_26 : decode cX4_gate 26 = .ok (.lconst 0, 1) := by decide +kernel
theorem dX4_gate_27 : decode cX4_gate 27 = .ok (.lcmp, 1) := by decide +kernel
theorem dX4_gate_28 : decode cX4_gate 28 = .ok (.ifCond .ne 7, 3) := by decide +kernel
theorem dX4_gate_31 : decode cX4_gate 31 = .ok (.iconst (-1), 1) := by decide +kernel
theorem dX4_gate_32 : decode cX4_gate 32 = .ok (.goto 13, 3) := by decide +kernel
theorem dX4_gate_35 : decode cX4_gate 35 = .ok (.aload_n 3, 1) := by decide +kernel
theorem dX4_gate_36 : decode cX4_gate 36 = .ok (.iload 4, 2) := by decide +kernel
theorem dX4_gate_38 : decode cX4_gate 38 = .ok (.aload_n 0, 1) := by decide +kernel
theorem dX4_gate_39 : decode cX4_gate 39 = .ok (.getfield 49, 3) := by decide +kernel
theorem dX4_gate_42 : decode cX4_gate 42 = .ok (.invokevirtual 115, 3) := by decide +kernel
theorem dX4_gate_45 : decode cX4_gate 45 = .ok (.ireturn, 1) := by decide +kernel
theorem dX4_pair_0 : decode cX4_pair 0 = .ok (.aload_n 0, 1) := by decide +kernel
theorem dX4_pair_1 : decode cX4_pair 1 = .ok (.aload_n 1, 1) := by decide +kernel
theorem dX4_pair_2 : decode cX4_pair 2 = .ok (.iload_n 2, 1) := by decide +kernel
theorem dX4_pair_3 : decode cX4_pair 3 = .ok (.aload_n 3, 1) := by decide +kernel
theorem dX4_pair_4 : decode cX4_pair 4 = .ok (.iload 4, 2) := by decide +kernel
theorem dX4_pair_6 : decode cX4_pair 6 = .ok (.invokevirtual 172, 3) := by decide +kernel
theorem dX4_pair_9 : decode cX4_pair 9 = .ok (.istore 5, 2) := by decide +kernel
theorem dX4_pair_11 : decode cX4_pair 11 = .ok (.iload 5, 2) := by decide +kernel
theorem dX4_pair_13 : decode cX4_pair 13 = .ok (.ifCond .eq 8, 3) := by decide +kernel
theorem dX4_pair_16 : decode cX4_pair 16 = .ok (.iload 5, 2) := by decide +kernel
theorem dX4_pair_18 : decode cX4_pair 18 = .ok (.goto 16, 3) := by decide +kernel
theorem dX4_pair_21 : decode cX4_pair 21 = .ok (.aload_n 0, 1) := by decide +kernel
theorem dX4_pair_22 : decode cX4_pair 22 = .ok (.aload_n 1, 1) := by decide +kernel
theorem dX4_pair_23 : decode cX4_pair 23 = .ok (.iload_n 2, 1) := by decide +kernel
theorem dX4_pair_24 : decode cX4_pair 24 = .ok (.iconst 1, 1) := by decide +kernel
theorem dX4_pair_25 : decode cX4_pair 25 = .ok (.iadd, 1) := by decide +kernel
theorem dX4_pair_26 : decode cX4_pair 26 = .ok (.aload_n 3, 1) := by decide +kernel
theorem dX4_pair_27 : decode cX4_pair 27 = .ok (.iload 4, 2) := by decide +kernel
theorem dX4_pair_29 : decode cX4_pair 29 = .ok (.iconst 1, 1) := by decide +kernel
theorem dX4_pair_30 : decode cX4_pair 30 = .ok (.iadd, 1) := by decide +kernel
theorem dX4_pair_31 : decode cX4_pair 31 = .ok (.invokevirtual 172, 3) := by decide +kernel
theorem dX4_pair_34 : decode cX4_pair 34 = .ok (.ireturn, 1) := by decide +kernel
theorem dX4_swap_0 : decode cX4_swap 0 = .ok (.aload_n 1, 1) := by decide +kernel
theorem dX4_swap_1 : decode cX4_swap 1 = .ok (.iload_n 2, 1) := by decide +kernel
theorem dX4_swap_2 : decode cX4_swap 2 = .ok (.aload_n 0, 1) := by decide +kernel
theorem dX4_swap_3 : decode cX4_swap 3 = .ok (.getfield 49, 3) := by decide +kernel
theorem dX4_swap_6 : decode cX4_swap 6 = .ok (.invokevirtual 119, 3) := by decide +kernel
theorem dX4_swap_9 : decode cX4_swap 9 = .ok (.istore 5, 2) := by decide +kernel
theorem dX4_swap_11 : decode cX4_swap 11 = .ok (.iload 5, 2) := by decide +kernel
theorem dX4_swap_13 : decode cX4_swap 13 = .ok (.ifCond .ne 15, 3) := by decide +kernel
theorem dX4_swap_16 : decode cX4_swap 16 = .ok (.aload_n 3, 1) := by decide +kernel
theorem dX4_swap_17 : decode cX4_swap 17 = .ok (.iload 4, 2) := by decide +kernel
theorem dX4_swap_19 : decode cX4_swap 19 = .ok (.aload_n 0, 1) := by decide +kernel
theorem dX4_swap_20 : decode cX4_swap 20 = .ok (.getfield 53, 3) := by decide +kernel
theorem dX4_swap_23 : decode cX4_swap 23 = .ok (.invokevirtual 119, 3) := by decide +kernel
theorem dX4_swap_26 : decode cX4_swap 26 = .ok (.istore 5, 2) := by decide +kernel
theorem dX4_swap_28 : decode cX4_swap 28 = .ok (.iload 5, 2) := by decide +kernel
theorem dX4_swap_30 : decode cX4_swap 30 = .ok (.ifCond .ne 15, 3) := by decide +kernel
theorem dX4_swap_33 : decode cX4_swap 33 = .ok (.aload_n 3, 1) := by decide +kernel
theorem dX4_swap_34 : decode cX4_swap 34 = .ok (.iload 4, 2) := by decide +kernel
theorem dX4_swap_36 : decode cX4_swap 36 = .ok (.aload_n 0, 1) := by decide +kernel
theorem dX4_swap_37 : decode cX4_swap 37 = .ok (.getfield 49, 3) := by decide +kernel
theorem dX4_swap_40 : decode cX4_swap 40 = .ok (.invokevirtual 115, 3) := by decide +kernel
theorem dX4_swap_43 : decode cX4_swap 43 = .ok (.istore 5, 2) := by decide +kernel
theorem dX4_swap_45 : decode cX4_swap 45 = .ok (.iload 5, 2) := by decide +kernel
theorem dX4_swap_47 : decode cX4_swap 47 = .ok (.ifCond .eq 6, 3) := by decide +kernel
theorem dX4_swap_50 : decode cX4_swap 50 = .ok (.iload 5, 2) := by decide +kernel
theorem dX4_swap_52 : decode cX4_swap 52 = .ok (.ireturn, 1) := by decide +kernel
theorem dX4_swap_53 : decode cX4_swap 53 = .ok (.aload_n 1, 1) := by decide +kernel
theorem dX4_swap_54 : decode cX4_swap 54 = .ok (.iload_n 2, 1) := by decide +kernel
theorem dX4_swap_55 : decode cX4_swap 55 = .ok (.aload_n 0, 1) := by decide +kernel
theorem dX4_swap_56 : decode cX4_swap 56 = .ok (.getfield 53, 3) := by decide +kernel
theorem dX4_swap_59 : decode cX4_swap 59 = .ok (.invokevirtual 115, 3) := by decide +kernel
theorem dX4_swap_62 : decode cX4_swap 62 = .ok (.istore 5, 2) := by decide +kernel
theorem dX4_swap_64 : decode cX4_swap 64 = .ok (.iload 5, 2) := by decide +kernel
theorem dX4_swap_66 : decode cX4_swap 66 = .ok (.ifCond .eq 14, 3) := by decide +kernel
theorem dX4_swap_69 : decode cX4_swap 69 = .ok (.aload_n 3, 1) := by decide +kernel
theorem dX4_swap_70 : decode cX4_swap 70 = .ok (.iload 4, 2) := by decide +kernel
theorem dX4_swap_72 : decode cX4_swap 72 = .ok (.aload_n 0, 1) := by decide +kernel
theorem dX4_swap_73 : decode cX4_swap 73 = .ok (.getfield 53, 3) := by decide +kernel
theorem dX4_swap_76 : decode cX4_swap 76 = .ok (.invokevirtual 115, 3) := by decide +kernel
theorem dX4_swap_79 : decode cX4_swap 79 = .ok (.pop, 1) := by decide +kernel
theorem dX4_swap_80 : decode cX4_swap 80 = .ok (.iload 5, 2) := by decide +kernel
theorem dX4_swap_82 : decode cX4_swap 82 = .ok (.ireturn, 1) := by decide +kernel
theorem dX4_move_0 : decode cX4_move 0 = .ok (.aload_n 1, 1) := by decide +kernel
theorem dX4_move_1 : decode cX4_move 1 = .ok (.getfield 92, 3) := by decide +kernel
theorem dX4_move_4 : decode cX4_move 4 = .ok (.aload_n 1, 1) := by decide +kernel
theorem dX4_move_5 : decode cX4_move 5 = .ok (.getfield 95, 3) := by decide +kernel
theorem dX4_move_8 : decode cX4_move 8 = .ok (.iadd, 1) := by decide +kernel
theorem dX4_move_9 : decode cX4_move 9 = .ok (.istore_n 2, 1) := by decide +kernel
theorem dX4_move_10 : decode cX4_move 10 = .ok (.aload_n 1, 1) := by decide +kernel
theorem dX4_move_11 : decode cX4_move 11 = .ok (.getfield 98, 3) := by decide +kernel
theorem dX4_move_14 : decode cX4_move 14 = .ok (.ifCond .ne 9, 3) := by decide +kernel
theorem dX4_move_17 : decode cX4_move 17 = .ok (.aload_n 1, 1) := by decide +kernel
theorem dX4_move_18 : decode cX4_move 18 = .ok (.iload_n 2, 1) := by decide +kernel
theorem dX4_move_19 : decode cX4_move 19 = .ok (.putfield 92, 3) := by decide +kernel
theorem dX4_move_22 : decode cX4_move 22 = .ok (.return_, 1) := by decide +kernel
theorem dX4_move_23 : decode cX4_move 23 = .ok (.aload_n 1, 1) := by decide +kernel
theorem dX4_move_24 : decode cX4_move 24 = .ok (.getfield 84, 3) := by decide +kernel
theorem dX4_move_27 : decode cX4_move 27 = .ok (.astore_n 3, 1) := by decide +kernel
theorem dX4_move_28 : decode cX4_move 28 = .ok (.aload_n 3, 1) := by decide +kernel
theorem dX4_move_29 : decode cX4_move 29 = .ok (.ifnonnull 21, 3) := by decide +kernel
theorem dX4_move_32 : decode cX4_move 32 = .ok (.aload_n 0, 1) := by decide +kernel
theorem dX4_move_33 : decode cX4_move 33 = .ok (.bipush 100, 2) := by decide +kernel
theorem dX4_move_35 : decode cX4_move 35 = .ok (.aload_n 1, 1) := by decide +kernel
theorem dX4_move_36 : decode cX4_move 36 = .ok (.getfield 202, 3) := by decide +kernel
theorem dX4_move_39 : decode cX4_move 39 = .ok (.iadd, 1) := by decide +kernel
theorem dX4_move_40 : decode cX4_move 40 = .ok (.aload_n 1, 1) := by decide +kernel
theorem dX4_move_41 : decode cX4_move 41 = .ok (.invokevirtual 176, 3) := by decide +kernel
theorem dX4_move_44 : decode cX4_move 44 = .ok (.invokevirtual 225, 3) := by decide +kernel
theorem dX4_move_47 : decode cX4_move 47 = .ok (.goto 37, 3) := by decide +kernel
theorem dX4_move_50 : decode cX4_move 50 = .ok (.aload_n 3, 1) := by decide +kernel
theorem dX4_move_51 : decode cX4_move 51 = .ok (.getfield 141, 3) := by decide +kernel
theorem dX4_move_54 : decode cX4_move 54 = .ok (.ifCond .ne 18, 3) := by decide +kernel
theorem dX4_move_57 : decode cX4_move 57 = .ok (.aload_n 0, 1) := by decide +kernel
theorem dX4_move_58 : decode cX4_move 58 = .ok (.bipush 100, 2) := by decide +kernel
theorem dX4_move_60 : decode cX4_move 60 = .ok (.aload_n 1, 1) := by decide +kernel
theorem dX4_move_61 : decode cX4_move 61 = .ok (.getfield 202, 3) := by decide +kernel
theorem dX4_move_64 : decode cX4_move 64 = .ok (.iadd, 1) := by decide +kernel
theorem dX4_move_65 : decode cX4_move 65 = .ok (.iconst 4, 1) := by decide +kernel
theorem dX4_move_66 : decode cX4_move 66 = .ok (.invokevirtual 225, 3) := by decide +kernel
theorem dX4_move_69 : decode cX4_move 69 = .ok (.goto 15, 3) := by decide +kernel
theorem dX4_move_72 : decode cX4_move 72 = .ok (.aload_n 1, 1) := by decide +kernel
theorem dX4_move_73 : decode cX4_move 73 = .ok (.iload_n 2, 1) := by decide +kernel
theorem dX4_move_74 : decode cX4_move 74 = .ok (.aload_n 3, 1) := by decide +kernel
theorem dX4_move_75 : decode cX4_move 75 = .ok (.getfield 141, 3) := by decide +kernel
theorem dX4_move_78 : decode cX4_move 78 = .ok (.invokestatic 214, 3) := by decide +kernel
theorem dX4_move_81 : decode cX4_move 81 = .ok (.putfield 92, 3) := by decide +kernel
theorem dX4_move_84 : decode cX4_move 84 = .ok (.return_, 1) := by decide +kernel
theorem dX5_init_0 : decode cX5_init 0 = .ok (.aload_n 0, 1) := by decide +kernel
theorem dX5_init_1 : decode cX5_init 1 = .ok (.invokespecial 1, 3) := by decide +kernel
theorem dX5_init_4 : decode cX5_init 4 = .ok (.aload_n 0, 1) := by decide +kernel
theorem dX5_init_5 : decode cX5_init 5 = .ok (.sipush 560, 3) := by decide +kernel
theorem dX5_init_8 : decode cX5_init 8 = .ok (.newarray .int, 2) := by decide +kernel
theorem dX5_init_10 : decode cX5_init 10 = .ok (.putfield 7, 3) := by decide +kernel
theorem dX5_init_13 : decode cX5_init 13 = .ok (.aload_n 0, 1) := by decide +kernel
theorem dX5_init_14 : decode cX5_init 14 = .ok (.sipush 560, 3) := by decide +kernel
theorem dX5_init_17 : decode cX5_init 17 = .ok (.newarray .int, 2) := by decide +kernel
theorem dX5_init_19 : decode cX5_init 19 = .ok (.putfield 13, 3) := by decide +kernel
theorem dX5_init_22 : decode cX5_init 22 = .ok (.aload_n 0, 1) := by decide +kernel
theorem dX5_init_23 : decode cX5_init 23 = .ok (.sipush 560, 3) := by decide +kernel
theorem dX5_init_26 : decode cX5_init 26 = .ok (.newarray .boolean, 2) := by decide +kernel
theorem dX5_init_28 : decode cX5_init 28 = .ok (.putfield 16, 3) := by decide +kernel
theorem dX5_init_31 : decode cX5_init 31 = .ok (.aload_n 0, 1) := by decide +kernel
theorem dX5_init_32 : decode cX5_init 32 = .ok (.sipush 17920, 3) := by decide +kernel
theorem dX5_init_35 : decode cX5_init 35 = .ok (.newarray .long, 2) := by decide +kernel
theorem dX5_init_37 : decode cX5_init 37 = .ok (.putfield 20, 3) := by decide +kernel
theorem dX5_init_40 : decode cX5_init 40 = .ok (.aload_n 0, 1) := by decide +kernel
theorem dX5_init_41 : decode cX5_init 41 = .ok (.sipush 201, 3) := by decide +kernel
theorem dX5_init_44 : decode cX5_init 44 = .ok (.newarray .boolean, 2) := by decide +kernel
theorem dX5_init_46 : decode cX5_init 46 = .ok (.putfield 24, 3) := by decide +kernel
theorem dX5_init_49 : decode cX5_init 49 = .ok (.aload_n 0, 1) := by decide +kernel
theorem dX5_init_50 : decode cX5_init 50 = .ok (.bipush 16, 2) := by decide +kernel
theorem dX5_init_52 : decode cX5_init 52 = .ok (.newarray .int, 2) := by decide +kernel
theorem dX5_init_54 : decode cX5_init 54 = .ok (.putfield 27, 3) := by decide +kernel
theorem dX5_init_57 : decode cX5_init 57 = .ok (.aload_n 0, 1) := by decide +kernel
theorem dX5_init_58 : decode cX5_init 58 = .ok (.bipush 16, 2) := by decide +kernel
theorem dX5_init_60 : decode cX5_init 60 = .ok (.newarray .int, 2) := by decide +kernel
theorem dX5_init_62 : decode cX5_init 62 = .ok (.putfield 30, 3) := by decide +kernel
theorem dX5_init_65 : decode cX5_init 65 = .ok (.aload_n 0, 1) := by decide +kernel
theorem dX5_init_66 : decode cX5_init 66 = .ok (.bipush 16, 2) := by decide +kernel
theorem dX5_init_68 : decode cX5_init 68 = .ok (.newarray .int, 2) := by decide +kernel
theorem dX5_init_70 : decode cX5_init 70 = .ok (.putfield 33, 3) := by decide +kernel
theorem dX5_init_73 : decode cX5_init 73 = .ok (.aload_n 0, 1) := by decide +kernel
theorem dX5_init_74 : decode cX5_init 74 = .ok (.bipush 16, 2) := by decide +kernel
theorem dX5_init_76 : decode cX5_init 76 = .ok (.newarray .boolean, 2) := by decide +kernel
theorem dX5_init_78 : decode cX5_init 78 = .ok (.putfield 36, 3) := by decide +kernel
theorem dX5_init_81 : decode cX5_init 81 = .ok (.aload_n 0, 1) := by decide +kernel
theorem dX5_init_82 : decode cX5_init 82 = .ok (.bipush 24, 2) := by decide +kernel
theorem dX5_init_84 : decode cX5_init 84 = .ok (.newarray .int, 2) := by decide +kernel
theorem dX5_init_86 : decode cX5_init 86 = .ok (.putfield 39, 3) := by decide +kernel
theorem dX5_init_89 : decode cX5_init 89 = .ok (.aload_n 0, 1) := by decide +kernel
theorem dX5_init_90 : decode cX5_init 90 = .ok (.bipush 24, 2) := by decide +kernel
theorem dX5_init_92 : decode cX5_init 92 = .ok (.newarray .int, 2) := by decide +kernel
theorem dX5_init_94 : decode cX5_init 94 = .ok (.putfield 42, 3) := by decide +kernel
theorem dX5_init_97 : decode cX5_init 97 = .ok (.aload_n 0, 1) := by decide +kernel
theorem dX5_init_98 : decode cX5_init 98 = .ok (.bipush 24, 2) := by decide +kernel
theorem dX5_init_100 : decode cX5_init 100 = .ok (.newarray .int, 2) := by decide +kernel
theorem dX5_init_102 : decode cX5_init 102 = .ok (.putfield 45, 3) := by decide +kernel
theorem dX5_init_105 : decode cX5_init 105 = .ok (.aload_n 0, 1) := by decide +kernel
theorem dX5_init_106 : decode cX5_init 106 = .ok (.bipush 24, 2) := by decide +kernel
theorem dX5_init_108 : decode cX5_init 108 = .ok (.newarray .boolean, 2) := by decide +kernel
theorem dX5_init_110 : decode cX5_init 110 = .ok (.putfield 48, 3) := by decide +kernel
theorem dX5_init_113 : decode cX5_init 113 = .ok (.aload_n 0, 1) := by decide +kernel
theorem dX5_init_114 : decode cX5_init 114 = .ok (.bipush 24, 2) := by decide +kernel
theorem dX5_init_116 : decode cX5_init 116 = .ok (.newarray .int, 2) := by decide +kernel
theorem dX5_init_118 : decode cX5_init 118 = .ok (.putfield 51, 3) := by decide +kernel
theorem dX5_init_121 : decode cX5_init 121 = .ok (.aload_n 0, 1) := by decide +kernel
theorem dX5_init_122 : decode cX5_init 122 = .ok (.bipush 24, 2) := by decide +kernel
theorem dX5_init_124 : decode cX5_init 124 = .ok (.newarray .int, 2) := by decide +kernel
theorem dX5_init_126 : decode cX5_init 126 = .ok (.putfield 54, 3) := by decide +kernel
theorem dX5_init_129 : decode cX5_init 129 = .ok (.aload_n 0, 1) := by decide +kernel
theorem dX5_init_130 : decode cX5_init 130 = .ok (.bipush 24, 2) := by decide +kernel
theorem dX5_init_132 : decode cX5_init 132 = .ok (.newarray .int, 2) := by decide +kernel
theorem dX5_init_134 : decode cX5_init 134 = .ok (.putfield 57, 3) := by decide +kernel
theorem dX5_init_137 : decode cX5_init 137 = .ok (.aload_n 0, 1) := by decide +kernel
theorem dX5_init_138 : decode cX5_init 138 = .ok (.bipush 24, 2) := by decide +kernel
theorem dX5_init_140 : decode cX5_init 140 = .ok (.newarray .int, 2) := by decide +kernel
theorem dX5_init_142 : decode cX5_init 142 = .ok (.putfield 60, 3) := by decide +kernel
theorem dX5_init_145 : decode cX5_init 145 = .ok (.aload_n 0, 1) := by decide +kernel
theorem dX5_init_146 : decode cX5_init 146 = .ok (.bipush 20, 2) := by decide +kernel
theorem dX5_init_148 : decode cX5_init 148 = .ok (.newarray .int, 2) := by decide +kernel
theorem dX5_init_150 : decode cX5_init 150 = .ok (.putfield 63, 3) := by decide +kernel
theorem dX5_init_153 : decode cX5_init 153 = .ok (.aload_n 0, 1) := by decide +kernel
theorem dX5_init_154 : decode cX5_init 154 = .ok (.bipush 20, 2) := by decide +kernel
theorem dX5_init_156 : decode cX5_init 156 = .ok (.newarray .int, 2) := by decide +kernel
theorem dX5_init_158 : decode cX5_init 158 = .ok (.putfield 66, 3) := by decide +kernel
theorem dX5_init_161 : decode cX5_init 161 = .ok (.aload_n 0, 1) := by decide +kernel
theorem dX5_init_162 : decode cX5_init 162 = .ok (.bipush 20, 2) := by decide +kernel
theorem dX5_init_164 : decode cX5_init 164 = .ok (.newarray .int, 2) := by decide +kernel
theorem dX5_init_166 : decode cX5_init 166 = .ok (.putfield 69, 3) := by decide +kernel
theorem dX5_init_169 : decode cX5_init 169 = .ok (.aload_n 0, 1) := by decide +kernel
theorem dX5_init_170 : decode cX5_init 170 = .ok (.bipush 6, 2) := by decide +kernel
theorem dX5_init_172 : decode cX5_init 172 = .ok (.newarray .int, 2) := by decide +kernel
theorem dX5_init_174 : decode cX5_init 174 = .ok (.putfield 72, 3) := by decide +kernel
theorem dX5_init_177 : decode cX5_init 177 = .ok (.iconst 0, 1) := by decide +kernel
theorem dX5_init_178 : decode cX5_init 178 = .ok (.istore_n 1, 1) := by decide +kernel
theorem dX5_init_179 : decode cX5_init 179 = .ok (.iload_n 1, 1) := by decide +kernel
theorem dX5_init_180 : decode cX5_init 180 = .ok (.bipush 16, 2) := by decide +kernel
theorem dX5_init_182 : decode cX5_init 182 = .ok (.if_icmp .ge 23, 3) := by decide +kernel
theorem dX5_init_185 : decode cX5_init 185 = .ok (.aload_n 0, 1) := by decide +kernel
theorem dX5_init_186 : decode cX5_init 186 = .ok (.getfield 27, 3) := by decide +kernel
theorem dX5_init_189 : decode cX5_init 189 = .ok (.iload_n 1, 1) := by decide +kernel
theorem dX5_init_190 : decode cX5_init 190 = .ok (.iconst (-1), 1) := by decide +kernel
theorem dX5_init_191 : decode cX5_init 191 = .ok (.iastore, 1) := by decide +kernel
theorem dX5_init_192 : decode cX5_init 192 = .ok (.aload_n 0, 1) := by decide +kernel
theorem dX5_init_193 : decode cX5_init 193 = .ok (.getfield 33, 3) := by decide +kernel
theorem dX5_init_196 : decode cX5_init 196 = .ok (.iload_n 1, 1) := by decide +kernel
theorem dX5_init_197 : decode cX5_init 197 = .ok (.iconst 1, 1) := by decide +kernel
theorem dX5_init_198 : decode cX5_init 198 = .ok (.iastore, 1) := by decide +kernel
theorem dX5_init_199 : decode cX5_init 199 = .ok (.iinc 1 1, 3) := by decide +kernel
theorem dX5_init_202 : decode cX5_init 202 = .ok (.goto (-23), 3) := by decide +kernel
theorem dX5_init_205 : decode cX5_init 205 = .ok (.return_, 1) := by decide +kernel
theorem dX5_isIn_0 : decode cX5_isIn 0 = .ok (.iload_n 0, 1) := by decide +kernel
theorem dX5_isIn_1 : decode cX5_isIn 1 = .ok (.iload_n 1, 1) := by decide +kernel
theorem dX5_isIn_2 : decode cX5_isIn 2 = .ok (.if_icmp .lt 12, 3) := by decide +kernel
theorem dX5_isIn_5 : decode cX5_isIn 5 = .ok (.iload_n 0, 1) := by decide +kernel
theorem dX5_isIn_6 : decode cX5_isIn 6 = .ok (.iload_n 2, 1) := by decide +kernel
theorem dX5_isIn_7 : decode cX5_isIn 7 = .ok (.if_icmp .gt 7, 3) := by decide +kernel
theorem dX5_isIn_10 : decode cX5_isIn 10 = .ok (.iconst 1, 1) := by decide +kernel
theorem dX5_isIn_11 : decode cX5_isIn 11 = .ok (.goto 4, 3) := by decide +kernel
theorem dX5_isIn_14 : decode cX5_isIn 14 = .ok (.iconst 0, 1) := by decide +kernel
theorem dX5_isIn_15 : decode cX5_isIn 15 = .ok (.ireturn, 1) := by decide +kernel
theorem dX5_isChannel_0 : decode cX5_isChannel 0 = .ok (.iload_n 0, 1) := by decide +kernel
theorem dX5_isChannel_1 : decode cX5_isChannel 1 = .ok (.iconst 0, 1) := by decide +kernel
theorem dX5_isChannel_2 : decode cX5_isChannel 2 = .ok (.bipush 15, 2) := by decide +kernel
theorem dX5_isChannel_4 : decode cX5_isChannel 4 = .ok (.invokestatic 75, 3) := by decide +kernel
theorem dX5_isChannel_7 : decode cX5_isChannel 7 = .ok (.ireturn, 1) := by decide +kernel
theorem dX5_isCable_0 : decode cX5_isCable 0 = .ok (.iload_n 1, 1) := by decide +kernel
theorem dX5_isCable_1 : decode cX5_isCable 1 = .ok (.iconst 0, 1) := by decide +kernel
theorem dX5_isCable_2 : decode cX5_isCable 2 = .ok (.aload_n 0, 1) := by decide +kernel
theorem dX5_isCable_3 : decode cX5_isCable 3 = .ok (.getfield 79, 3) := by decide +kernel
theorem dX5_isCable_6 : decode cX5_isCable 6 = .ok (.iconst 1, 1) := by decide +kernel
theorem dX5_isCable_7 : decode cX5_isCable 7 = .ok (.isub, 1) := by decide +kernel
theorem dX5_isCable_8 : decode cX5_isCable 8 = .ok (.invokestatic 75, 3) := by decide +kernel
theorem dX5_isCable_11 : decode cX5_isCable 11 = .ok (.ireturn, 1) := by decide +kernel
theorem dX5_met_0 : decode cX5_met 0 = .ok (.aload_n 0, 1) := by decide +kernel
theorem dX5_met_1 : decode cX5_met 1 = .ok (.iload_n 1, 1) := by decide +kernel
theorem dX5_met_2 : decode cX5_met 2 = .ok (.putfield 83, 3) := by decide +kernel
theorem dX5_met_5 : decode cX5_met 5 = .ok (.iload_n 1, 1) := by decide +kernel
theorem dX5_met_6 : decode cX5_met 6 = .ok (.ifCond .le 13, 3) := by decide +kernel
theorem dX5_met_9 : decode cX5_met 9 = .ok (.aload_n 0, 1) := by decide +kernel
theorem dX5_met_10 : decode cX5_met 10 = .ok (.getfield 72, 3) := by decide +kernel
theorem dX5_met_13 : decode cX5_met 13 = .ok (.iload_n 1, 1) := by decide +kernel
theorem dX5_met_14 : decode cX5_met 14 = .ok (.dup2, 1) := by decide +kernel
theorem dX5_met_15 : decode cX5_met 15 = .ok (.iaload, 1) := by decide +kernel
theorem dX5_met_16 : decode cX5_met 16 = .ok (.iconst 1, 1) := by decide +kernel
theorem dX5_met_17 : decode cX5_met 17 = .ok (.iadd, 1) := by decide +kernel
theorem dX5_met_18 : decode cX5_met 18 = .ok (.iastore, 1) := by decide +kernel
theorem dX5_met_19 : decode cX5_met 19 = .ok (.iload_n 1, 1) := by decide +kernel
theorem dX5_met_20 : decode cX5_met 20 = .ok (.ireturn, 1) := by decide +kernel
theorem dX5_sort_0 : decode cX5_sort 0 = .ok (.aload_n 0, 1) := by decide +kernel
theorem dX5_sort_1 : decode cX5_sort 1 = .ok (.getfield 27, 3) := by decide +kernel
theorem dX5_sort_4 : decode cX5_sort 4 = .ok (.iload_n 1, 1) := by decide +kernel
theorem dX5_sort_5 : decode cX5_sort 5 = .ok (.iaload, 1) := by decide +kernel
theorem dX5_sort_6 : decode cX5_sort 6 = .ok (.iconst (-1), 1) := by decide +kernel
theorem dX5_sort_7 : decode cX5_sort 7 = .ok (.if_icmp .ne 7, 3) := by decide +kernel
theorem dX5_sort_10 : decode cX5_sort 10 = .ok (.iconst 0, 1) := by decide +kernel
theorem dX5_sort_11 : decode cX5_sort 11 = .ok (.goto 19, 3) := by decide +kernel
theorem dX5_sort_14 : decode cX5_sort 14 = .ok (.aload_n 0, 1) := by decide +kernel
theorem dX5_sort_15 : decode cX5_sort 15 = .ok (.getfield 27, 3) := by decide +kernel
theorem dX5_sort_18 : decode cX5_sort 18 = .ok (.iload_n 1, 1) := by decide +kernel
theorem dX5_sort_19 : decode cX5_sort 19 = .ok (.iaload, 1) := by decide +kernel
theorem dX5_sort_20 : decode cX5_sort 20 = .ok (.bipush (-2), 2) := by decide +kernel
theorem dX5_sort_22 : decode cX5_sort 22 = .ok (.if_icmp .ne 7, 3) := by decide +kernel
theorem dX5_sort_25 : decode cX5_sort 25 = .ok (.iconst 2, 1) := by decide +kernel
theorem dX5_sort_26 : decode cX5_sort 26 = .ok (.goto 4, 3) := by decide +kernel
theorem dX5_sort_29 : decode cX5_sort 29 = .ok (.iconst 1, 1) := by decide +kernel
theorem dX5_sort_30 : decode cX5_sort 30 = .ok (.ireturn, 1) := by decide +kernel
theorem dX5_freeTape_0 : decode cX5_freeTape 0 = .ok (.iconst 0, 1) := by decide +kernel
theorem dX5_freeTape_1 : decode cX5_freeTape 1 = .ok (.istore_n 1, 1) := by decide +kernel
theorem dX5_freeTape_2 : decode cX5_freeTape 2 = .ok (.iload_n 1, 1) := by decide +kernel
theorem dX5_freeTape_3 : decode cX5_freeTape 3 = .ok (.sipush 560, 3) := by decide +kernel
theorem dX5_freeTape_6 : decode cX5_freeTape 6 = .ok (.if_icmp .ge 16, 3) := by decide +kernel
theorem dX5_freeTape_9 : decode cX5_freeTape 9 = .ok (.aload_n 0, 1) := by decide +kernel
theorem dX5_freeTape_10 : decode cX5_freeTape 10 = .ok (.getfield 16, 3) := by decide +kernel
theorem dX5_freeTape_13 : decode cX5_freeTape 13 = .ok (.iload_n 1, 1) := by decide +kernel
theorem dX5_freeTape_14 : decode cX5_freeTape 14 = .ok (.iconst 0, 1) := by decide +kernel
theorem dX5_freeTape_15 : decode cX5_freeTape 15 = .ok (.bastore, 1) := by decide +kernel
theorem dX5_freeTape_16 : decode cX5_freeTape 16 = .ok (.iinc 1 1, 3) := by decide +kernel
theorem dX5_freeTape_19 : decode cX5_freeTape 19 = .ok (.goto (-17), 3) := by decide +kernel
theorem dX5_freeTape_22 : decode cX5_freeTape 22 = .ok (.iconst 0, 1) := by decide +kernel
theorem dX5_freeTape_23 : decode cX5_freeTape 23 = .ok (.istore_n 1, 1) := by decide +kernel
theorem dX5_freeTape_24 : decode cX5_freeTape 24 = .ok (.iload_n 1, 1) := by decide +kernel
theorem dX5_freeTape_25 : decode cX5_freeTape 25 = .ok (.bipush 16, 2) := by decide +kernel
theorem dX5_freeTape_27 : decode cX5_freeTape 27 = .ok (.if_icmp .ge 85, 3) := by decide +kernel
theorem dX5_freeTape_30 : decode cX5_freeTape 30 = .ok (.aload_n 0, 1) := by decide +kernel
theorem dX5_freeTape_31 : decode cX5_freeTape 31 = .ok (.getfield 27, 3) := by decide +kernel
theorem dX5_freeTape_34 : decode cX5_freeTape 34 = .ok (.iload_n 1, 1) := by decide +kernel
theorem dX5_freeTape_35 : decode cX5_freeTape 35 = .ok (.iaload, 1) := by decide +kernel
theorem dX5_freeTape_36 : decode cX5_freeTape 36 = .ok (.istore_n 2, 1) := by decide +kernel
theorem dX5_freeTape_37 : decode cX5_freeTape 37 = .ok (.iload_n 2, 1) := by decide +kernel
theorem dX5_freeTape_38 : decode cX5_freeTape 38 = .ok (.ifCond .lt 68, 3) := by decide +kernel
theorem dX5_freeTape_41 : decode cX5_freeTape 41 = .ok (.aload_n 0, 1) := by decide +kernel
theorem dX5_freeTape_42 : decode cX5_freeTape 42 = .ok (.getfield 16, 3) := by decide +kernel
theorem dX5_freeTape_45 : decode cX5_freeTape 45 = .ok (.iload_n 2, 1) := by decide +kernel
theorem dX5_freeTape_46 : decode cX5_freeTape 46 = .ok (.iconst 1, 1) := by decide +kernel
theorem dX5_freeTape_47 : decode cX5_freeTape 47 = .ok (.bastore, 1) := by decide +kernel
theorem dX5_freeTape_48 : decode cX5_freeTape 48 = .ok (.iconst 0, 1) := by decide +kernel
theorem dX5_freeTape_49 : decode cX5_freeTape 49 = .ok (.istore_n 3, 1) := by decide +kernel
theorem dX5_freeTape_50 : decode cX5_freeTape 50 = .ok (.iload_n 3, 1) := by decide +kernel
theorem dX5_freeTape_51 : decode cX5_freeTape 51 = .ok (.aload_n 0, 1) := by decide +kernel
theorem dX5_freeTape_52 : decode cX5_freeTape 52 = .ok (.getfield 13, 3) := by decide +kernel
theorem dX5_freeTape_55 : decode cX5_freeTape 55 = .ok (.iload_n 2, 1) := by decide +kernel
theorem dX5_freeTape_56 : decode cX5_freeTape 56 = .ok (.iaload, 1) := by decide +kernel
theorem dX5_freeTape_57 : decode cX5_freeTape 57 = .ok (.if_icmp .ge 49, 3) := by decide +kernel
theorem dX5_freeTape_60 : decode cX5_freeTape 60 = .ok (.aload_n 0, 1) := by decide +kernel
theorem dX5_freeTape_61 : decode cX5_freeTape 61 = .ok (.getfield 7, 3) := by decide +kernel
theorem dX5_freeTape_64 : decode cX5_freeTape 64 = .ok (.iload_n 2, 1) := by decide +kernel
theorem dX5_freeTape_65 : decode cX5_freeTape 65 = .ok (.iaload, 1) := by decide +kernel
theorem dX5_freeTape_66 : decode cX5_freeTape 66 = .ok (.bipush 10, 2) := by decide +kernel
theorem dX5_freeTape_68 : decode cX5_freeTape 68 = .ok (.if_icmp .ne 38, 3) := by decide +kernel
theorem dX5_freeTape_71 : decode cX5_freeTape 71 = .ok (.aload_n 0, 1) := by decide +kernel
theorem dX5_freeTape_72 : decode cX5_freeTape 72 = .ok (.getfield 20, 3) := by decide +kernel
theorem dX5_freeTape_75 : decode cX5_freeTape 75 = .ok (.bipush 32, 2) := by decide +kernel
theorem dX5_freeTape_77 : decode cX5_freeTape 77 = .ok (.iload_n 2, 1) := by decide +kernel
theorem dX5_freeTape_78 : decode cX5_freeTape 78 = .ok (.imul, 1) := by decide +kernel
theorem dX5_freeTape_79 : decode cX5_freeTape 79 = .ok (.iload_n 3, 1) := by decide +kernel
theorem dX5_freeTape_80 : decode cX5_freeTape 80 = .ok (.iadd, 1) := by decide +kernel
theorem dX5_freeTape_81 : decode cX5_freeTape 81 = .ok (.laload, 1) := by decide +kernel
theorem dX5_freeTape_82 : decode cX5_freeTape 82 = .ok (.l2i, 1) := by decide +kernel
theorem dX5_freeTape_83 : decode cX5_freeTape 83 = .ok (.iconst 1, 1) := by decide +kernel
theorem dX5_freeTape_84 : decode cX5_freeTape 84 = .ok (.isub, 1) := by decide +kernel
theorem dX5_freeTape_85 : decode cX5_freeTape 85 = .ok (.istore 4, 2) := by decide +kernel
theorem dX5_freeTape_87 : decode cX5_freeTape 87 = .ok (.iload 4, 2) := by decide +kernel
theorem dX5_freeTape_89 : decode cX5_freeTape 89 = .ok (.ifCond .lt 11, 3) := by decide +kernel
theorem dX5_freeTape_92 : decode cX5_freeTape 92 = .ok (.aload_n 0, 1) := by decide +kernel
theorem dX5_freeTape_93 : decode cX5_freeTape 93 = .ok (.getfield 16, 3) := by decide +kernel
theorem dX5_freeTape_96 : decode cX5_freeTape 96 = .ok (.iload 4, 2) := by decide +kernel
theorem dX5_freeTape_98 : decode cX5_freeTape 98 = .ok (.iconst 1, 1) := by decide +kernel
theorem dX5_freeTape_99 : decode cX5_freeTape 99 = .ok (.bastore, 1) := by decide +kernel
theorem dX5_freeTape_100 : decode cX5_freeTape 100 = .ok (.iinc 3 1, 3) := by decide +kernel
theorem dX5_freeTape_103 : decode cX5_freeTape 103 = .ok (.goto (-53), 3) := by decide +kernel
theorem dX5_freeTape_106 : decode cX5_freeTape 106 = .ok (.iinc 1 1, 3) := by decide +kernel
theorem dX5_freeTape_109 : decode cX5_freeTape 109 = .ok (.goto (-85), 3) := by decide +kernel
theorem dX5_freeTape_112 : decode cX5_freeTape 112 = .ok (.iconst 0, 1) := by decide +kernel
theorem dX5_freeTape_113 : decode cX5_freeTape 113 = .ok (.istore_n 1, 1) := by decide +kernel
theorem dX5_freeTape_114 : decode cX5_freeTape 114 = .ok (.aload_n 0, 1) := by decide +kernel
theorem dX5_freeTape_115 : decode cX5_freeTape 115 = .ok (.getfield 16, 3) := by decide +kernel
theorem dX5_freeTape_118 : decode cX5_freeTape 118 = .ok (.iload_n 1, 1) := by decide +kernel
theorem dX5_freeTape_119 : decode cX5_freeTape 119 = .ok (.baload, 1) := by decide +kernel
theorem dX5_freeTape_120 : decode cX5_freeTape 120 = .ok (.ifCond .eq 9, 3) := by decide +kernel
theorem dX5_freeTape_123 : decode cX5_freeTape 123 = .ok (.iinc 1 1, 3) := by decide +kernel
theorem dX5_freeTape_126 : decode cX5_freeTape 126 = .ok (.goto (-12), 3) := by decide +kernel
theorem dX5_freeTape_129 : decode cX5_freeTape 129 = .ok (.iload_n 1, 1) := by decide +kernel
theorem dX5_freeTape_130 : decode cX5_freeTape 130 = .ok (.ireturn, 1) := by decide +kernel
theorem dX5_newTape_0 : decode cX5_newTape 0 = .ok (.aload_n 0, 1) := by decide +kernel
theorem dX5_newTape_1 : decode cX5_newTape 1 = .ok (.invokevirtual 86, 3) := by decide +kernel
theorem dX5_newTape_4 : decode cX5_newTape 4 = .ok (.istore_n 3, 1) := by decide +kernel
theorem dX5_newTape_5 : decode cX5_newTape 5 = .ok (.aload_n 0, 1) := by decide +kernel
theorem dX5_newTape_6 : decode cX5_newTape 6 = .ok (.getfield 7, 3) := by decide +kernel
theorem dX5_newTape_9 : decode cX5_newTape 9 = .ok (.iload_n 3, 1) := by decide +kernel
theorem dX5_newTape_10 : decode cX5_newTape 10 = .ok (.iload_n 1, 1) := by decide +kernel
theorem dX5_newTape_11 : decode cX5_newTape 11 = .ok (.iastore, 1) := by decide +kernel
theorem dX5_newTape_12 : decode cX5_newTape 12 = .ok (.aload_n 0, 1) := by decide +kernel
theorem dX5_newTape_13 : decode cX5_newTape 13 = .ok (.getfield 13, 3) := by decide +kernel
theorem dX5_newTape_16 : decode cX5_newTape 16 = .ok (.iload_n 3, 1) := by decide +kernel
theorem dX5_newTape_17 : decode cX5_newTape 17 = .ok (.iload_n 2, 1) := by decide +kernel
theorem dX5_newTape_18 : decode cX5_newTape 18 = .ok (.iastore, 1) := by decide +kernel
theorem dX5_newTape_19 : decode cX5_newTape 19 = .ok (.iconst 0, 1) := by decide +kernel
theorem dX5_newTape_20 : decode cX5_newTape 20 = .ok (.istore 4, 2) := by decide +kernel
theorem dX5_newTape_22 : decode cX5_newTape 22 = .ok (.iload 4, 2) := by decide +kernel
theorem dX5_newTape_24 : decode cX5_newTape 24 = .ok (.iload_n 2, 1) := by decide +kernel
theorem dX5_newTape_25 : decode cX5_newTape 25 = .ok (.if_icmp .ge 22, 3) := by decide +kernel
theorem dX5_newTape_28 : decode cX5_newTape 28 = .ok (.aload_n 0, 1) := by decide +kernel
theorem dX5_newTape_29 : decode cX5_newTape 29 = .ok (.getfield 20, 3) := by decide +kernel
theorem dX5_newTape_32 : decode cX5_newTape 32 = .ok (.bipush 32, 2) := by decide +kernel
theorem dX5_newTape_34 : decode cX5_newTape 34 = .ok (.iload_n 3, 1) := by decide +kernel
theorem dX5_newTape_35 : decode cX5_newTape 35 = .ok (.imul, 1) := by decide +kernel
theorem dX5_newTape_36 : decode cX5_newTape 36 = .ok (.iload 4, 2) := by decide +kernel
theorem dX5_newTape_38 : decode cX5_newTape 38 = .ok (.iadd, 1) := by decide +kernel
theorem dX5_newTape_39 : decode cX5_newTape 39 = .ok (.lconst 0, 1) := by decide +kernel
theorem dX5_newTape_40 : decode cX5_newTape 40 = .ok (.lastore, 1) := by decide +kernel
theorem dX5_newTape_41 : decode cX5_newTape 41 = .ok (.iinc 4 1, 3) := by decide +kernel
theorem dX5_newTape_44 : decode cX5_newTape 44 = .ok (.goto (-22), 3) := by decide +kernel
theorem dX5_newTape_47 : decode cX5_newTape 47 = .ok (.iload_n 3, 1) := by decide +kernel
theorem dX5_newTape_48 : decode cX5_newTape 48 = .ok (.ireturn, 1) := by decide +kernel
theorem dX5_nearest_0 : decode cX5_nearest 0 = .ok (.lload_n 0, 1) := by decide +kernel
theorem dX5_nearest_1 : decode cX5_nearest 1 = .ok (.lconst 0, 1) := by decide +kernel
theorem dX5_nearest_2 : decode cX5_nearest 2 = .ok (.lcmp, 1) := by decide +kernel
theorem dX5_nearest_3 : decode cX5_nearest 3 = .ok (.ifCond .ge 8, 3) := by decide +kernel
theorem dX5_nearest_6 : decode cX5_nearest 6 = .ok (.lload_n 0, 1) := by decide +kernel
theorem dX5_nearest_7 : decode cX5_nearest 7 = .ok (.lneg, 1) := by decide +kernel
theorem dX5_nearest_8 : decode cX5_nearest 8 = .ok (.goto 4, 3) := by decide +kernel
theorem dX5_nearest_11 : decode cX5_nearest 11 = .ok (.lload_n 0, 1) := by decide +kernel
theorem dX5_nearest_12 : decode cX5_nearest 12 = .ok (.lstore_n 3, 1) := by decide +kernel
theorem dX5_nearest_13 : decode cX5_nearest 13 = .ok (.iconst (-1), 1) := by decide +kernel
theorem dX5_nearest_14 : decode cX5_nearest 14 = .ok (.istore 5, 2) := by decide +kernel
theorem dX5_nearest_16 : decode cX5_nearest 16 = .ok (.bipush 63, 2) := by decide +kernel
theorem dX5_nearest_18 : decode cX5_nearest 18 = .ok (.istore 6, 2) := by decide +kernel
theorem dX5_nearest_20 : decode cX5_nearest 20 = .ok (.iload 6, 2) := by decide +kernel
theorem dX5_nearest_22 : decode cX5_nearest 22 = .ok (.ifCond .lt 34, 3) := by decide +kernel
theorem dX5_nearest_25 : decode cX5_nearest 25 = .ok (.iload 5, 2) := by decide +kernel
theorem dX5_nearest_27 : decode cX5_nearest 27 = .ok (.ifCond .ge 29, 3) := by decide +kernel
theorem dX5_nearest_30 : decode cX5_nearest 30 = .ok (.lload_n 3, 1) := by decide +kernel
theorem dX5_nearest_31 : decode cX5_nearest 31 = .ok (.iload 6, 2) := by decide +kernel
theorem dX5_nearest_33 : decode cX5_nearest 33 = .ok (.lushr, 1) := by decide +kernel
theorem dX5_nearest_34 : decode cX5_nearest 34 = .ok (.lconst 1, 1) := by decide +kernel
theorem dX5_nearest_35 : decode cX5_nearest 35 = .ok (.land, 1) := by decide +kernel
theorem dX5_nearest_36 : decode cX5_nearest 36 = .ok (.lconst 1, 1) := by decide +kernel
theorem dX5_nearest_37 : decode cX5_nearest 37 = .ok (.lcmp, 1) := by decide +kernel
theorem dX5_nearest_38 : decode cX5_nearest 38 = .ok (.ifCond .ne 8, 3) := by decide +kernel
theorem dX5_nearest_41 : decode cX5_nearest 41 = .ok (.iload 6, 2) := by decide +kernel
theorem dX5_nearest_43 : decode cX5_nearest 43 = .ok (.goto 5, 3) := by decide +kernel
theorem dX5_nearest_46 : decode cX5_nearest 46 = .ok (.iload 5, 2) := by decide +kernel
theorem dX5_nearest_48 : decode cX5_nearest 48 = .ok (.istore 5, 2) := by decide +kernel
theorem dX5_nearest_50 : decode cX5_nearest 50 = .ok (.iinc 6 (-1), 3) := by decide +kernel
theorem dX5_nearest_53 : decode cX5_nearest 53 = .ok (.goto (-33), 3) := by decide +kernel
theorem dX5_nearest_56 : decode cX5_nearest 56 = .ok (.iload 5, 2) := by decide +kernel
theorem dX5_nearest_58 : decode cX5_nearest 58 = .ok (.iload_n 2, 1) := by decide +kernel
theorem dX5_nearest_59 : decode cX5_nearest 59 = .ok (.if_icmp .ge 5, 3) := by decide +kernel
theorem dX5_nearest_62 : decode cX5_nearest 62 = .ok (.lload_n 0, 1) := by decide +kernel
theorem dX5_nearest_63 : decode cX5_nearest 63 = .ok (.lreturn, 1) := by decide +kernel
theorem dX5_nearest_64 : decode cX5_nearest 64 = .ok (.iload 5, 2) := by decide +kernel
theorem dX5_nearest_66 : decode cX5_nearest 66 = .ok (.iload_n 2, 1) := by decide +kernel
theorem dX5_nearest_67 : decode cX5_nearest 67 = .ok (.isub, 1) := by decide +kernel
theorem dX5_nearest_68 : decode cX5_nearest 68 = .ok (.iconst 1, 1) := by decide +kernel
theorem dX5_nearest_69 : decode cX5_nearest 69 = .ok (.iadd, 1) := by decide +kernel
theorem dX5_nearest_70 : decode cX5_nearest 70 = .ok (.istore 6, 2) := by decide +kernel
theorem dX5_nearest_72 : decode cX5_nearest 72 = .ok (.lload_n 3, 1) := by decide +kernel
theorem dX5_nearest_73 : decode cX5_nearest 73 = .ok (.iload 6, 2) := by decide +kernel
theorem dX5_nearest_75 : decode cX5_nearest 75 = .ok (.lushr, 1) := by decide +kernel
theorem dX5_nearest_76 : decode cX5_nearest 76 = .ok (.lstore 7, 2) := by decide +kernel
theorem dX5_nearest_78 : decode cX5_nearest 78 = .ok (.lload_n 3, 1) := by decide +kernel
theorem dX5_nearest_79 : decode cX5_nearest 79 = .ok (.lconst 1, 1) := by decide +kernel
theorem dX5_nearest_80 : decode cX5_nearest 80 = .ok (.iload 6, 2) := by decide +kernel
theorem dX5_nearest_82 : decode cX5_nearest 82 = .ok (.lshl, 1) := by decide +kernel
theorem dX5_nearest_83 : decode cX5_nearest 83 = .ok (.lconst 1, 1) := by decide +kernel
theorem dX5_nearest_84 : decode cX5_nearest 84 = .ok (.lsub, 1) := by decide +kernel
theorem dX5_nearest_85 : decode cX5_nearest 85 = .ok (.land, 1) := by decide +kernel
theorem dX5_nearest_86 : decode cX5_nearest 86 = .ok (.lstore 9, 2) := by decide +kernel
theorem dX5_nearest_88 : decode cX5_nearest 88 = .ok (.lconst 1, 1) := by decide +kernel
theorem dX5_nearest_89 : decode cX5_nearest 89 = .ok (.iload 6, 2) := by decide +kernel
theorem dX5_nearest_91 : decode cX5_nearest 91 = .ok (.iconst 1, 1) := by decide +kernel
theorem dX5_nearest_92 : decode cX5_nearest 92 = .ok (.isub, 1) := by decide +kernel
theorem dX5_nearest_93 : decode cX5_nearest 93 = .ok (.lshl, 1) := by decide +kernel
theorem dX5_nearest_94 : decode cX5_nearest 94 = .ok (.lstore 11, 2) := by decide +kernel
theorem dX5_nearest_96 : decode cX5_nearest 96 = .ok (.lload 9, 2) := by decide +kernel
theorem dX5_nearest_98 : decode cX5_nearest 98 = .ok (.lload 11, 2) := by decide +kernel
theorem dX5_nearest_100 : decode cX5_nearest 100 = .ok (.lcmp, 1) := by decide +kernel
theorem dX5_nearest_101 : decode cX5_nearest 101 = .ok (.ifCond .gt 20, 3) := by decide +kernel
theorem dX5_nearest_104 : decode cX5_nearest 104 = .ok (.lload 9, 2) := by decide +kernel
theorem dX5_nearest_106 : decode cX5_nearest 106 = .ok (.lload 11, 2) := by decide +kernel
theorem dX5_nearest_108 : decode cX5_nearest 108 = .ok (.lcmp, 1) := by decide +kernel
theorem dX5_nearest_109 : decode cX5_nearest 109 = .ok (.ifCond .ne 19, 3) := by decide +kernel
theorem dX5_nearest_112 : decode cX5_nearest 112 = .ok (.lload 7, 2) := by decide +kernel
theorem dX5_nearest_114 : decode cX5_nearest 114 = .ok (.lconst 1, 1) := by decide +kernel
theorem dX5_nearest_115 : decode cX5_nearest 115 = .ok (.land, 1) := by decide +kernel
theorem dX5_nearest_116 : decode cX5_nearest 116 = .ok (.lconst 1, 1) := by decide +kernel
theorem dX5_nearest_117 : decode cX5_nearest 117 = .ok (.lcmp, 1) := by decide +kernel
theorem dX5_nearest_118 : decode cX5_nearest 118 = .ok (.ifCond .ne 10, 3) := by decide +kernel
theorem dX5_nearest_121 : decode cX5_nearest 121 = .ok (.lload 7, 2) := by decide +kernel
theorem dX5_nearest_123 : decode cX5_nearest 123 = .ok (.lconst 1, 1) := by decide +kernel
theorem dX5_nearest_124 : decode cX5_nearest 124 = .ok (.ladd, 1) := by decide +kernel
theorem dX5_nearest_125 : decode cX5_nearest 125 = .ok (.goto 5, 3) := by decide +kernel
theorem dX5_nearest_128 : decode cX5_nearest 128 = .ok (.lload 7, 2) := by decide +kernel
theorem dX5_nearest_130 : decode cX5_nearest 130 = .ok (.lstore 7, 2) := by decide +kernel
theorem dX5_nearest_132 : decode cX5_nearest 132 = .ok (.lload 7, 2) := by decide +kernel
theorem dX5_nearest_134 : decode cX5_nearest 134 = .ok (.iload 6, 2) := by decide +kernel
theorem dX5_nearest_136 : decode cX5_nearest 136 = .ok (.lshl, 1) := by decide +kernel
theorem dX5_nearest_137 : decode cX5_nearest 137 = .ok (.lstore 13, 2) := by decide +kernel
theorem dX5_nearest_139 : decode cX5_nearest 139 = .ok (.lload_n 0, 1) := by decide +kernel
theorem dX5_nearest_140 : decode cX5_nearest 140 = .ok (.lconst 0, 1) := by decide +kernel
theorem dX5_nearest_141 : decode cX5_nearest 141 = .ok (.lcmp, 1) := by decide +kernel
theorem dX5_nearest_142 : decode cX5_nearest 142 = .ok (.ifCond .ge 9, 3) := by decide +kernel
theorem dX5_nearest_145 : decode cX5_nearest 145 = .ok (.lload 13, 2) := by decide +kernel
theorem dX5_nearest_147 : decode cX5_nearest 147 = .ok (.lneg, 1) := by decide +kernel
theorem dX5_nearest_148 : decode cX5_nearest 148 = .ok (.goto 18, 3) := by decide +kernel
theorem dX5_nearest_151 : decode cX5_nearest 151 = .ok (.lload 13, 2) := by decide +kernel
theorem dX5_nearest_153 : decode cX5_nearest 153 = .ok (.lconst 0, 1) := by decide +kernel
theorem dX5_nearest_154 : decode cX5_nearest 154 = .ok (.lcmp, 1) := by decide +kernel
theorem dX5_nearest_155 : decode cX5_nearest 155 = .ok (.ifCond .ge 9, 3) := by decide +kernel
theorem dX5_nearest_158 : decode cX5_nearest 158 = .ok (.ldc2_w 90, 3) := by decide +kernel
theorem dX5_nearest_161 : decode cX5_nearest 161 = .ok (.goto 5, 3) := by decide +kernel
theorem dX5_nearest_164 : decode cX5_nearest 164 = .ok (.lload 13, 2) := by decide +kernel
theorem dX5_nearest_166 : decode cX5_nearest 166 = .ok (.lreturn, 1) := by decide +kernel
theorem dX5_made_0 : decode cX5_made 0 = .ok (.iload_n 0, 1) := by decide +kernel
theorem dX5_made_1 : decode cX5_made 1 = .ok (.tableswitch 84 0 6 #[43, 55, 60, 65, 71, 75, 77], 43) := by decide +kernel
theorem dX5_made_44 : decode cX5_made 44 = .ok (.lload_n 1, 1) := by decide +kernel
theorem dX5_made_45 : decode cX5_made 45 = .ok (.lconst 0, 1) := by decide +kernel
theorem dX5_made_46 : decode cX5_made 46 = .ok (.lcmp, 1) := by decide +kernel
theorem dX5_made_47 : decode cX5_made 47 = .ok (.ifCond .eq 7, 3) := by decide +kernel
theorem dX5_made_50 : decode cX5_made 50 = .ok (.lconst 1, 1) := by decide +kernel
theorem dX5_made_51 : decode cX5_made 51 = .ok (.goto 4, 3) := by decide +kernel
theorem dX5_made_54 : decode cX5_made 54 = .ok (.lconst 0, 1) := by decide +kernel
theorem dX5_made_55 : decode cX5_made 55 = .ok (.lreturn, 1) := by decide +kernel
theorem dX5_made_56 : decode cX5_made 56 = .ok (.lload_n 1, 1) := by decide +kernel
theorem dX5_made_57 : decode cX5_made 57 = .ok (.l2i, 1) := by decide +kernel
theorem dX5_made_58 : decode cX5_made 58 = .ok (.i2b, 1) := by decide +kernel
theorem dX5_made_59 : decode cX5_made 59 = .ok (.i2l, 1) := by decide +kernel
theorem dX5_made_60 : decode cX5_made 60 = .ok (.lreturn, 1) := by decide +kernel
theorem dX5_made_61 : decode cX5_made 61 = .ok (.lload_n 1, 1) := by decide +kernel
theorem dX5_made_62 : decode cX5_made 62 = .ok (.l2i, 1) := by decide +kernel
theorem dX5_made_63 : decode cX5_made 63 = .ok (.i2s, 1) := by decide +kernel
theorem dX5_made_64 : decode cX5_made 64 = .ok (.i2l, 1) := by decide +kernel
theorem dX5_made_65 : decode cX5_made 65 = .ok (.lreturn, 1) := by decide +kernel
theorem dX5_made_66 : decode cX5_made 66 = .ok (.lload_n 1, 1) := by decide +kernel
theorem dX5_made_67 : decode cX5_made 67 = .ok (.ldc2_w 92, 3) := by decide +kernel
theorem dX5_made_70 : decode cX5_made 70 = .ok (.land, 1) := by decide +kernel
theorem dX5_made_71 : decode cX5_made 71 = .ok (.lreturn, 1) := by decide +kernel
theorem dX5_made_72 : decode cX5_made 72 = .ok (.lload_n 1, 1) := by decide +kernel
theorem dX5_made_73 : decode cX5_made 73 = .ok (.l2i, 1) := by decide +kernel
theorem dX5_made_74 : decode cX5_made 74 = .ok (.i2l, 1) := by decide +kernel
theorem dX5_made_75 : decode cX5_made 75 = .ok (.lreturn, 1) := by decide +kernel
theorem dX5_made_76 : decode cX5_made 76 = .ok (.lload_n 1, 1) := by decide +kernel
theorem dX5_made_77 : decode cX5_made 77 = .ok (.lreturn, 1) := by decide +kernel
theorem dX5_made_78 : decode cX5_made 78 = .ok (.lload_n 1, 1) := by decide +kernel
theorem dX5_made_79 : decode cX5_made 79 = .ok (.bipush 24, 2) := by decide +kernel
theorem dX5_made_81 : decode cX5_made 81 = .ok (.invokestatic 94, 3) := by decide +kernel
theorem dX5_made_84 : decode cX5_made 84 = .ok (.lreturn, 1) := by decide +kernel
theorem dX5_made_85 : decode cX5_made 85 = .ok (.lload_n 1, 1) := by decide +kernel
theorem dX5_made_86 : decode cX5_made 86 = .ok (.bipush 53, 2) := by decide +kernel
theorem dX5_made_88 : decode cX5_made 88 = .ok (.invokestatic 94, 3) := by decide +kernel
theorem dX5_made_91 : decode cX5_made 91 = .ok (.lreturn, 1) := by decide +kernel
theorem dX5_takes_0 : decode cX5_takes 0 = .ok (.iload_n 0, 1) := by decide +kernel
theorem dX5_takes_1 : decode cX5_takes 1 = .ok (.bipush 7, 2) := by decide +kernel
theorem dX5_takes_3 : decode cX5_takes 3 = .ok (.if_icmp .le 32, 3) := by decide +kernel
theorem dX5_takes_6 : decode cX5_takes 6 = .ok (.iload_n 1, 1) := by decide +kernel
theorem dX5_takes_7 : decode cX5_takes 7 = .ok (.bipush 11, 2) := by decide +kernel
theorem dX5_takes_9 : decode cX5_takes 9 = .ok (.if_icmp .eq 20, 3) := by decide +kernel
theorem dX5_takes_12 : decode cX5_takes 12 = .ok (.iload_n 1, 1) := by decide +kernel
theorem dX5_takes_13 : decode cX5_takes 13 = .ok (.iload_n 0, 1) := by decide +kernel
theorem dX5_takes_14 : decode cX5_takes 14 = .ok (.if_icmp .eq 15, 3) := by decide +kernel
theorem dX5_takes_17 : decode cX5_takes 17 = .ok (.iload_n 0, 1) := by decide +kernel
theorem dX5_takes_18 : decode cX5_takes 18 = .ok (.bipush 8, 2) := by decide +kernel
theorem dX5_takes_20 : decode cX5_takes 20 = .ok (.if_icmp .ne 13, 3) := by decide +kernel
theorem dX5_takes_23 : decode cX5_takes 23 = .ok (.iload_n 1, 1) := by decide +kernel
theorem dX5_takes_24 : decode cX5_takes 24 = .ok (.bipush 9, 2) := by decide +kernel
theorem dX5_takes_26 : decode cX5_takes 26 = .ok (.if_icmp .ne 7, 3) := by decide +kernel
theorem dX5_takes_29 : decode cX5_takes 29 = .ok (.iconst 1, 1) := by decide +kernel
theorem dX5_takes_30 : decode cX5_takes 30 = .ok (.goto 4, 3) := by decide +kernel
theorem dX5_takes_33 : decode cX5_takes 33 = .ok (.iconst 0, 1) := by decide +kernel
theorem dX5_takes_34 : decode cX5_takes 34 = .ok (.ireturn, 1) := by decide +kernel
theorem dX5_takes_35 : decode cX5_takes 35 = .ok (.iload_n 0, 1) := by decide +kernel
theorem dX5_takes_36 : decode cX5_takes 36 = .ok (.iload_n 1, 1) := by decide +kernel
theorem dX5_takes_37 : decode cX5_takes 37 = .ok (.if_icmp .ne 5, 3) := by decide +kernel
theorem dX5_takes_40 : decode cX5_takes 40 = .ok (.iconst 1, 1) := by decide +kernel
theorem dX5_takes_41 : decode cX5_takes 41 = .ok (.ireturn, 1) := by decide +kernel
theorem dX5_takes_42 : decode cX5_takes 42 = .ok (.iload_n 0, 1) := by decide +kernel
theorem dX5_takes_43 : decode cX5_takes 43 = .ok (.iconst 2, 1) := by decide +kernel
theorem dX5_takes_44 : decode cX5_takes 44 = .ok (.if_icmp .ne 14, 3) := by decide +kernel
theorem dX5_takes_47 : decode cX5_takes 47 = .ok (.iload_n 1, 1) := by decide +kernel
theorem dX5_takes_48 : decode cX5_takes 48 = .ok (.iconst 1, 1) := by decide +kernel
theorem dX5_takes_49 : decode cX5_takes 49 = .ok (.if_icmp .ne 7, 3) := by decide +kernel
theorem dX5_takes_52 : decode cX5_takes 52 = .ok (.iconst 1, 1) := by decide +kernel
theorem dX5_takes_53 : decode cX5_takes 53 = .ok (.goto 4, 3) := by decide +kernel
theorem dX5_takes_56 : decode cX5_takes 56 = .ok (.iconst 0, 1) := by decide +kernel
theorem dX5_takes_57 : decode cX5_takes 57 = .ok (.ireturn, 1) := by decide +kernel
theorem dX5_takes_58 : decode cX5_takes 58 = .ok (.iload_n 0, 1) := by decide +kernel
theorem dX5_takes_59 : decode cX5_takes 59 = .ok (.iconst 3, 1) := by decide +kernel
theorem dX5_takes_60 : decode cX5_takes 60 = .ok (.if_icmp .le 16, 3) := by decide +kernel
theorem dX5_takes_63 : decode cX5_takes 63 = .ok (.iload_n 1, 1) := by decide +kernel
theorem dX5_takes_64 : decode cX5_takes 64 = .ok (.ifCond .le 12, 3) := by decide +kernel
theorem dX5_takes_67 : decode cX5_takes 67 = .ok (.iload_n 1, 1) := by decide +kernel
theorem dX5_takes_68 : decode cX5_takes 68 = .ok (.iload_n 0, 1) := by decide +kernel
theorem dX5_takes_69 : decode cX5_takes 69 = .ok (.if_icmp .ge 7, 3) := by decide +kernel
theorem dX5_takes_72 : decode cX5_takes 72 = .ok (.iconst 1, 1) := by decide +kernel
theorem dX5_takes_73 : decode cX5_takes 73 = .ok (.goto 4, 3) := by decide +kernel
theorem dX5_takes_76 : decode cX5_takes 76 = .ok (.iconst 0, 1) := by decide +kernel
theorem dX5_takes_77 : decode cX5_takes 77 = .ok (.ireturn, 1) := by decide +kernel
theorem dX5_cellKind_0 : decode cX5_cellKind 0 = .ok (.aload_n 0, 1) := by decide +kernel
theorem dX5_cellKind_1 : decode cX5_cellKind 1 = .ok (.getfield 7, 3) := by decide +kernel
theorem dX5_cellKind_4 : decode cX5_cellKind 4 = .ok (.iload_n 1, 1) := by decide +kernel
theorem dX5_cellKind_5 : decode cX5_cellKind 5 = .ok (.iaload, 1) := by decide +kernel
theorem dX5_cellKind_6 : decode cX5_cellKind 6 = .ok (.istore_n 3, 1) := by decide +kernel
theorem dX5_cellKind_7 : decode cX5_cellKind 7 = .ok (.aload_n 0, 1) := by decide +kernel
theorem dX5_cellKind_8 : decode cX5_cellKind 8 = .ok (.getfield 20, 3) := by decide +kernel
theorem dX5_cellKind_11 : decode cX5_cellKind 11 = .ok (.bipush 32, 2) := by decide +kernel
theorem dX5_cellKind_13 : decode cX5_cellKind 13 = .ok (.iload_n 1, 1) := by decide +kernel
theorem dX5_cellKind_14 : decode cX5_cellKind 14 = .ok (.imul, 1) := by decide +kernel
theorem dX5_cellKind_15 : decode cX5_cellKind 15 = .ok (.iload_n 2, 1) := by decide +kernel
theorem dX5_cellKind_16 : decode cX5_cellKind 16 = .ok (.iadd, 1) := by decide +kernel
theorem dX5_cellKind_17 : decode cX5_cellKind 17 = .ok (.laload, 1) := by decide +kernel
theorem dX5_cellKind_18 : decode cX5_cellKind 18 = .ok (.lstore 4, 2) := by decide +kernel
theorem dX5_cellKind_20 : decode cX5_cellKind 20 = .ok (.iload_n 3, 1) := by decide +kernel
theorem dX5_cellKind_21 : decode cX5_cellKind 21 = .ok (.bipush 8, 2) := by decide +kernel
theorem dX5_cellKind_23 : decode cX5_cellKind 23 = .ok (.if_icmp .ge 5, 3) := by decide +kernel
theorem dX5_cellKind_26 : decode cX5_cellKind 26 = .ok (.iload_n 3, 1) := by decide +kernel
theorem dX5_cellKind_27 : decode cX5_cellKind 27 = .ok (.ireturn, 1) := by decide +kernel
theorem dX5_cellKind_28 : decode cX5_cellKind 28 = .ok (.lload 4, 2) := by decide +kernel
theorem dX5_cellKind_30 : decode cX5_cellKind 30 = .ok (.lconst 0, 1) := by decide +kernel
theorem dX5_cellKind_31 : decode cX5_cellKind 31 = .ok (.lcmp, 1) := by decide +kernel
theorem dX5_cellKind_32 : decode cX5_cellKind 32 = .ok (.ifCond .ne 8, 3) := by decide +kernel
theorem dX5_cellKind_35 : decode cX5_cellKind 35 = .ok (.bipush 11, 2) := by decide +kernel
theorem dX5_cellKind_37 : decode cX5_cellKind 37 = .ok (.goto 32, 3) := by decide +kernel
theorem dX5_cellKind_40 : decode cX5_cellKind 40 = .ok (.iload_n 3, 1) := by decide +kernel
theorem dX5_cellKind_41 : decode cX5_cellKind 41 = .ok (.bipush 10, 2) := by decide +kernel
theorem dX5_cellKind_43 : decode cX5_cellKind 43 = .ok (.if_icmp .ne 8, 3) := by decide +kernel
theorem dX5_cellKind_46 : decode cX5_cellKind 46 = .ok (.bipush 10, 2) := by decide +kernel
theorem dX5_cellKind_48 : decode cX5_cellKind 48 = .ok (.goto 21, 3) := by decide +kernel
theorem dX5_cellKind_51 : decode cX5_cellKind 51 = .ok (.aload_n 0, 1) := by decide +kernel
theorem dX5_cellKind_52 : decode cX5_cellKind 52 = .ok (.getfield 24, 3) := by decide +kernel
theorem dX5_cellKind_55 : decode cX5_cellKind 55 = .ok (.lload 4, 2) := by decide +kernel
theorem dX5_cellKind_57 : decode cX5_cellKind 57 = .ok (.l2i, 1) := by decide +kernel
theorem dX5_cellKind_58 : decode cX5_cellKind 58 = .ok (.baload, 1) := by decide +kernel
theorem dX5_cellKind_59 : decode cX5_cellKind 59 = .ok (.ifCond .eq 8, 3) := by decide +kernel
theorem dX5_cellKind_62 : decode cX5_cellKind 62 = .ok (.bipush 9, 2) := by decide +kernel
theorem dX5_cellKind_64 : decode cX5_cellKind 64 = .ok (.goto 5, 3) := by decide +kernel
theorem dX5_cellKind_67 : decode cX5_cellKind 67 = .ok (.bipush 8, 2) := by decide +kernel
theorem dX5_cellKind_69 : decode cX5_cellKind 69 = .ok (.ireturn, 1) := by decide +kernel
theorem dX5_numberOf_0 : decode cX5_numberOf 0 = .ok (.aload_n 0, 1) := by decide +kernel
theorem dX5_numberOf_1 : decode cX5_numberOf 1 = .ok (.getfield 20, 3) := by decide +kernel
theorem dX5_numberOf_4 : decode cX5_numberOf 4 = .ok (.bipush 32, 2) := by decide +kernel
theorem dX5_numberOf_6 : decode cX5_numberOf 6 = .ok (.iload_n 1, 1) := by decide +kernel
theorem dX5_numberOf_7 : decode cX5_numberOf 7 = .ok (.imul, 1) := by decide +kernel
theorem dX5_numberOf_8 : decode cX5_numberOf 8 = .ok (.iload_n 2, 1) := by decide +kernel
theorem dX5_numberOf_9 : decode cX5_numberOf 9 = .ok (.iadd, 1) := by decide +kernel
theorem dX5_numberOf_10 : decode cX5_numberOf 10 = .ok (.laload, 1) := by decide +kernel
theorem dX5_numberOf_11 : decode cX5_numberOf 11 = .ok (.lstore_n 3, 1) := by decide +kernel
theorem dX5_numberOf_12 : decode cX5_numberOf 12 = .ok (.aload_n 0, 1) := by decide +kernel
theorem dX5_numberOf_13 : decode cX5_numberOf 13 = .ok (.getfield 7, 3) := by decide +kernel
theorem dX5_numberOf_16 : decode cX5_numberOf 16 = .ok (.iload_n 1, 1) := by decide +kernel
theorem dX5_numberOf_17 : decode cX5_numberOf 17 = .ok (.iaload, 1) := by decide +kernel
theorem dX5_numberOf_18 : decode cX5_numberOf 18 = .ok (.bipush 10, 2) := by decide +kernel
theorem dX5_numberOf_20 : decode cX5_numberOf 20 = .ok (.if_icmp .ne 22, 3) := by decide +kernel
theorem dX5_numberOf_23 : decode cX5_numberOf 23 = .ok (.lload_n 3, 1) := by decide +kernel
theorem dX5_numberOf_24 : decode cX5_numberOf 24 = .ok (.lconst 0, 1) := by decide +kernel
theorem dX5_numberOf_25 : decode cX5_numberOf 25 = .ok (.lcmp, 1) := by decide +kernel
theorem dX5_numberOf_26 : decode cX5_numberOf 26 = .ok (.ifCond .le 16, 3) := by decide +kernel
theorem dX5_numberOf_29 : decode cX5_numberOf 29 = .ok (.aload_n 0, 1) := by decide +kernel
theorem dX5_numberOf_30 : decode cX5_numberOf 30 = .ok (.getfield 13, 3) := by decide +kernel
theorem dX5_numberOf_33 : decode cX5_numberOf 33 = .ok (.lload_n 3, 1) := by decide +kernel
theorem dX5_numberOf_34 : decode cX5_numberOf 34 = .ok (.l2i, 1) := by decide +kernel
theorem dX5_numberOf_35 : decode cX5_numberOf 35 = .ok (.iconst 1, 1) := by decide +kernel
theorem dX5_numberOf_36 : decode cX5_numberOf 36 = .ok (.isub, 1) := by decide +kernel
theorem dX5_numberOf_37 : decode cX5_numberOf 37 = .ok (.iaload, 1) := by decide +kernel
theorem dX5_numberOf_38 : decode cX5_numberOf 38 = .ok (.i2l, 1) := by decide +kernel
theorem dX5_numberOf_39 : decode cX5_numberOf 39 = .ok (.goto 4, 3) := by decide +kernel
theorem dX5_numberOf_42 : decode cX5_numberOf 42 = .ok (.lload_n 3, 1) := by decide +kernel
theorem dX5_numberOf_43 : decode cX5_numberOf 43 = .ok (.lreturn, 1) := by decide +kernel
theorem dX5_kept_0 : decode cX5_kept 0 = .ok (.iload_n 0, 1) := by decide +kernel
theorem dX5_kept_1 : decode cX5_kept 1 = .ok (.bipush 8, 2) := by decide +kernel
theorem dX5_kept_3 : decode cX5_kept 3 = .ok (.if_icmp .ge 11, 3) := by decide +kernel
theorem dX5_kept_6 : decode cX5_kept 6 = .ok (.iload_n 0, 1) := by decide +kernel
theorem dX5_kept_7 : decode cX5_kept 7 = .ok (.lload_n 1, 1) := by decide +kernel
theorem dX5_kept_8 : decode cX5_kept 8 = .ok (.invokestatic 98, 3) := by decide +kernel
theorem dX5_kept_11 : decode cX5_kept 11 = .ok (.goto 4, 3) := by decide +kernel
theorem dX5_kept_14 : decode cX5_kept 14 = .ok (.lload_n 1, 1) := by decide +kernel
theorem dX5_kept_15 : decode cX5_kept 15 = .ok (.lreturn, 1) := by decide +kernel
theorem dX5_noTape_0 : decode cX5_noTape 0 = .ok (.aload_n 0, 1) := by decide +kernel
theorem dX5_noTape_1 : decode cX5_noTape 1 = .ok (.getfield 27, 3) := by decide +kernel
theorem dX5_noTape_4 : decode cX5_noTape 4 = .ok (.iload_n 1, 1) := by decide +kernel
theorem dX5_noTape_5 : decode cX5_noTape 5 = .ok (.iaload, 1) := by decide +kernel
theorem dX5_noTape_6 : decode cX5_noTape 6 = .ok (.iconst (-1), 1) := by decide +kernel
theorem dX5_noTape_7 : decode cX5_noTape 7 = .ok (.if_icmp .ne 7, 3) := by decide +kernel
theorem dX5_noTape_10 : decode cX5_noTape 10 = .ok (.iconst 1, 1) := by decide +kernel
theorem dX5_noTape_11 : decode cX5_noTape 11 = .ok (.goto 19, 3) := by decide +kernel
theorem dX5_noTape_14 : decode cX5_noTape 14 = .ok (.aload_n 0, 1) := by decide +kernel
theorem dX5_noTape_15 : decode cX5_noTape 15 = .ok (.getfield 27, 3) := by decide +kernel
theorem dX5_noTape_18 : decode cX5_noTape 18 = .ok (.iload_n 1, 1) := by decide +kernel
theorem dX5_noTape_19 : decode cX5_noTape 19 = .ok (.iaload, 1) := by decide +kernel
theorem dX5_noTape_20 : decode cX5_noTape 20 = .ok (.bipush (-2), 2) := by decide +kernel
theorem dX5_noTape_22 : decode cX5_noTape 22 = .ok (.if_icmp .ne 7, 3) := by decide +kernel
theorem dX5_noTape_25 : decode cX5_noTape 25 = .ok (.iconst 2, 1) := by decide +kernel
theorem dX5_noTape_26 : decode cX5_noTape 26 = .ok (.goto 4, 3) := by decide +kernel
theorem dX5_noTape_29 : decode cX5_noTape 29 = .ok (.iconst 0, 1) := by decide +kernel
theorem dX5_noTape_30 : decode cX5_noTape 30 = .ok (.ireturn, 1) := by decide +kernel
theorem dX5_noPlace_0 : decode cX5_noPlace 0 = .ok (.aload_n 0, 1) := by decide +kernel
theorem dX5_noPlace_1 : decode cX5_noPlace 1 = .ok (.iload_n 1, 1) := by decide +kernel
theorem dX5_noPlace_2 : decode cX5_noPlace 2 = .ok (.invokevirtual 102, 3) := by decide +kernel
theorem dX5_noPlace_5 : decode cX5_noPlace 5 = .ok (.istore_n 3, 1) := by decide +kernel
theorem dX5_noPlace_6 : decode cX5_noPlace 6 = .ok (.iload_n 3, 1) := by decide +kernel
theorem dX5_noPlace_7 : decode cX5_noPlace 7 = .ok (.ifCond .le 7, 3) := by decide +kernel
theorem dX5_noPlace_10 : decode cX5_noPlace 10 = .ok (.iload_n 3, 1) := by decide +kernel
theorem dX5_noPlace_11 : decode cX5_noPlace 11 = .ok (.goto 29, 3) := by decide +kernel
theorem dX5_noPlace_14 : decode cX5_noPlace 14 = .ok (.iload_n 2, 1) := by decide +kernel
theorem dX5_noPlace_15 : decode cX5_noPlace 15 = .ok (.iconst 0, 1) := by decide +kernel
theorem dX5_noPlace_16 : decode cX5_noPlace 16 = .ok (.aload_n 0, 1) := by decide +kernel
theorem dX5_noPlace_17 : decode cX5_noPlace 17 = .ok (.getfield 13, 3) := by decide +kernel
theorem dX5_noPlace_20 : decode cX5_noPlace 20 = .ok (.aload_n 0, 1) := by decide +kernel
theorem dX5_noPlace_21 : decode cX5_noPlace 21 = .ok (.getfield 27, 3) := by decide +kernel
theorem dX5_noPlace_24 : decode cX5_noPlace 24 = .ok (.iload_n 1, 1) := by decide +kernel
theorem dX5_noPlace_25 : decode cX5_noPlace 25 = .ok (.iaload, 1) := by decide +kernel
theorem dX5_noPlace_26 : decode cX5_noPlace 26 = .ok (.iaload, 1) := by decide +kernel
theorem dX5_noPlace_27 : decode cX5_noPlace 27 = .ok (.iconst 1, 1) := by decide +kernel
theorem dX5_noPlace_28 : decode cX5_noPlace 28 = .ok (.isub, 1) := by decide +kernel
theorem dX5_noPlace_29 : decode cX5_noPlace 29 = .ok (.invokestatic 75, 3) := by decide +kernel
theorem dX5_noPlace_32 : decode cX5_noPlace 32 = .ok (.ifCond .eq 7, 3) := by decide +kernel
theorem dX5_noPlace_35 : decode cX5_noPlace 35 = .ok (.iconst 0, 1) := by decide +kernel
theorem dX5_noPlace_36 : decode cX5_noPlace 36 = .ok (.goto 4, 3) := by decide +kernel
theorem dX5_noPlace_39 : decode cX5_noPlace 39 = .ok (.iconst 3, 1) := by decide +kernel
theorem dX5_noPlace_40 : decode cX5_noPlace 40 = .ok (.ireturn, 1) := by decide +kernel
theorem dX5_kindOf_0 : decode cX5_kindOf 0 = .ok (.aload_n 0, 1) := by decide +kernel
theorem dX5_kindOf_1 : decode cX5_kindOf 1 = .ok (.getfield 7, 3) := by decide +kernel
theorem dX5_kindOf_4 : decode cX5_kindOf 4 = .ok (.aload_n 0, 1) := by decide +kernel
theorem dX5_kindOf_5 : decode cX5_kindOf 5 = .ok (.getfield 27, 3) := by decide +kernel
theorem dX5_kindOf_8 : decode cX5_kindOf 8 = .ok (.iload_n 1, 1) := by decide +kernel
theorem dX5_kindOf_9 : decode cX5_kindOf 9 = .ok (.iaload, 1) := by decide +kernel
theorem dX5_kindOf_10 : decode cX5_kindOf 10 = .ok (.iaload, 1) := by decide +kernel
theorem dX5_kindOf_11 : decode cX5_kindOf 11 = .ok (.ireturn, 1) := by decide +kernel
theorem dX5_at_0 : decode cX5_at 0 = .ok (.bipush 32, 2) := by decide +kernel
theorem dX5_at_2 : decode cX5_at 2 = .ok (.aload_n 0, 1) := by decide +kernel
theorem dX5_at_3 : decode cX5_at 3 = .ok (.getfield 27, 3) := by decide +kernel
theorem dX5_at_6 : decode cX5_at 6 = .ok (.iload_n 1, 1) := by decide +kernel
theorem dX5_at_7 : decode cX5_at 7 = .ok (.iaload, 1) := by decide +kernel
theorem dX5_at_8 : decode cX5_at 8 = .ok (.imul, 1) := by decide +kernel
theorem dX5_at_9 : decode cX5_at 9 = .ok (.iload_n 2, 1) := by decide +kernel
theorem dX5_at_10 : decode cX5_at 10 = .ok (.iadd, 1) := by decide +kernel
theorem dX5_at_11 : decode cX5_at 11 = .ok (.ireturn, 1) := by decide +kernel
theorem dX5_noTake_0 : decode cX5_noTake 0 = .ok (.iload_n 0, 1) := by decide +kernel
theorem dX5_noTake_1 : decode cX5_noTake 1 = .ok (.iload_n 1, 1) := by decide +kernel
theorem dX5_noTake_2 : decode cX5_noTake 2 = .ok (.invokestatic 106, 3) := by decide +kernel
theorem dX5_noTake_5 : decode cX5_noTake 5 = .ok (.ifCond .eq 7, 3) := by decide +kernel
theorem dX5_noTake_8 : decode cX5_noTake 8 = .ok (.iconst 0, 1) := by decide +kernel
theorem dX5_noTake_9 : decode cX5_noTake 9 = .ok (.goto 4, 3) := by decide +kernel
theorem dX5_noTake_12 : decode cX5_noTake 12 = .ok (.iconst 2, 1) := by decide +kernel
theorem dX5_noTake_13 : decode cX5_noTake 13 = .ok (.ireturn, 1) := by decide +kernel
theorem dX5_noWrite_0 : decode cX5_noWrite 0 = .ok (.aload_n 0, 1) := by decide +kernel
theorem dX5_noWrite_1 : decode cX5_noWrite 1 = .ok (.iload_n 1, 1) := by decide +kernel
theorem dX5_noWrite_2 : decode cX5_noWrite 2 = .ok (.invokevirtual 102, 3) := by decide +kernel
theorem dX5_noWrite_5 : decode cX5_noWrite 5 = .ok (.istore 4, 2) := by decide +kernel
theorem dX5_noWrite_7 : decode cX5_noWrite 7 = .ok (.iload 4, 2) := by decide +kernel
theorem dX5_noWrite_9 : decode cX5_noWrite 9 = .ok (.ifCond .le 6, 3) := by decide +kernel
theorem dX5_noWrite_12 : decode cX5_noWrite 12 = .ok (.iload 4, 2) := by decide +kernel
theorem dX5_noWrite_14 : decode cX5_noWrite 14 = .ok (.ireturn, 1) := by decide +kernel
theorem dX5_noWrite_15 : decode cX5_noWrite 15 = .ok (.aload_n 0, 1) := by decide +kernel
theorem dX5_noWrite_16 : decode cX5_noWrite 16 = .ok (.iload_n 1, 1) := by decide +kernel
theorem dX5_noWrite_17 : decode cX5_noWrite 17 = .ok (.invokevirtual 110, 3) := by decide +kernel
theorem dX5_noWrite_20 : decode cX5_noWrite 20 = .ok (.bipush 8, 2) := by decide +kernel
theorem dX5_noWrite_22 : decode cX5_noWrite 22 = .ok (.if_icmp .ge 11, 3) := by decide +kernel
theorem dX5_noWrite_25 : decode cX5_noWrite 25 = .ok (.iload_n 3, 1) := by decide +kernel
theorem dX5_noWrite_26 : decode cX5_noWrite 26 = .ok (.bipush 11, 2) := by decide +kernel
theorem dX5_noWrite_28 : decode cX5_noWrite 28 = .ok (.if_icmp .ne 5, 3) := by decide +kernel
theorem dX5_noWrite_31 : decode cX5_noWrite 31 = .ok (.iconst 2, 1) := by decide +kernel
theorem dX5_noWrite_32 : decode cX5_noWrite 32 = .ok (.ireturn, 1) := by decide +kernel
theorem dX5_noWrite_33 : decode cX5_noWrite 33 = .ok (.aload_n 0, 1) := by decide +kernel
theorem dX5_noWrite_34 : decode cX5_noWrite 34 = .ok (.iload_n 1, 1) := by decide +kernel
theorem dX5_noWrite_35 : decode cX5_noWrite 35 = .ok (.iload_n 2, 1) := by decide +kernel
theorem dX5_noWrite_36 : decode cX5_noWrite 36 = .ok (.invokevirtual 113, 3) := by decide +kernel
theorem dX5_noWrite_39 : decode cX5_noWrite 39 = .ok (.istore 4, 2) := by decide +kernel
theorem dX5_noWrite_41 : decode cX5_noWrite 41 = .ok (.iload 4, 2) := by decide +kernel
theorem dX5_noWrite_43 : decode cX5_noWrite 43 = .ok (.ifCond .le 8, 3) := by decide +kernel
theorem dX5_noWrite_46 : decode cX5_noWrite 46 = .ok (.iload 4, 2) := by decide +kernel
theorem dX5_noWrite_48 : decode cX5_noWrite 48 = .ok (.goto 12, 3) := by decide +kernel
theorem dX5_noWrite_51 : decode cX5_noWrite 51 = .ok (.aload_n 0, 1) := by decide +kernel
theorem dX5_noWrite_52 : decode cX5_noWrite 52 = .ok (.iload_n 1, 1) := by decide +kernel
theorem dX5_noWrite_53 : decode cX5_noWrite 53 = .ok (.invokevirtual 110, 3) := by decide +kernel
theorem dX5_noWrite_56 : decode cX5_noWrite 56 = .ok (.iload_n 3, 1) := by decide +kernel
theorem dX5_noWrite_57 : decode cX5_noWrite 57 = .ok (.invokestatic 117, 3) := by decide +kernel
theorem dX5_noWrite_60 : decode cX5_noWrite 60 = .ok (.ireturn, 1) := by decide +kernel
theorem dX5_writes_0 : decode cX5_writes 0 = .ok (.aload_n 0, 1) := by decide +kernel
theorem dX5_writes_1 : decode cX5_writes 1 = .ok (.iload_n 1, 1) := by decide +kernel
theorem dX5_writes_2 : decode cX5_writes 2 = .ok (.iload_n 2, 1) := by decide +kernel
theorem dX5_writes_3 : decode cX5_writes 3 = .ok (.iload_n 3, 1) := by decide +kernel
theorem dX5_writes_4 : decode cX5_writes 4 = .ok (.invokevirtual 120, 3) := by decide +kernel
theorem dX5_writes_7 : decode cX5_writes 7 = .ok (.istore 6, 2) := by decide +kernel
theorem dX5_writes_9 : decode cX5_writes 9 = .ok (.iload 6, 2) := by decide +kernel
theorem dX5_writes_11 : decode cX5_writes 11 = .ok (.ifCond .ne 24, 3) := by decide +kernel
theorem dX5_writes_14 : decode cX5_writes 14 = .ok (.aload_n 0, 1) := by decide +kernel
theorem dX5_writes_15 : decode cX5_writes 15 = .ok (.getfield 20, 3) := by decide +kernel
theorem dX5_writes_18 : decode cX5_writes 18 = .ok (.aload_n 0, 1) := by decide +kernel
theorem dX5_writes_19 : decode cX5_writes 19 = .ok (.iload_n 1, 1) := by decide +kernel
theorem dX5_writes_20 : decode cX5_writes 20 = .ok (.iload_n 2, 1) := by decide +kernel
theorem dX5_writes_21 : decode cX5_writes 21 = .ok (.invokevirtual 124, 3) := by decide +kernel
theorem dX5_writes_24 : decode cX5_writes 24 = .ok (.aload_n 0, 1) := by decide +kernel
theorem dX5_writes_25 : decode cX5_writes 25 = .ok (.iload_n 1, 1) := by decide +kernel
theorem dX5_writes_26 : decode cX5_writes 26 = .ok (.invokevirtual 110, 3) := by decide +kernel
theorem dX5_writes_29 : decode cX5_writes 29 = .ok (.lload 4, 2) := by decide +kernel
theorem dX5_writes_31 : decode cX5_writes 31 = .ok (.invokestatic 127, 3) := by decide +kernel
theorem dX5_writes_34 : decode cX5_writes 34 = .ok (.lastore, 1) := by decide +kernel
theorem dX5_writes_35 : decode cX5_writes 35 = .ok (.iload 6, 2) := by decide +kernel
theorem dX5_writes_37 : decode cX5_writes 37 = .ok (.ireturn, 1) := by decide +kernel
theorem dX5_passes_0 : decode cX5_passes 0 = .ok (.aload_n 0, 1) := by decide +kernel
theorem dX5_passes_1 : decode cX5_passes 1 = .ok (.iload_n 1, 1) := by decide +kernel
theorem dX5_passes_2 : decode cX5_passes 2 = .ok (.iload_n 2, 1) := by decide +kernel
theorem dX5_passes_3 : decode cX5_passes 3 = .ok (.invokevirtual 113, 3) := by decide +kernel
theorem dX5_passes_6 : decode cX5_passes 6 = .ok (.istore 5, 2) := by decide +kernel
theorem dX5_passes_8 : decode cX5_passes 8 = .ok (.iload 5, 2) := by decide +kernel
theorem dX5_passes_10 : decode cX5_passes 10 = .ok (.ifCond .le 8, 3) := by decide +kernel
theorem dX5_passes_13 : decode cX5_passes 13 = .ok (.iload 5, 2) := by decide +kernel
theorem dX5_passes_15 : decode cX5_passes 15 = .ok (.goto 32, 3) := by decide +kernel
theorem dX5_passes_18 : decode cX5_passes 18 = .ok (.aload_n 0, 1) := by decide +kernel
theorem dX5_passes_19 : decode cX5_passes 19 = .ok (.iload_n 3, 1) := by decide +kernel
theorem dX5_passes_20 : decode cX5_passes 20 = .ok (.iload 4, 2) := by decide +kernel
theorem dX5_passes_22 : decode cX5_passes 22 = .ok (.aload_n 0, 1) := by decide +kernel
theorem dX5_passes_23 : decode cX5_passes 23 = .ok (.aload_n 0, 1) := by decide +kernel
theorem dX5_passes_24 : decode cX5_passes 24 = .ok (.getfield 27, 3) := by decide +kernel
theorem dX5_passes_27 : decode cX5_passes 27 = .ok (.iload_n 1, 1) := by decide +kernel
theorem dX5_passes_28 : decode cX5_passes 28 = .ok (.iaload, 1) := by decide +kernel
theorem dX5_passes_29 : decode cX5_passes 29 = .ok (.iload_n 2, 1) := by decide +kernel
theorem dX5_passes_30 : decode cX5_passes 30 = .ok (.invokevirtual 130, 3) := by decide +kernel
theorem dX5_passes_33 : decode cX5_passes 33 = .ok (.aload_n 0, 1) := by decide +kernel
theorem dX5_passes_34 : decode cX5_passes 34 = .ok (.getfield 20, 3) := by decide +kernel
theorem dX5_passes_37 : decode cX5_passes 37 = .ok (.aload_n 0, 1) := by decide +kernel
theorem dX5_passes_38 : decode cX5_passes 38 = .ok (.iload_n 1, 1) := by decide +kernel
theorem dX5_passes_39 : decode cX5_passes 39 = .ok (.iload_n 2, 1) := by decide +kernel
theorem dX5_passes_40 : decode cX5_passes 40 = .ok (.invokevirtual 124, 3) := by decide +kernel
theorem dX5_passes_43 : decode cX5_passes 43 = .ok (.laload, 1) := by decide +kernel
theorem dX5_passes_44 : decode cX5_passes 44 = .ok (.invokevirtual 133, 3) := by decide +kernel
theorem dX5_passes_47 : decode cX5_passes 47 = .ok (.ireturn, 1) := by decide +kernel
theorem dX5_tape_0 : decode cX5_tape 0 = .ok (.iload_n 1, 1) := by decide +kernel
theorem dX5_tape_1 : decode cX5_tape 1 = .ok (.invokestatic 137, 3) := by decide +kernel
theorem dX5_tape_4 : decode cX5_tape 4 = .ok (.ifCond .eq 19, 3) := by decide +kernel
theorem dX5_tape_7 : decode cX5_tape 7 = .ok (.iload_n 2, 1) := by decide +kernel
theorem dX5_tape_8 : decode cX5_tape 8 = .ok (.iconst 0, 1) := by decide +kernel
theorem dX5_tape_9 : decode cX5_tape 9 = .ok (.bipush 10, 2) := by decide +kernel
theorem dX5_tape_11 : decode cX5_tape 11 = .ok (.invokestatic 75, 3) := by decide +kernel
theorem dX5_tape_14 : decode cX5_tape 14 = .ok (.ifCond .eq 9, 3) := by decide +kernel
theorem dX5_tape_17 : decode cX5_tape 17 = .ok (.iload_n 3, 1) := by decide +kernel
theorem dX5_tape_18 : decode cX5_tape 18 = .ok (.bipush 32, 2) := by decide +kernel
theorem dX5_tape_20 : decode cX5_tape 20 = .ok (.if_icmp .le 5, 3) := by decide +kernel
theorem dX5_tape_23 : decode cX5_tape 23 = .ok (.iconst (-1), 1) := by decide +kernel
theorem dX5_tape_24 : decode cX5_tape 24 = .ok (.ireturn, 1) := by decide +kernel
theorem dX5_tape_25 : decode cX5_tape 25 = .ok (.aload_n 0, 1) := by decide +kernel
theorem dX5_tape_26 : decode cX5_tape 26 = .ok (.iload_n 3, 1) := by decide +kernel
theorem dX5_tape_27 : decode cX5_tape 27 = .ok (.ifCond .ge 7, 3) := by decide +kernel
theorem dX5_tape_30 : decode cX5_tape 30 = .ok (.iconst 5, 1) := by decide +kernel
theorem dX5_tape_31 : decode cX5_tape 31 = .ok (.goto 4, 3) := by decide +kernel
theorem dX5_tape_34 : decode cX5_tape 34 = .ok (.iconst 0, 1) := by decide +kernel
theorem dX5_tape_35 : decode cX5_tape 35 = .ok (.invokevirtual 141, 3) := by decide +kernel
theorem dX5_tape_38 : decode cX5_tape 38 = .ok (.ifCond .le 6, 3) := by decide +kernel
theorem dX5_tape_41 : decode cX5_tape 41 = .ok (.bipush (-15), 2) := by decide +kernel
theorem dX5_tape_43 : decode cX5_tape 43 = .ok (.ireturn, 1) := by decide +kernel
theorem dX5_tape_44 : decode cX5_tape 44 = .ok (.aload_n 0, 1) := by decide +kernel
theorem dX5_tape_45 : decode cX5_tape 45 = .ok (.getfield 27, 3) := by decide +kernel
theorem dX5_tape_48 : decode cX5_tape 48 = .ok (.iload_n 1, 1) := by decide +kernel
theorem dX5_tape_49 : decode cX5_tape 49 = .ok (.aload_n 0, 1) := by decide +kernel
theorem dX5_tape_50 : decode cX5_tape 50 = .ok (.iload_n 2, 1) := by decide +kernel
theorem dX5_tape_51 : decode cX5_tape 51 = .ok (.iload_n 3, 1) := by decide +kernel
theorem dX5_tape_52 : decode cX5_tape 52 = .ok (.invokevirtual 144, 3) := by decide +kernel
theorem dX5_tape_55 : decode cX5_tape 55 = .ok (.iastore, 1) := by decide +kernel
theorem dX5_tape_56 : decode cX5_tape 56 = .ok (.iload_n 3, 1) := by decide +kernel
theorem dX5_tape_57 : decode cX5_tape 57 = .ok (.ireturn, 1) := by decide +kernel
theorem dX5_plug_0 : decode cX5_plug 0 = .ok (.iload_n 1, 1) := by decide +kernel
theorem dX5_plug_1 : decode cX5_plug 1 = .ok (.invokestatic 137, 3) := by decide +kernel
theorem dX5_plug_4 : decode cX5_plug 4 = .ok (.ifCond .ne 5, 3) := by decide +kernel
theorem dX5_plug_7 : decode cX5_plug 7 = .ok (.iconst (-1), 1) := by decide +kernel
theorem dX5_plug_8 : decode cX5_plug 8 = .ok (.ireturn, 1) := by decide +kernel
theorem dX5_plug_9 : decode cX5_plug 9 = .ok (.aload_n 0, 1) := by decide +kernel
theorem dX5_plug_10 : decode cX5_plug 10 = .ok (.iload_n 1, 1) := by decide +kernel
theorem dX5_plug_11 : decode cX5_plug 11 = .ok (.invokevirtual 147, 3) := by decide +kernel
theorem dX5_plug_14 : decode cX5_plug 14 = .ok (.istore_n 2, 1) := by decide +kernel
theorem dX5_plug_15 : decode cX5_plug 15 = .ok (.aload_n 0, 1) := by decide +kernel
theorem dX5_plug_16 : decode cX5_plug 16 = .ok (.getfield 27, 3) := by decide +kernel
theorem dX5_plug_19 : decode cX5_plug 19 = .ok (.iload_n 1, 1) := by decide +kernel
theorem dX5_plug_20 : decode cX5_plug 20 = .ok (.bipush (-2), 2) := by decide +kernel
theorem dX5_plug_22 : decode cX5_plug 22 = .ok (.iastore, 1) := by decide +kernel
theorem dX5_plug_23 : decode cX5_plug 23 = .ok (.iload_n 2, 1) := by decide +kernel
theorem dX5_plug_24 : decode cX5_plug 24 = .ok (.ireturn, 1) := by decide +kernel
theorem dX5_strip_0 : decode cX5_strip 0 = .ok (.iload_n 1, 1) := by decide +kernel
theorem dX5_strip_1 : decode cX5_strip 1 = .ok (.invokestatic 137, 3) := by decide +kernel
theorem dX5_strip_4 : decode cX5_strip 4 = .ok (.ifCond .ne 5, 3) := by decide +kernel
theorem dX5_strip_7 : decode cX5_strip 7 = .ok (.iconst (-1), 1) := by decide +kernel
theorem dX5_strip_8 : decode cX5_strip 8 = .ok (.ireturn, 1) := by decide +kernel
theorem dX5_strip_9 : decode cX5_strip 9 = .ok (.aload_n 0, 1) := by decide +kernel
theorem dX5_strip_10 : decode cX5_strip 10 = .ok (.iload_n 1, 1) := by decide +kernel
theorem dX5_strip_11 : decode cX5_strip 11 = .ok (.invokevirtual 147, 3) := by decide +kernel
theorem dX5_strip_14 : decode cX5_strip 14 = .ok (.istore_n 2, 1) := by decide +kernel
theorem dX5_strip_15 : decode cX5_strip 15 = .ok (.aload_n 0, 1) := by decide +kernel
theorem dX5_strip_16 : decode cX5_strip 16 = .ok (.getfield 27, 3) := by decide +kernel
theorem dX5_strip_19 : decode cX5_strip 19 = .ok (.iload_n 1, 1) := by decide +kernel
theorem dX5_strip_20 : decode cX5_strip 20 = .ok (.iconst (-1), 1) := by decide +kernel
theorem dX5_strip_21 : decode cX5_strip 21 = .ok (.iastore, 1) := by decide +kernel
theorem dX5_strip_22 : decode cX5_strip 22 = .ok (.iload_n 2, 1) := by decide +kernel
theorem dX5_strip_23 : decode cX5_strip 23 = .ok (.ireturn, 1) := by decide +kernel
theorem dX5_share_0 : decode cX5_share 0 = .ok (.iload_n 1, 1) := by decide +kernel
theorem dX5_share_1 : decode cX5_share 1 = .ok (.invokestatic 137, 3) := by decide +kernel
theorem dX5_share_4 : decode cX5_share 4 = .ok (.ifCond .eq 10, 3) := by decide +kernel
theorem dX5_share_7 : decode cX5_share 7 = .ok (.iload_n 2, 1) := by decide +kernel
theorem dX5_share_8 : decode cX5_share 8 = .ok (.invokestatic 137, 3) := by decide +kernel
theorem dX5_share_11 : decode cX5_share 11 = .ok (.ifCond .ne 5, 3) := by decide +kernel
theorem dX5_share_14 : decode cX5_share 14 = .ok (.iconst (-1), 1) := by decide +kernel
theorem dX5_share_15 : decode cX5_share 15 = .ok (.ireturn, 1) := by decide +kernel
theorem dX5_share_16 : decode cX5_share 16 = .ok (.aload_n 0, 1) := by decide +kernel
theorem dX5_share_17 : decode cX5_share 17 = .ok (.getfield 27, 3) := by decide +kernel
theorem dX5_share_20 : decode cX5_share 20 = .ok (.iload_n 1, 1) := by decide +kernel
theorem dX5_share_21 : decode cX5_share 21 = .ok (.aload_n 0, 1) := by decide +kernel
theorem dX5_share_22 : decode cX5_share 22 = .ok (.getfield 27, 3) := by decide +kernel
theorem dX5_share_25 : decode cX5_share 25 = .ok (.iload_n 2, 1) := by decide +kernel
theorem dX5_share_26 : decode cX5_share 26 = .ok (.iaload, 1) := by decide +kernel
theorem dX5_share_27 : decode cX5_share 27 = .ok (.iastore, 1) := by decide +kernel
theorem dX5_share_28 : decode cX5_share 28 = .ok (.aload_n 0, 1) := by decide +kernel
theorem dX5_share_29 : decode cX5_share 29 = .ok (.iload_n 1, 1) := by decide +kernel
theorem dX5_share_30 : decode cX5_share 30 = .ok (.invokevirtual 147, 3) := by decide +kernel
theorem dX5_share_33 : decode cX5_share 33 = .ok (.ireturn, 1) := by decide +kernel
theorem dX5_head_0 : decode cX5_head 0 = .ok (.iload_n 1, 1) := by decide +kernel
theorem dX5_head_1 : decode cX5_head 1 = .ok (.invokestatic 137, 3) := by decide +kernel
theorem dX5_head_4 : decode cX5_head 4 = .ok (.ifCond .ne 5, 3) := by decide +kernel
theorem dX5_head_7 : decode cX5_head 7 = .ok (.iconst (-1), 1) := by decide +kernel
theorem dX5_head_8 : decode cX5_head 8 = .ok (.ireturn, 1) := by decide +kernel
theorem dX5_head_9 : decode cX5_head 9 = .ok (.aload_n 0, 1) := by decide +kernel
theorem dX5_head_10 : decode cX5_head 10 = .ok (.getfield 30, 3) := by decide +kernel
theorem dX5_head_13 : decode cX5_head 13 = .ok (.iload_n 1, 1) := by decide +kernel
theorem dX5_head_14 : decode cX5_head 14 = .ok (.iload_n 2, 1) := by decide +kernel
theorem dX5_head_15 : decode cX5_head 15 = .ok (.iastore, 1) := by decide +kernel
theorem dX5_head_16 : decode cX5_head 16 = .ok (.iconst 1, 1) := by decide +kernel
theorem dX5_head_17 : decode cX5_head 17 = .ok (.ireturn, 1) := by decide +kernel
theorem dX5_step_0 : decode cX5_step 0 = .ok (.iload_n 1, 1) := by decide +kernel
theorem dX5_step_1 : decode cX5_step 1 = .ok (.invokestatic 137, 3) := by decide +kernel
theorem dX5_step_4 : decode cX5_step 4 = .ok (.ifCond .eq 13, 3) := by decide +kernel
theorem dX5_step_7 : decode cX5_step 7 = .ok (.iload_n 2, 1) := by decide +kernel
theorem dX5_step_8 : decode cX5_step 8 = .ok (.bipush (-3), 2) := by decide +kernel
theorem dX5_step_10 : decode cX5_step 10 = .ok (.iconst 3, 1) := by decide +kernel
theorem dX5_step_11 : decode cX5_step 11 = .ok (.invokestatic 75, 3) := by decide +kernel
theorem dX5_step_14 : decode cX5_step 14 = .ok (.ifCond .ne 5, 3) := by decide +kernel
theorem dX5_step_17 : decode cX5_step 17 = .ok (.iconst (-1), 1) := by decide +kernel
theorem dX5_step_18 : decode cX5_step 18 = .ok (.ireturn, 1) := by decide +kernel
theorem dX5_step_19 : decode cX5_step 19 = .ok (.aload_n 0, 1) := by decide +kernel
theorem dX5_step_20 : decode cX5_step 20 = .ok (.getfield 33, 3) := by decide +kernel
theorem dX5_step_23 : decode cX5_step 23 = .ok (.iload_n 1, 1) := by decide +kernel
theorem dX5_step_24 : decode cX5_step 24 = .ok (.iaload, 1) := by decide +kernel
theorem dX5_step_25 : decode cX5_step 25 = .ok (.iconst 3, 1) := by decide +kernel
theorem dX5_step_26 : decode cX5_step 26 = .ok (.iadd, 1) := by decide +kernel
theorem dX5_step_27 : decode cX5_step 27 = .ok (.istore_n 3, 1) := by decide +kernel
theorem dX5_step_28 : decode cX5_step 28 = .ok (.aload_n 0, 1) := by decide +kernel
theorem dX5_step_29 : decode cX5_step 29 = .ok (.getfield 33, 3) := by decide +kernel
theorem dX5_step_32 : decode cX5_step 32 = .ok (.iload_n 1, 1) := by decide +kernel
theorem dX5_step_33 : decode cX5_step 33 = .ok (.iload_n 2, 1) := by decide +kernel
theorem dX5_step_34 : decode cX5_step 34 = .ok (.iastore, 1) := by decide +kernel
theorem dX5_step_35 : decode cX5_step 35 = .ok (.iload_n 3, 1) := by decide +kernel
theorem dX5_step_36 : decode cX5_step 36 = .ok (.ireturn, 1) := by decide +kernel
theorem dX5_loop_0 : decode cX5_loop 0 = .ok (.iload_n 1, 1) := by decide +kernel
theorem dX5_loop_1 : decode cX5_loop 1 = .ok (.invokestatic 137, 3) := by decide +kernel
theorem dX5_loop_4 : decode cX5_loop 4 = .ok (.ifCond .ne 5, 3) := by decide +kernel
theorem dX5_loop_7 : decode cX5_loop 7 = .ok (.iconst (-1), 1) := by decide +kernel
theorem dX5_loop_8 : decode cX5_loop 8 = .ok (.ireturn, 1) := by decide +kernel
theorem dX5_loop_9 : decode cX5_loop 9 = .ok (.aload_n 0, 1) := by decide +kernel
theorem dX5_loop_10 : decode cX5_loop 10 = .ok (.getfield 36, 3) := by decide +kernel
theorem dX5_loop_13 : decode cX5_loop 13 = .ok (.iload_n 1, 1) := by decide +kernel
theorem dX5_loop_14 : decode cX5_loop 14 = .ok (.baload, 1) := by decide +kernel
theorem dX5_loop_15 : decode cX5_loop 15 = .ok (.ifCond .eq 7, 3) := by decide +kernel
theorem dX5_loop_18 : decode cX5_loop 18 = .ok (.iconst 1, 1) := by decide +kernel
theorem dX5_loop_19 : decode cX5_loop 19 = .ok (.goto 4, 3) := by decide +kernel
theorem dX5_loop_22 : decode cX5_loop 22 = .ok (.iconst 0, 1) := by decide +kernel
theorem dX5_loop_23 : decode cX5_loop 23 = .ok (.istore_n 3, 1) := by decide +kernel
theorem dX5_loop_24 : decode cX5_loop 24 = .ok (.aload_n 0, 1) := by decide +kernel
theorem dX5_loop_25 : decode cX5_loop 25 = .ok (.getfield 36, 3) := by decide +kernel
theorem dX5_loop_28 : decode cX5_loop 28 = .ok (.iload_n 1, 1) := by decide +kernel
theorem dX5_loop_29 : decode cX5_loop 29 = .ok (.iload_n 2, 1) := by decide +kernel
theorem dX5_loop_30 : decode cX5_loop 30 = .ok (.bastore, 1) := by decide +kernel
theorem dX5_loop_31 : decode cX5_loop 31 = .ok (.iload_n 3, 1) := by decide +kernel
theorem dX5_loop_32 : decode cX5_loop 32 = .ok (.ireturn, 1) := by decide +kernel
theorem dX5_noPlain_0 : decode cX5_noPlain 0 = .ok (.aload_n 0, 1) := by decide +kernel
theorem dX5_noPlain_1 : decode cX5_noPlain 1 = .ok (.iload_n 1, 1) := by decide +kernel
theorem dX5_noPlain_2 : decode cX5_noPlain 2 = .ok (.invokevirtual 102, 3) := by decide +kernel
theorem dX5_noPlain_5 : decode cX5_noPlain 5 = .ok (.istore_n 3, 1) := by decide +kernel
theorem dX5_noPlain_6 : decode cX5_noPlain 6 = .ok (.iload_n 3, 1) := by decide +kernel
theorem dX5_noPlain_7 : decode cX5_noPlain 7 = .ok (.ifCond .ne 15, 3) := by decide +kernel
theorem dX5_noPlain_10 : decode cX5_noPlain 10 = .ok (.aload_n 0, 1) := by decide +kernel
theorem dX5_noPlain_11 : decode cX5_noPlain 11 = .ok (.iload_n 1, 1) := by decide +kernel
theorem dX5_noPlain_12 : decode cX5_noPlain 12 = .ok (.invokevirtual 110, 3) := by decide +kernel
theorem dX5_noPlain_15 : decode cX5_noPlain 15 = .ok (.bipush 7, 2) := by decide +kernel
theorem dX5_noPlain_17 : decode cX5_noPlain 17 = .ok (.if_icmp .le 5, 3) := by decide +kernel
theorem dX5_noPlain_20 : decode cX5_noPlain 20 = .ok (.iconst 2, 1) := by decide +kernel
theorem dX5_noPlain_21 : decode cX5_noPlain 21 = .ok (.istore_n 3, 1) := by decide +kernel
theorem dX5_noPlain_22 : decode cX5_noPlain 22 = .ok (.iload_n 3, 1) := by decide +kernel
theorem dX5_noPlain_23 : decode cX5_noPlain 23 = .ok (.ifCond .le 7, 3) := by decide +kernel
theorem dX5_noPlain_26 : decode cX5_noPlain 26 = .ok (.iload_n 3, 1) := by decide +kernel
theorem dX5_noPlain_27 : decode cX5_noPlain 27 = .ok (.goto 9, 3) := by decide +kernel
theorem dX5_noPlain_30 : decode cX5_noPlain 30 = .ok (.aload_n 0, 1) := by decide +kernel
theorem dX5_noPlain_31 : decode cX5_noPlain 31 = .ok (.iload_n 1, 1) := by decide +kernel
theorem dX5_noPlain_32 : decode cX5_noPlain 32 = .ok (.iload_n 2, 1) := by decide +kernel
theorem dX5_noPlain_33 : decode cX5_noPlain 33 = .ok (.invokevirtual 113, 3) := by decide +kernel
theorem dX5_noPlain_36 : decode cX5_noPlain 36 = .ok (.ireturn, 1) := by decide +kernel
theorem dX5_stamp_0 : decode cX5_stamp 0 = .ok (.iload_n 1, 1) := by decide +kernel
theorem dX5_stamp_1 : decode cX5_stamp 1 = .ok (.invokestatic 137, 3) := by decide +kernel
theorem dX5_stamp_4 : decode cX5_stamp 4 = .ok (.ifCond .eq 13, 3) := by decide +kernel
theorem dX5_stamp_7 : decode cX5_stamp 7 = .ok (.iload_n 3, 1) := by decide +kernel
theorem dX5_stamp_8 : decode cX5_stamp 8 = .ok (.iconst 0, 1) := by decide +kernel
theorem dX5_stamp_9 : decode cX5_stamp 9 = .ok (.bipush 7, 2) := by decide +kernel
theorem dX5_stamp_11 : decode cX5_stamp 11 = .ok (.invokestatic 75, 3) := by decide +kernel
theorem dX5_stamp_14 : decode cX5_stamp 14 = .ok (.ifCond .ne 5, 3) := by decide +kernel
theorem dX5_stamp_17 : decode cX5_stamp 17 = .ok (.iconst (-1), 1) := by decide +kernel
theorem dX5_stamp_18 : decode cX5_stamp 18 = .ok (.ireturn, 1) := by decide +kernel
theorem dX5_stamp_19 : decode cX5_stamp 19 = .ok (.aload_n 0, 1) := by decide +kernel
theorem dX5_stamp_20 : decode cX5_stamp 20 = .ok (.iload_n 1, 1) := by decide +kernel
theorem dX5_stamp_21 : decode cX5_stamp 21 = .ok (.iload_n 2, 1) := by decide +kernel
theorem dX5_stamp_22 : decode cX5_stamp 22 = .ok (.invokevirtual 150, 3) := by decide +kernel
theorem dX5_stamp_25 : decode cX5_stamp 25 = .ok (.istore 6, 2) := by decide +kernel
theorem dX5_stamp_27 : decode cX5_stamp 27 = .ok (.iload 6, 2) := by decide +kernel
theorem dX5_stamp_29 : decode cX5_stamp 29 = .ok (.ifCond .ne 18, 3) := by decide +kernel
theorem dX5_stamp_32 : decode cX5_stamp 32 = .ok (.aload_n 0, 1) := by decide +kernel
theorem dX5_stamp_33 : decode cX5_stamp 33 = .ok (.iload_n 1, 1) := by decide +kernel
theorem dX5_stamp_34 : decode cX5_stamp 34 = .ok (.invokevirtual 110, 3) := by decide +kernel
theorem dX5_stamp_37 : decode cX5_stamp 37 = .ok (.iload_n 3, 1) := by decide +kernel
theorem dX5_stamp_38 : decode cX5_stamp 38 = .ok (.invokestatic 106, 3) := by decide +kernel
theorem dX5_stamp_41 : decode cX5_stamp 41 = .ok (.ifCond .ne 6, 3) := by decide +kernel
theorem dX5_stamp_44 : decode cX5_stamp 44 = .ok (.iconst 2, 1) := by decide +kernel
theorem dX5_stamp_45 : decode cX5_stamp 45 = .ok (.istore 6, 2) := by decide +kernel
theorem dX5_stamp_47 : decode cX5_stamp 47 = .ok (.aload_n 0, 1) := by decide +kernel
theorem dX5_stamp_48 : decode cX5_stamp 48 = .ok (.iload 6, 2) := by decide +kernel
theorem dX5_stamp_50 : decode cX5_stamp 50 = .ok (.invokevirtual 141, 3) := by decide +kernel
theorem dX5_stamp_53 : decode cX5_stamp 53 = .ok (.ifCond .le 9, 3) := by decide +kernel
theorem dX5_stamp_56 : decode cX5_stamp 56 = .ok (.bipush (-10), 2) := by decide +kernel
theorem dX5_stamp_58 : decode cX5_stamp 58 = .ok (.iload 6, 2) := by decide +kernel
theorem dX5_stamp_60 : decode cX5_stamp 60 = .ok (.isub, 1) := by decide +kernel
theorem dX5_stamp_61 : decode cX5_stamp 61 = .ok (.ireturn, 1) := by decide +kernel
theorem dX5_stamp_62 : decode cX5_stamp 62 = .ok (.aload_n 0, 1) := by decide +kernel
theorem dX5_stamp_63 : decode cX5_stamp 63 = .ok (.getfield 20, 3) := by decide +kernel
theorem dX5_stamp_66 : decode cX5_stamp 66 = .ok (.aload_n 0, 1) := by decide +kernel
theorem dX5_stamp_67 : decode cX5_stamp 67 = .ok (.iload_n 1, 1) := by decide +kernel
theorem dX5_stamp_68 : decode cX5_stamp 68 = .ok (.iload_n 2, 1) := by decide +kernel
theorem dX5_stamp_69 : decode cX5_stamp 69 = .ok (.invokevirtual 124, 3) := by decide +kernel
theorem dX5_stamp_72 : decode cX5_stamp 72 = .ok (.aload_n 0, 1) := by decide +kernel
theorem dX5_stamp_73 : decode cX5_stamp 73 = .ok (.iload_n 1, 1) := by decide +kernel
theorem dX5_stamp_74 : decode cX5_stamp 74 = .ok (.invokevirtual 110, 3) := by decide +kernel
theorem dX5_stamp_77 : decode cX5_stamp 77 = .ok (.iload_n 3, 1) := by decide +kernel
theorem dX5_stamp_78 : decode cX5_stamp 78 = .ok (.lload 4, 2) := by decide +kernel
theorem dX5_stamp_80 : decode cX5_stamp 80 = .ok (.invokestatic 98, 3) := by decide +kernel
theorem dX5_stamp_83 : decode cX5_stamp 83 = .ok (.invokestatic 98, 3) := by decide +kernel
theorem dX5_stamp_86 : decode cX5_stamp 86 = .ok (.lastore, 1) := by decide +kernel
theorem dX5_stamp_87 : decode cX5_stamp 87 = .ok (.iconst 1, 1) := by decide +kernel
theorem dX5_stamp_88 : decode cX5_stamp 88 = .ok (.ireturn, 1) := by decide +kernel
theorem dX5_probe_0 : decode cX5_probe 0 = .ok (.iload_n 1, 1) := by decide +kernel
theorem dX5_probe_1 : decode cX5_probe 1 = .ok (.invokestatic 137, 3) := by decide +kernel
theorem dX5_probe_4 : decode cX5_probe 4 = .ok (.ifCond .eq 13, 3) := by decide +kernel
theorem dX5_probe_7 : decode cX5_probe 7 = .ok (.iload_n 3, 1) := by decide +kernel
theorem dX5_probe_8 : decode cX5_probe 8 = .ok (.iconst 0, 1) := by decide +kernel
theorem dX5_probe_9 : decode cX5_probe 9 = .ok (.bipush 7, 2) := by decide +kernel
theorem dX5_probe_11 : decode cX5_probe 11 = .ok (.invokestatic 75, 3) := by decide +kernel
theorem dX5_probe_14 : decode cX5_probe 14 = .ok (.ifCond .ne 5, 3) := by decide +kernel
theorem dX5_probe_17 : decode cX5_probe 17 = .ok (.lconst 0, 1) := by decide +kernel
theorem dX5_probe_18 : decode cX5_probe 18 = .ok (.lreturn, 1) := by decide +kernel
theorem dX5_probe_19 : decode cX5_probe 19 = .ok (.aload_n 0, 1) := by decide +kernel
theorem dX5_probe_20 : decode cX5_probe 20 = .ok (.iload_n 1, 1) := by decide +kernel
theorem dX5_probe_21 : decode cX5_probe 21 = .ok (.iload_n 2, 1) := by decide +kernel
theorem dX5_probe_22 : decode cX5_probe 22 = .ok (.invokevirtual 150, 3) := by decide +kernel
theorem dX5_probe_25 : decode cX5_probe 25 = .ok (.istore 4, 2) := by decide +kernel
theorem dX5_probe_27 : decode cX5_probe 27 = .ok (.iload 4, 2) := by decide +kernel
theorem dX5_probe_29 : decode cX5_probe 29 = .ok (.ifCond .ne 18, 3) := by decide +kernel
theorem dX5_probe_32 : decode cX5_probe 32 = .ok (.iload_n 3, 1) := by decide +kernel
theorem dX5_probe_33 : decode cX5_probe 33 = .ok (.aload_n 0, 1) := by decide +kernel
theorem dX5_probe_34 : decode cX5_probe 34 = .ok (.iload_n 1, 1) := by decide +kernel
theorem dX5_probe_35 : decode cX5_probe 35 = .ok (.invokevirtual 110, 3) := by decide +kernel
theorem dX5_probe_38 : decode cX5_probe 38 = .ok (.invokestatic 106, 3) := by decide +kernel
theorem dX5_probe_41 : decode cX5_probe 41 = .ok (.ifCond .ne 6, 3) := by decide +kernel
theorem dX5_probe_44 : decode cX5_probe 44 = .ok (.iconst 2, 1) := by decide +kernel
theorem dX5_probe_45 : decode cX5_probe 45 = .ok (.istore 4, 2) := by decide +kernel
theorem dX5_probe_47 : decode cX5_probe 47 = .ok (.aload_n 0, 1) := by decide +kernel
theorem dX5_probe_48 : decode cX5_probe 48 = .ok (.iload 4, 2) := by decide +kernel
theorem dX5_probe_50 : decode cX5_probe 50 = .ok (.invokevirtual 141, 3) := by decide +kernel
theorem dX5_probe_53 : decode cX5_probe 53 = .ok (.ifCond .le 7, 3) := by decide +kernel
theorem dX5_probe_56 : decode cX5_probe 56 = .ok (.lconst 0, 1) := by decide +kernel
theorem dX5_probe_57 : decode cX5_probe 57 = .ok (.goto 18, 3) := by decide +kernel
theorem dX5_probe_60 : decode cX5_probe 60 = .ok (.iload_n 3, 1) := by decide +kernel
theorem dX5_probe_61 : decode cX5_probe 61 = .ok (.aload_n 0, 1) := by decide +kernel
theorem dX5_probe_62 : decode cX5_probe 62 = .ok (.getfield 20, 3) := by decide +kernel
theorem dX5_probe_65 : decode cX5_probe 65 = .ok (.aload_n 0, 1) := by decide +kernel
theorem dX5_probe_66 : decode cX5_probe 66 = .ok (.iload_n 1, 1) := by decide +kernel
theorem dX5_probe_67 : decode cX5_probe 67 = .ok (.iload_n 2, 1) := by decide +kernel
theorem dX5_probe_68 : decode cX5_probe 68 = .ok (.invokevirtual 124, 3) := by decide +kernel
theorem dX5_probe_71 : decode cX5_probe 71 = .ok (.laload, 1) := by decide +kernel
theorem dX5_probe_72 : decode cX5_probe 72 = .ok (.invokestatic 98, 3) := by decide +kernel
theorem dX5_probe_75 : decode cX5_probe 75 = .ok (.lreturn, 1) := by decide +kernel
theorem dX5_tag_0 : decode cX5_tag 0 = .ok (.iload_n 1, 1) := by decide +kernel
theorem dX5_tag_1 : decode cX5_tag 1 = .ok (.invokestatic 137, 3) := by decide +kernel
theorem dX5_tag_4 : decode cX5_tag 4 = .ok (.ifCond .ne 5, 3) := by decide +kernel
theorem dX5_tag_7 : decode cX5_tag 7 = .ok (.iconst (-1), 1) := by decide +kernel
theorem dX5_tag_8 : decode cX5_tag 8 = .ok (.ireturn, 1) := by decide +kernel
theorem dX5_tag_9 : decode cX5_tag 9 = .ok (.aload_n 0, 1) := by decide +kernel
theorem dX5_tag_10 : decode cX5_tag 10 = .ok (.getfield 153, 3) := by decide +kernel
theorem dX5_tag_13 : decode cX5_tag 13 = .ok (.sipush 200, 3) := by decide +kernel
theorem dX5_tag_16 : decode cX5_tag 16 = .ok (.if_icmp .ne 6, 3) := by decide +kernel
theorem dX5_tag_19 : decode cX5_tag 19 = .ok (.bipush (-2), 2) := by decide +kernel
theorem dX5_tag_21 : decode cX5_tag 21 = .ok (.ireturn, 1) := by decide +kernel
theorem dX5_tag_22 : decode cX5_tag 22 = .ok (.aload_n 0, 1) := by decide +kernel
theorem dX5_tag_23 : decode cX5_tag 23 = .ok (.dup, 1) := by decide +kernel
theorem dX5_tag_24 : decode cX5_tag 24 = .ok (.getfield 153, 3) := by decide +kernel
theorem dX5_tag_27 : decode cX5_tag 27 = .ok (.iconst 1, 1) := by decide +kernel
theorem dX5_tag_28 : decode cX5_tag 28 = .ok (.iadd, 1) := by decide +kernel
theorem dX5_tag_29 : decode cX5_tag 29 = .ok (.putfield 153, 3) := by decide +kernel
theorem dX5_tag_32 : decode cX5_tag 32 = .ok (.aload_n 0, 1) := by decide +kernel
theorem dX5_tag_33 : decode cX5_tag 33 = .ok (.getfield 24, 3) := by decide +kernel
theorem dX5_tag_36 : decode cX5_tag 36 = .ok (.aload_n 0, 1) := by decide +kernel
theorem dX5_tag_37 : decode cX5_tag 37 = .ok (.getfield 153, 3) := by decide +kernel
theorem dX5_tag_40 : decode cX5_tag 40 = .ok (.iload_n 3, 1) := by decide +kernel
theorem dX5_tag_41 : decode cX5_tag 41 = .ok (.bastore, 1) := by decide +kernel
theorem dX5_tag_42 : decode cX5_tag 42 = .ok (.aload_n 0, 1) := by decide +kernel
theorem dX5_tag_43 : decode cX5_tag 43 = .ok (.aload_n 0, 1) := by decide +kernel
theorem dX5_tag_44 : decode cX5_tag 44 = .ok (.iload_n 1, 1) := by decide +kernel
theorem dX5_tag_45 : decode cX5_tag 45 = .ok (.iload_n 2, 1) := by decide +kernel
theorem dX5_tag_46 : decode cX5_tag 46 = .ok (.iload_n 3, 1) := by decide +kernel
theorem dX5_tag_47 : decode cX5_tag 47 = .ok (.ifCond .eq 8, 3) := by decide +kernel
theorem dX5_tag_50 : decode cX5_tag 50 = .ok (.bipush 9, 2) := by decide +kernel
theorem dX5_tag_52 : decode cX5_tag 52 = .ok (.goto 5, 3) := by decide +kernel
theorem dX5_tag_55 : decode cX5_tag 55 = .ok (.bipush 8, 2) := by decide +kernel
theorem dX5_tag_57 : decode cX5_tag 57 = .ok (.aload_n 0, 1) := by decide +kernel
theorem dX5_tag_58 : decode cX5_tag 58 = .ok (.getfield 153, 3) := by decide +kernel
theorem dX5_tag_61 : decode cX5_tag 61 = .ok (.i2l, 1) := by decide +kernel
theorem dX5_tag_62 : decode cX5_tag 62 = .ok (.invokevirtual 133, 3) := by decide +kernel
theorem dX5_tag_65 : decode cX5_tag 65 = .ok (.invokevirtual 141, 3) := by decide +kernel
theorem dX5_tag_68 : decode cX5_tag 68 = .ok (.istore 4, 2) := by decide +kernel
theorem dX5_tag_70 : decode cX5_tag 70 = .ok (.iload 4, 2) := by decide +kernel
theorem dX5_tag_72 : decode cX5_tag 72 = .ok (.ifCond .le 11, 3) := by decide +kernel
theorem dX5_tag_75 : decode cX5_tag 75 = .ok (.bipush (-10), 2) := by decide +kernel
theorem dX5_tag_77 : decode cX5_tag 77 = .ok (.iload 4, 2) := by decide +kernel
theorem dX5_tag_79 : decode cX5_tag 79 = .ok (.isub, 1) := by decide +kernel
theorem dX5_tag_80 : decode cX5_tag 80 = .ok (.goto 7, 3) := by decide +kernel
theorem dX5_tag_83 : decode cX5_tag 83 = .ok (.aload_n 0, 1) := by decide +kernel
theorem dX5_tag_84 : decode cX5_tag 84 = .ok (.getfield 153, 3) := by decide +kernel
theorem dX5_tag_87 : decode cX5_tag 87 = .ok (.ireturn, 1) := by decide +kernel
theorem dX5_rack_0 : decode cX5_rack 0 = .ok (.iload_n 1, 1) := by decide +kernel
theorem dX5_rack_1 : decode cX5_rack 1 = .ok (.invokestatic 137, 3) := by decide +kernel
theorem dX5_rack_4 : decode cX5_rack 4 = .ok (.ifCond .eq 10, 3) := by decide +kernel
theorem dX5_rack_7 : decode cX5_rack 7 = .ok (.iload_n 3, 1) := by decide +kernel
theorem dX5_rack_8 : decode cX5_rack 8 = .ok (.invokestatic 137, 3) := by decide +kernel
theorem dX5_rack_11 : decode cX5_rack 11 = .ok (.ifCond .ne 5, 3) := by decide +kernel
theorem dX5_rack_14 : decode cX5_rack 14 = .ok (.iconst (-1), 1) := by decide +kernel
theorem dX5_rack_15 : decode cX5_rack 15 = .ok (.ireturn, 1) := by decide +kernel
theorem dX5_rack_16 : decode cX5_rack 16 = .ok (.aload_n 0, 1) := by decide +kernel
theorem dX5_rack_17 : decode cX5_rack 17 = .ok (.getfield 27, 3) := by decide +kernel
theorem dX5_rack_20 : decode cX5_rack 20 = .ok (.iload_n 3, 1) := by decide +kernel
theorem dX5_rack_21 : decode cX5_rack 21 = .ok (.iaload, 1) := by decide +kernel
theorem dX5_rack_22 : decode cX5_rack 22 = .ok (.iconst (-1), 1) := by decide +kernel
theorem dX5_rack_23 : decode cX5_rack 23 = .ok (.if_icmp .ne 8, 3) := by decide +kernel
theorem dX5_rack_26 : decode cX5_rack 26 = .ok (.bipush 11, 2) := by decide +kernel
theorem dX5_rack_28 : decode cX5_rack 28 = .ok (.goto 30, 3) := by decide +kernel
theorem dX5_rack_31 : decode cX5_rack 31 = .ok (.aload_n 0, 1) := by decide +kernel
theorem dX5_rack_32 : decode cX5_rack 32 = .ok (.getfield 27, 3) := by decide +kernel
theorem dX5_rack_35 : decode cX5_rack 35 = .ok (.iload_n 3, 1) := by decide +kernel
theorem dX5_rack_36 : decode cX5_rack 36 = .ok (.iaload, 1) := by decide +kernel
theorem dX5_rack_37 : decode cX5_rack 37 = .ok (.bipush (-2), 2) := by decide +kernel
theorem dX5_rack_39 : decode cX5_rack 39 = .ok (.if_icmp .eq 12, 3) := by decide +kernel
theorem dX5_rack_42 : decode cX5_rack 42 = .ok (.aload_n 0, 1) := by decide +kernel
theorem dX5_rack_43 : decode cX5_rack 43 = .ok (.iload_n 3, 1) := by decide +kernel
theorem dX5_rack_44 : decode cX5_rack 44 = .ok (.invokevirtual 110, 3) := by decide +kernel
theorem dX5_rack_47 : decode cX5_rack 47 = .ok (.iconst 4, 1) := by decide +kernel
theorem dX5_rack_48 : decode cX5_rack 48 = .ok (.if_icmp .eq 8, 3) := by decide +kernel
theorem dX5_rack_51 : decode cX5_rack 51 = .ok (.bipush 12, 2) := by decide +kernel
theorem dX5_rack_53 : decode cX5_rack 53 = .ok (.goto 5, 3) := by decide +kernel
theorem dX5_rack_56 : decode cX5_rack 56 = .ok (.bipush 10, 2) := by decide +kernel
theorem dX5_rack_58 : decode cX5_rack 58 = .ok (.istore 4, 2) := by decide +kernel
theorem dX5_rack_60 : decode cX5_rack 60 = .ok (.aload_n 0, 1) := by decide +kernel
theorem dX5_rack_61 : decode cX5_rack 61 = .ok (.aload_n 0, 1) := by decide +kernel
theorem dX5_rack_62 : decode cX5_rack 62 = .ok (.iload_n 1, 1) := by decide +kernel
theorem dX5_rack_63 : decode cX5_rack 63 = .ok (.iload_n 2, 1) := by decide +kernel
theorem dX5_rack_64 : decode cX5_rack 64 = .ok (.iload 4, 2) := by decide +kernel
theorem dX5_rack_66 : decode cX5_rack 66 = .ok (.iload 4, 2) := by decide +kernel
theorem dX5_rack_68 : decode cX5_rack 68 = .ok (.bipush 10, 2) := by decide +kernel
theorem dX5_rack_70 : decode cX5_rack 70 = .ok (.if_icmp .ne 15, 3) := by decide +kernel
theorem dX5_rack_73 : decode cX5_rack 73 = .ok (.aload_n 0, 1) := by decide +kernel
theorem dX5_rack_74 : decode cX5_rack 74 = .ok (.getfield 27, 3) := by decide +kernel
theorem dX5_rack_77 : decode cX5_rack 77 = .ok (.iload_n 3, 1) := by decide +kernel
theorem dX5_rack_78 : decode cX5_rack 78 = .ok (.iaload, 1) := by decide +kernel
theorem dX5_rack_79 : decode cX5_rack 79 = .ok (.i2l, 1) := by decide +kernel
theorem dX5_rack_80 : decode cX5_rack 80 = .ok (.lconst 1, 1) := by decide +kernel
theorem dX5_rack_81 : decode cX5_rack 81 = .ok (.ladd, 1) := by decide +kernel
theorem dX5_rack_82 : decode cX5_rack 82 = .ok (.goto 4, 3) := by decide +kernel
theorem dX5_rack_85 : decode cX5_rack 85 = .ok (.lconst 0, 1) := by decide +kernel
theorem dX5_rack_86 : decode cX5_rack 86 = .ok (.invokevirtual 133, 3) := by decide +kernel
theorem dX5_rack_89 : decode cX5_rack 89 = .ok (.invokevirtual 141, 3) := by decide +kernel
theorem dX5_rack_92 : decode cX5_rack 92 = .ok (.istore 5, 2) := by decide +kernel
theorem dX5_rack_94 : decode cX5_rack 94 = .ok (.iload 5, 2) := by decide +kernel
theorem dX5_rack_96 : decode cX5_rack 96 = .ok (.ifCond .le 11, 3) := by decide +kernel
theorem dX5_rack_99 : decode cX5_rack 99 = .ok (.bipush (-10), 2) := by decide +kernel
theorem dX5_rack_101 : decode cX5_rack 101 = .ok (.iload 5, 2) := by decide +kernel
theorem dX5_rack_103 : decode cX5_rack 103 = .ok (.isub, 1) := by decide +kernel
theorem dX5_rack_104 : decode cX5_rack 104 = .ok (.goto 4, 3) := by decide +kernel
theorem dX5_rack_107 : decode cX5_rack 107 = .ok (.iconst 1, 1) := by decide +kernel
theorem dX5_rack_108 : decode cX5_rack 108 = .ok (.ireturn, 1) := by decide +kernel
theorem dX5_unrack_0 : decode cX5_unrack 0 = .ok (.iload_n 1, 1) := by decide +kernel
theorem dX5_unrack_1 : decode cX5_unrack 1 = .ok (.invokestatic 137, 3) := by decide +kernel
theorem dX5_unrack_4 : decode cX5_unrack 4 = .ok (.ifCond .eq 10, 3) := by decide +kernel
theorem dX5_unrack_7 : decode cX5_unrack 7 = .ok (.iload_n 3, 1) := by decide +kernel
theorem dX5_unrack_8 : decode cX5_unrack 8 = .ok (.invokestatic 137, 3) := by decide +kernel
theorem dX5_unrack_11 : decode cX5_unrack 11 = .ok (.ifCond .ne 5, 3) := by decide +kernel
theorem dX5_unrack_14 : decode cX5_unrack 14 = .ok (.iconst (-1), 1) := by decide +kernel
theorem dX5_unrack_15 : decode cX5_unrack 15 = .ok (.ireturn, 1) := by decide +kernel
theorem dX5_unrack_16 : decode cX5_unrack 16 = .ok (.aload_n 0, 1) := by decide +kernel
theorem dX5_unrack_17 : decode cX5_unrack 17 = .ok (.iload_n 1, 1) := by decide +kernel
theorem dX5_unrack_18 : decode cX5_unrack 18 = .ok (.iload_n 2, 1) := by decide +kernel
theorem dX5_unrack_19 : decode cX5_unrack 19 = .ok (.invokevirtual 113, 3) := by decide +kernel
theorem dX5_unrack_22 : decode cX5_unrack 22 = .ok (.istore 4, 2) := by decide +kernel
theorem dX5_unrack_24 : decode cX5_unrack 24 = .ok (.iload 4, 2) := by decide +kernel
theorem dX5_unrack_26 : decode cX5_unrack 26 = .ok (.ifCond .le 7, 3) := by decide +kernel
theorem dX5_unrack_29 : decode cX5_unrack 29 = .ok (.iconst 0, 1) := by decide +kernel
theorem dX5_unrack_30 : decode cX5_unrack 30 = .ok (.goto 14, 3) := by decide +kernel
theorem dX5_unrack_33 : decode cX5_unrack 33 = .ok (.aload_n 0, 1) := by decide +kernel
theorem dX5_unrack_34 : decode cX5_unrack 34 = .ok (.aload_n 0, 1) := by decide +kernel
theorem dX5_unrack_35 : decode cX5_unrack 35 = .ok (.getfield 27, 3) := by decide +kernel
theorem dX5_unrack_38 : decode cX5_unrack 38 = .ok (.iload_n 1, 1) := by decide +kernel
theorem dX5_unrack_39 : decode cX5_unrack 39 = .ok (.iaload, 1) := by decide +kernel
theorem dX5_unrack_40 : decode cX5_unrack 40 = .ok (.iload_n 2, 1) := by decide +kernel
theorem dX5_unrack_41 : decode cX5_unrack 41 = .ok (.invokevirtual 130, 3) := by decide +kernel
theorem dX5_unrack_44 : decode cX5_unrack 44 = .ok (.istore 5, 2) := by decide +kernel
theorem dX5_unrack_46 : decode cX5_unrack 46 = .ok (.iload 4, 2) := by decide +kernel
theorem dX5_unrack_48 : decode cX5_unrack 48 = .ok (.ifCond .ne 13, 3) := by decide +kernel
theorem dX5_unrack_51 : decode cX5_unrack 51 = .ok (.iload 5, 2) := by decide +kernel
theorem dX5_unrack_53 : decode cX5_unrack 53 = .ok (.bipush 10, 2) := by decide +kernel
theorem dX5_unrack_55 : decode cX5_unrack 55 = .ok (.if_icmp .ge 6, 3) := by decide +kernel
theorem dX5_unrack_58 : decode cX5_unrack 58 = .ok (.iconst 2, 1) := by decide +kernel
theorem dX5_unrack_59 : decode cX5_unrack 59 = .ok (.istore 4, 2) := by decide +kernel
theorem dX5_unrack_61 : decode cX5_unrack 61 = .ok (.aload_n 0, 1) := by decide +kernel
theorem dX5_unrack_62 : decode cX5_unrack 62 = .ok (.iload 4, 2) := by decide +kernel
theorem dX5_unrack_64 : decode cX5_unrack 64 = .ok (.invokevirtual 141, 3) := by decide +kernel
theorem dX5_unrack_67 : decode cX5_unrack 67 = .ok (.ifCond .le 9, 3) := by decide +kernel
theorem dX5_unrack_70 : decode cX5_unrack 70 = .ok (.bipush (-10), 2) := by decide +kernel
theorem dX5_unrack_72 : decode cX5_unrack 72 = .ok (.iload 4, 2) := by decide +kernel
theorem dX5_unrack_74 : decode cX5_unrack 74 = .ok (.isub, 1) := by decide +kernel
theorem dX5_unrack_75 : decode cX5_unrack 75 = .ok (.ireturn, 1) := by decide +kernel
theorem dX5_unrack_76 : decode cX5_unrack 76 = .ok (.aload_n 0, 1) := by decide +kernel
theorem dX5_unrack_77 : decode cX5_unrack 77 = .ok (.getfield 27, 3) := by decide +kernel
theorem dX5_unrack_80 : decode cX5_unrack 80 = .ok (.iload_n 3, 1) := by decide +kernel
theorem dX5_unrack_81 : decode cX5_unrack 81 = .ok (.iload 5, 2) := by decide +kernel
theorem dX5_unrack_83 : decode cX5_unrack 83 = .ok (.bipush 11, 2) := by decide +kernel
theorem dX5_unrack_85 : decode cX5_unrack 85 = .ok (.if_icmp .ne 9, 3) := by decide +kernel
theorem dX5_unrack_88 : decode cX5_unrack 88 = .ok (.ldc2_w 156, 3) := by decide +kernel
theorem dX5_unrack_91 : decode cX5_unrack 91 = .ok (.goto 16, 3) := by decide +kernel
theorem dX5_unrack_94 : decode cX5_unrack 94 = .ok (.aload_n 0, 1) := by decide +kernel
theorem dX5_unrack_95 : decode cX5_unrack 95 = .ok (.getfield 20, 3) := by decide +kernel
theorem dX5_unrack_98 : decode cX5_unrack 98 = .ok (.aload_n 0, 1) := by decide +kernel
theorem dX5_unrack_99 : decode cX5_unrack 99 = .ok (.iload_n 1, 1) := by decide +kernel
theorem dX5_unrack_100 : decode cX5_unrack 100 = .ok (.iload_n 2, 1) := by decide +kernel
theorem dX5_unrack_101 : decode cX5_unrack 101 = .ok (.invokevirtual 124, 3) := by decide +kernel
theorem dX5_unrack_104 : decode cX5_unrack 104 = .ok (.laload, 1) := by decide +kernel
theorem dX5_unrack_105 : decode cX5_unrack 105 = .ok (.lconst 1, 1) := by decide +kernel
theorem dX5_unrack_106 : decode cX5_unrack 106 = .ok (.lsub, 1) := by decide +kernel
theorem dX5_unrack_107 : decode cX5_unrack 107 = .ok (.l2i, 1) := by decide +kernel
theorem dX5_unrack_108 : decode cX5_unrack 108 = .ok (.iastore, 1) := by decide +kernel
theorem dX5_unrack_109 : decode cX5_unrack 109 = .ok (.iload 5, 2) := by decide +kernel
theorem dX5_unrack_111 : decode cX5_unrack 111 = .ok (.bipush 11, 2) := by decide +kernel
theorem dX5_unrack_113 : decode cX5_unrack 113 = .ok (.if_icmp .ne 7, 3) := by decide +kernel
theorem dX5_unrack_116 : decode cX5_unrack 116 = .ok (.iconst 0, 1) := by decide +kernel
theorem dX5_unrack_117 : decode cX5_unrack 117 = .ok (.goto 14, 3) := by decide +kernel
theorem dX5_unrack_120 : decode cX5_unrack 120 = .ok (.aload_n 0, 1) := by decide +kernel
theorem dX5_unrack_121 : decode cX5_unrack 121 = .ok (.getfield 13, 3) := by decide +kernel
theorem dX5_unrack_124 : decode cX5_unrack 124 = .ok (.aload_n 0, 1) := by decide +kernel
theorem dX5_unrack_125 : decode cX5_unrack 125 = .ok (.getfield 27, 3) := by decide +kernel
theorem dX5_unrack_128 : decode cX5_unrack 128 = .ok (.iload_n 3, 1) := by decide +kernel
theorem dX5_unrack_129 : decode cX5_unrack 129 = .ok (.iaload, 1) := by decide +kernel
theorem dX5_unrack_130 : decode cX5_unrack 130 = .ok (.iaload, 1) := by decide +kernel
theorem dX5_unrack_131 : decode cX5_unrack 131 = .ok (.ireturn, 1) := by decide +kernel
theorem dX5_cable_0 : decode cX5_cable 0 = .ok (.iload_n 1, 1) := by decide +kernel
theorem dX5_cable_1 : decode cX5_cable 1 = .ok (.iconst 0, 1) := by decide +kernel
theorem dX5_cable_2 : decode cX5_cable 2 = .ok (.iconst 3, 1) := by decide +kernel
theorem dX5_cable_3 : decode cX5_cable 3 = .ok (.invokestatic 75, 3) := by decide +kernel
theorem dX5_cable_6 : decode cX5_cable 6 = .ok (.ifCond .eq 17, 3) := by decide +kernel
theorem dX5_cable_9 : decode cX5_cable 9 = .ok (.iload_n 2, 1) := by decide +kernel
theorem dX5_cable_10 : decode cX5_cable 10 = .ok (.invokestatic 137, 3) := by decide +kernel
theorem dX5_cable_13 : decode cX5_cable 13 = .ok (.ifCond .eq 10, 3) := by decide +kernel
theorem dX5_cable_16 : decode cX5_cable 16 = .ok (.iload_n 3, 1) := by decide +kernel
theorem dX5_cable_17 : decode cX5_cable 17 = .ok (.invokestatic 137, 3) := by decide +kernel
theorem dX5_cable_20 : decode cX5_cable 20 = .ok (.ifCond .ne 5, 3) := by decide +kernel
theorem dX5_cable_23 : decode cX5_cable 23 = .ok (.iconst (-1), 1) := by decide +kernel
theorem dX5_cable_24 : decode cX5_cable 24 = .ok (.ireturn, 1) := by decide +kernel
theorem dX5_cable_25 : decode cX5_cable 25 = .ok (.aload_n 0, 1) := by decide +kernel
theorem dX5_cable_26 : decode cX5_cable 26 = .ok (.getfield 79, 3) := by decide +kernel
theorem dX5_cable_29 : decode cX5_cable 29 = .ok (.bipush 24, 2) := by decide +kernel
theorem dX5_cable_31 : decode cX5_cable 31 = .ok (.if_icmp .ne 6, 3) := by decide +kernel
theorem dX5_cable_34 : decode cX5_cable 34 = .ok (.bipush (-2), 2) := by decide +kernel
theorem dX5_cable_36 : decode cX5_cable 36 = .ok (.ireturn, 1) := by decide +kernel
theorem dX5_cable_37 : decode cX5_cable 37 = .ok (.aload_n 0, 1) := by decide +kernel
theorem dX5_cable_38 : decode cX5_cable 38 = .ok (.getfield 39, 3) := by decide +kernel
theorem dX5_cable_41 : decode cX5_cable 41 = .ok (.aload_n 0, 1) := by decide +kernel
theorem dX5_cable_42 : decode cX5_cable 42 = .ok (.getfield 79, 3) := by decide +kernel
theorem dX5_cable_45 : decode cX5_cable 45 = .ok (.iload_n 1, 1) := by decide +kernel
theorem dX5_cable_46 : decode cX5_cable 46 = .ok (.iastore, 1) := by decide +kernel
theorem dX5_cable_47 : decode cX5_cable 47 = .ok (.aload_n 0, 1) := by decide +kernel
theorem dX5_cable_48 : decode cX5_cable 48 = .ok (.getfield 42, 3) := by decide +kernel
theorem dX5_cable_51 : decode cX5_cable 51 = .ok (.aload_n 0, 1) := by decide +kernel
theorem dX5_cable_52 : decode cX5_cable 52 = .ok (.getfield 79, 3) := by decide +kernel
theorem dX5_cable_55 : decode cX5_cable 55 = .ok (.iload_n 2, 1) := by decide +kernel
theorem dX5_cable_56 : decode cX5_cable 56 = .ok (.iastore, 1) := by decide +kernel
theorem dX5_cable_57 : decode cX5_cable 57 = .ok (.aload_n 0, 1) := by decide +kernel
theorem dX5_cable_58 : decode cX5_cable 58 = .ok (.getfield 45, 3) := by decide +kernel
theorem dX5_cable_61 : decode cX5_cable 61 = .ok (.aload_n 0, 1) := by decide +kernel
theorem dX5_cable_62 : decode cX5_cable 62 = .ok (.getfield 79, 3) := by decide +kernel
theorem dX5_cable_65 : decode cX5_cable 65 = .ok (.iload_n 3, 1) := by decide +kernel
theorem dX5_cable_66 : decode cX5_cable 66 = .ok (.iastore, 1) := by decide +kernel
theorem dX5_cable_67 : decode cX5_cable 67 = .ok (.aload_n 0, 1) := by decide +kernel
theorem dX5_cable_68 : decode cX5_cable 68 = .ok (.getfield 48, 3) := by decide +kernel
theorem dX5_cable_71 : decode cX5_cable 71 = .ok (.aload_n 0, 1) := by decide +kernel
theorem dX5_cable_72 : decode cX5_cable 72 = .ok (.getfield 79, 3) := by decide +kernel
theorem dX5_cable_75 : decode cX5_cable 75 = .ok (.iconst 1, 1) := by decide +kernel
theorem dX5_cable_76 : decode cX5_cable 76 = .ok (.bastore, 1) := by decide +kernel
theorem dX5_cable_77 : decode cX5_cable 77 = .ok (.aload_n 0, 1) := by decide +kernel
theorem dX5_cable_78 : decode cX5_cable 78 = .ok (.getfield 51, 3) := by decide +kernel
theorem dX5_cable_81 : decode cX5_cable 81 = .ok (.aload_n 0, 1) := by decide +kernel
theorem dX5_cable_82 : decode cX5_cable 82 = .ok (.getfield 79, 3) := by decide +kernel
theorem dX5_cable_85 : decode cX5_cable 85 = .ok (.iconst 1, 1) := by decide +kernel
theorem dX5_cable_86 : decode cX5_cable 86 = .ok (.iastore, 1) := by decide +kernel
theorem dX5_cable_87 : decode cX5_cable 87 = .ok (.aload_n 0, 1) := by decide +kernel
theorem dX5_cable_88 : decode cX5_cable 88 = .ok (.dup, 1) := by decide +kernel
theorem dX5_cable_89 : decode cX5_cable 89 = .ok (.getfield 79, 3) := by decide +kernel
theorem dX5_cable_92 : decode cX5_cable 92 = .ok (.iconst 1, 1) := by decide +kernel
theorem dX5_cable_93 : decode cX5_cable 93 = .ok (.iadd, 1) := by decide +kernel
theorem dX5_cable_94 : decode cX5_cable 94 = .ok (.putfield 79, 3) := by decide +kernel
theorem dX5_cable_97 : decode cX5_cable 97 = .ok (.aload_n 0, 1) := by decide +kernel
theorem dX5_cable_98 : decode cX5_cable 98 = .ok (.getfield 79, 3) := by decide +kernel
theorem dX5_cable_101 : decode cX5_cable 101 = .ok (.iconst 1, 1) := by decide +kernel
theorem dX5_cable_102 : decode cX5_cable 102 = .ok (.isub, 1) := by decide +kernel
theorem dX5_cable_103 : decode cX5_cable 103 = .ok (.ireturn, 1) := by decide +kernel
theorem dX5_patience_0 : decode cX5_patience 0 = .ok (.aload_n 0, 1) := by decide +kernel
theorem dX5_patience_1 : decode cX5_patience 1 = .ok (.iload_n 1, 1) := by decide +kernel
theorem dX5_patience_2 : decode cX5_patience 2 = .ok (.invokevirtual 158, 3) := by decide +kernel
theorem dX5_patience_5 : decode cX5_patience 5 = .ok (.ifCond .eq 13, 3) := by decide +kernel
theorem dX5_patience_8 : decode cX5_patience 8 = .ok (.iload_n 2, 1) := by decide +kernel
theorem dX5_patience_9 : decode cX5_patience 9 = .ok (.iconst 1, 1) := by decide +kernel
theorem dX5_patience_10 : decode cX5_patience 10 = .ok (.bipush 9, 2) := by decide +kernel
theorem dX5_patience_12 : decode cX5_patience 12 = .ok (.invokestatic 75, 3) := by decide +kernel
theorem dX5_patience_15 : decode cX5_patience 15 = .ok (.ifCond .ne 5, 3) := by decide +kernel
theorem dX5_patience_18 : decode cX5_patience 18 = .ok (.iconst (-1), 1) := by decide +kernel
theorem dX5_patience_19 : decode cX5_patience 19 = .ok (.ireturn, 1) := by decide +kernel
theorem dX5_patience_20 : decode cX5_patience 20 = .ok (.aload_n 0, 1) := by decide +kernel
theorem dX5_patience_21 : decode cX5_patience 21 = .ok (.getfield 51, 3) := by decide +kernel
theorem dX5_patience_24 : decode cX5_patience 24 = .ok (.iload_n 1, 1) := by decide +kernel
theorem dX5_patience_25 : decode cX5_patience 25 = .ok (.iaload, 1) := by decide +kernel
theorem dX5_patience_26 : decode cX5_patience 26 = .ok (.istore_n 3, 1) := by decide +kernel
theorem dX5_patience_27 : decode cX5_patience 27 = .ok (.aload_n 0, 1) := by decide +kernel
theorem dX5_patience_28 : decode cX5_patience 28 = .ok (.getfield 51, 3) := by decide +kernel
theorem dX5_patience_31 : decode cX5_patience 31 = .ok (.iload_n 1, 1) := by decide +kernel
theorem dX5_patience_32 : decode cX5_patience 32 = .ok (.iload_n 2, 1) := by decide +kernel
theorem dX5_patience_33 : decode cX5_patience 33 = .ok (.iastore, 1) := by decide +kernel
theorem dX5_patience_34 : decode cX5_patience 34 = .ok (.iload_n 3, 1) := by decide +kernel
theorem dX5_patience_35 : decode cX5_patience 35 = .ok (.ireturn, 1) := by decide +kernel
theorem dX5_pull_0 : decode cX5_pull 0 = .ok (.aload_n 0, 1) := by decide +kernel
theorem dX5_pull_1 : decode cX5_pull 1 = .ok (.iload_n 1, 1) := by decide +kernel
theorem dX5_pull_2 : decode cX5_pull 2 = .ok (.invokevirtual 158, 3) := by decide +kernel
theorem dX5_pull_5 : decode cX5_pull 5 = .ok (.ifCond .ne 5, 3) := by decide +kernel
theorem dX5_pull_8 : decode cX5_pull 8 = .ok (.iconst (-1), 1) := by decide +kernel
theorem dX5_pull_9 : decode cX5_pull 9 = .ok (.ireturn, 1) := by decide +kernel
theorem dX5_pull_10 : decode cX5_pull 10 = .ok (.aload_n 0, 1) := by decide +kernel
theorem dX5_pull_11 : decode cX5_pull 11 = .ok (.getfield 48, 3) := by decide +kernel
theorem dX5_pull_14 : decode cX5_pull 14 = .ok (.iload_n 1, 1) := by decide +kernel
theorem dX5_pull_15 : decode cX5_pull 15 = .ok (.baload, 1) := by decide +kernel
theorem dX5_pull_16 : decode cX5_pull 16 = .ok (.ifCond .eq 7, 3) := by decide +kernel
theorem dX5_pull_19 : decode cX5_pull 19 = .ok (.iconst 1, 1) := by decide +kernel
theorem dX5_pull_20 : decode cX5_pull 20 = .ok (.goto 4, 3) := by decide +kernel
theorem dX5_pull_23 : decode cX5_pull 23 = .ok (.iconst 0, 1) := by decide +kernel
theorem dX5_pull_24 : decode cX5_pull 24 = .ok (.istore_n 2, 1) := by decide +kernel
theorem dX5_pull_25 : decode cX5_pull 25 = .ok (.aload_n 0, 1) := by decide +kernel
theorem dX5_pull_26 : decode cX5_pull 26 = .ok (.getfield 48, 3) := by decide +kernel
theorem dX5_pull_29 : decode cX5_pull 29 = .ok (.iload_n 1, 1) := by decide +kernel
theorem dX5_pull_30 : decode cX5_pull 30 = .ok (.iconst 0, 1) := by decide +kernel
theorem dX5_pull_31 : decode cX5_pull 31 = .ok (.bastore, 1) := by decide +kernel
theorem dX5_pull_32 : decode cX5_pull 32 = .ok (.iload_n 2, 1) := by decide +kernel
theorem dX5_pull_33 : decode cX5_pull 33 = .ok (.ireturn, 1) := by decide +kernel
theorem dX5_plugIn_0 : decode cX5_plugIn 0 = .ok (.aload_n 0, 1) := by decide +kernel
theorem dX5_plugIn_1 : decode cX5_plugIn 1 = .ok (.iload_n 1, 1) := by decide +kernel
theorem dX5_plugIn_2 : decode cX5_plugIn 2 = .ok (.invokevirtual 158, 3) := by decide +kernel
theorem dX5_plugIn_5 : decode cX5_plugIn 5 = .ok (.ifCond .ne 5, 3) := by decide +kernel
theorem dX5_plugIn_8 : decode cX5_plugIn 8 = .ok (.iconst (-1), 1) := by decide +kernel
theorem dX5_plugIn_9 : decode cX5_plugIn 9 = .ok (.ireturn, 1) := by decide +kernel
theorem dX5_plugIn_10 : decode cX5_plugIn 10 = .ok (.aload_n 0, 1) := by decide +kernel
theorem dX5_plugIn_11 : decode cX5_plugIn 11 = .ok (.getfield 48, 3) := by decide +kernel
theorem dX5_plugIn_14 : decode cX5_plugIn 14 = .ok (.iload_n 1, 1) := by decide +kernel
theorem dX5_plugIn_15 : decode cX5_plugIn 15 = .ok (.baload, 1) := by decide +kernel
theorem dX5_plugIn_16 : decode cX5_plugIn 16 = .ok (.ifCond .eq 7, 3) := by decide +kernel
theorem dX5_plugIn_19 : decode cX5_plugIn 19 = .ok (.iconst 1, 1) := by decide +kernel
theorem dX5_plugIn_20 : decode cX5_plugIn 20 = .ok (.goto 4, 3) := by decide +kernel
theorem dX5_plugIn_23 : decode cX5_plugIn 23 = .ok (.iconst 0, 1) := by decide +kernel
theorem dX5_plugIn_24 : decode cX5_plugIn 24 = .ok (.istore_n 2, 1) := by decide +kernel
theorem dX5_plugIn_25 : decode cX5_plugIn 25 = .ok (.aload_n 0, 1) := by decide +kernel
theorem dX5_plugIn_26 : decode cX5_plugIn 26 = .ok (.getfield 48, 3) := by decide +kernel
theorem dX5_plugIn_29 : decode cX5_plugIn 29 = .ok (.iload_n 1, 1) := by decide +kernel
theorem dX5_plugIn_30 : decode cX5_plugIn 30 = .ok (.iconst 1, 1) := by decide +kernel
theorem dX5_plugIn_31 : decode cX5_plugIn 31 = .ok (.bastore, 1) := by decide +kernel
theorem dX5_plugIn_32 : decode cX5_plugIn 32 = .ok (.aload_n 0, 1) := by decide +kernel
theorem dX5_plugIn_33 : decode cX5_plugIn 33 = .ok (.getfield 54, 3) := by decide +kernel
theorem dX5_plugIn_36 : decode cX5_plugIn 36 = .ok (.iload_n 1, 1) := by decide +kernel
theorem dX5_plugIn_37 : decode cX5_plugIn 37 = .ok (.iconst 0, 1) := by decide +kernel
theorem dX5_plugIn_38 : decode cX5_plugIn 38 = .ok (.iastore, 1) := by decide +kernel
theorem dX5_plugIn_39 : decode cX5_plugIn 39 = .ok (.iload_n 2, 1) := by decide +kernel
theorem dX5_plugIn_40 : decode cX5_plugIn 40 = .ok (.ireturn, 1) := by decide +kernel
theorem dX5_changes_0 : decode cX5_changes 0 = .ok (.aload_n 0, 1) := by decide +kernel
theorem dX5_changes_1 : decode cX5_changes 1 = .ok (.iload_n 1, 1) := by decide +kernel
theorem dX5_changes_2 : decode cX5_changes 2 = .ok (.iload_n 2, 1) := by decide +kernel
theorem dX5_changes_3 : decode cX5_changes 3 = .ok (.invokevirtual 113, 3) := by decide +kernel
theorem dX5_changes_6 : decode cX5_changes 6 = .ok (.istore 5, 2) := by decide +kernel
theorem dX5_changes_8 : decode cX5_changes 8 = .ok (.iload 5, 2) := by decide +kernel
theorem dX5_changes_10 : decode cX5_changes 10 = .ok (.ifCond .ne 12, 3) := by decide +kernel
theorem dX5_changes_13 : decode cX5_changes 13 = .ok (.aload_n 0, 1) := by decide +kernel
theorem dX5_changes_14 : decode cX5_changes 14 = .ok (.iload_n 3, 1) := by decide +kernel
theorem dX5_changes_15 : decode cX5_changes 15 = .ok (.iload 4, 2) := by decide +kernel
theorem dX5_changes_17 : decode cX5_changes 17 = .ok (.invokevirtual 113, 3) := by decide +kernel
theorem dX5_changes_20 : decode cX5_changes 20 = .ok (.istore 5, 2) := by decide +kernel
theorem dX5_changes_22 : decode cX5_changes 22 = .ok (.iload 5, 2) := by decide +kernel
theorem dX5_changes_24 : decode cX5_changes 24 = .ok (.ifCond .le 6, 3) := by decide +kernel
theorem dX5_changes_27 : decode cX5_changes 27 = .ok (.iload 5, 2) := by decide +kernel
theorem dX5_changes_29 : decode cX5_changes 29 = .ok (.ireturn, 1) := by decide +kernel
theorem dX5_changes_30 : decode cX5_changes 30 = .ok (.aload_n 0, 1) := by decide +kernel
theorem dX5_changes_31 : decode cX5_changes 31 = .ok (.aload_n 0, 1) := by decide +kernel
theorem dX5_changes_32 : decode cX5_changes 32 = .ok (.getfield 27, 3) := by decide +kernel
theorem dX5_changes_35 : decode cX5_changes 35 = .ok (.iload_n 1, 1) := by decide +kernel
theorem dX5_changes_36 : decode cX5_changes 36 = .ok (.iaload, 1) := by decide +kernel
theorem dX5_changes_37 : decode cX5_changes 37 = .ok (.iload_n 2, 1) := by decide +kernel
theorem dX5_changes_38 : decode cX5_changes 38 = .ok (.invokevirtual 130, 3) := by decide +kernel
theorem dX5_changes_41 : decode cX5_changes 41 = .ok (.istore 6, 2) := by decide +kernel
theorem dX5_changes_43 : decode cX5_changes 43 = .ok (.aload_n 0, 1) := by decide +kernel
theorem dX5_changes_44 : decode cX5_changes 44 = .ok (.aload_n 0, 1) := by decide +kernel
theorem dX5_changes_45 : decode cX5_changes 45 = .ok (.getfield 27, 3) := by decide +kernel
theorem dX5_changes_48 : decode cX5_changes 48 = .ok (.iload_n 3, 1) := by decide +kernel
theorem dX5_changes_49 : decode cX5_changes 49 = .ok (.iaload, 1) := by decide +kernel
theorem dX5_changes_50 : decode cX5_changes 50 = .ok (.iload 4, 2) := by decide +kernel
theorem dX5_changes_52 : decode cX5_changes 52 = .ok (.invokevirtual 130, 3) := by decide +kernel
theorem dX5_changes_55 : decode cX5_changes 55 = .ok (.istore 7, 2) := by decide +kernel
theorem dX5_changes_57 : decode cX5_changes 57 = .ok (.aload_n 0, 1) := by decide +kernel
theorem dX5_changes_58 : decode cX5_changes 58 = .ok (.iload_n 3, 1) := by decide +kernel
theorem dX5_changes_59 : decode cX5_changes 59 = .ok (.invokevirtual 110, 3) := by decide +kernel
theorem dX5_changes_62 : decode cX5_changes 62 = .ok (.iload 6, 2) := by decide +kernel
theorem dX5_changes_64 : decode cX5_changes 64 = .ok (.invokestatic 117, 3) := by decide +kernel
theorem dX5_changes_67 : decode cX5_changes 67 = .ok (.istore 5, 2) := by decide +kernel
theorem dX5_changes_69 : decode cX5_changes 69 = .ok (.iload 5, 2) := by decide +kernel
theorem dX5_changes_71 : decode cX5_changes 71 = .ok (.ifCond .ne 15, 3) := by decide +kernel
theorem dX5_changes_74 : decode cX5_changes 74 = .ok (.aload_n 0, 1) := by decide +kernel
theorem dX5_changes_75 : decode cX5_changes 75 = .ok (.iload_n 1, 1) := by decide +kernel
theorem dX5_changes_76 : decode cX5_changes 76 = .ok (.invokevirtual 110, 3) := by decide +kernel
theorem dX5_changes_79 : decode cX5_changes 79 = .ok (.iload 7, 2) := by decide +kernel
theorem dX5_changes_81 : decode cX5_changes 81 = .ok (.invokestatic 117, 3) := by decide +kernel
theorem dX5_changes_84 : decode cX5_changes 84 = .ok (.istore 5, 2) := by decide +kernel
theorem dX5_changes_86 : decode cX5_changes 86 = .ok (.iload 5, 2) := by decide +kernel
theorem dX5_changes_88 : decode cX5_changes 88 = .ok (.ifCond .le 6, 3) := by decide +kernel
theorem dX5_changes_91 : decode cX5_changes 91 = .ok (.iload 5, 2) := by decide +kernel
theorem dX5_changes_93 : decode cX5_changes 93 = .ok (.ireturn, 1) := by decide +kernel
theorem dX5_changes_94 : decode cX5_changes 94 = .ok (.aload_n 0, 1) := by decide +kernel
theorem dX5_changes_95 : decode cX5_changes 95 = .ok (.getfield 20, 3) := by decide +kernel
theorem dX5_changes_98 : decode cX5_changes 98 = .ok (.aload_n 0, 1) := by decide +kernel
theorem dX5_changes_99 : decode cX5_changes 99 = .ok (.iload_n 1, 1) := by decide +kernel
theorem dX5_changes_100 : decode cX5_changes 100 = .ok (.iload_n 2, 1) := by decide +kernel
theorem dX5_changes_101 : decode cX5_changes 101 = .ok (.invokevirtual 124, 3) := by decide +kernel
theorem dX5_changes_104 : decode cX5_changes 104 = .ok (.laload, 1) := by decide +kernel
theorem dX5_changes_105 : decode cX5_changes 105 = .ok (.lstore 8, 2) := by decide +kernel
theorem dX5_changes_107 : decode cX5_changes 107 = .ok (.aload_n 0, 1) := by decide +kernel
theorem dX5_changes_108 : decode cX5_changes 108 = .ok (.getfield 20, 3) := by decide +kernel
theorem dX5_changes_111 : decode cX5_changes 111 = .ok (.aload_n 0, 1) := by decide +kernel
theorem dX5_changes_112 : decode cX5_changes 112 = .ok (.iload_n 3, 1) := by decide +kernel
theorem dX5_changes_113 : decode cX5_changes 113 = .ok (.iload 4, 2) := by decide +kernel
theorem dX5_changes_115 : decode cX5_changes 115 = .ok (.invokevirtual 124, 3) := by decide +kernel
theorem dX5_changes_118 : decode cX5_changes 118 = .ok (.laload, 1) := by decide +kernel
theorem dX5_changes_119 : decode cX5_changes 119 = .ok (.lstore 10, 2) := by decide +kernel
theorem dX5_changes_121 : decode cX5_changes 121 = .ok (.aload_n 0, 1) := by decide +kernel
theorem dX5_changes_122 : decode cX5_changes 122 = .ok (.getfield 20, 3) := by decide +kernel
theorem dX5_changes_125 : decode cX5_changes 125 = .ok (.aload_n 0, 1) := by decide +kernel
theorem dX5_changes_126 : decode cX5_changes 126 = .ok (.iload_n 3, 1) := by decide +kernel
theorem dX5_changes_127 : decode cX5_changes 127 = .ok (.iload 4, 2) := by decide +kernel
theorem dX5_changes_129 : decode cX5_changes 129 = .ok (.invokevirtual 124, 3) := by decide +kernel
theorem dX5_changes_132 : decode cX5_changes 132 = .ok (.aload_n 0, 1) := by decide +kernel
theorem dX5_changes_133 : decode cX5_changes 133 = .ok (.iload_n 3, 1) := by decide +kernel
theorem dX5_changes_134 : decode cX5_changes 134 = .ok (.invokevirtual 110, 3) := by decide +kernel
theorem dX5_changes_137 : decode cX5_changes 137 = .ok (.lload 8, 2) := by decide +kernel
theorem dX5_changes_139 : decode cX5_changes 139 = .ok (.invokestatic 127, 3) := by decide +kernel
theorem dX5_changes_142 : decode cX5_changes 142 = .ok (.lastore, 1) := by decide +kernel
theorem dX5_changes_143 : decode cX5_changes 143 = .ok (.aload_n 0, 1) := by decide +kernel
theorem dX5_changes_144 : decode cX5_changes 144 = .ok (.getfield 20, 3) := by decide +kernel
theorem dX5_changes_147 : decode cX5_changes 147 = .ok (.aload_n 0, 1) := by decide +kernel
theorem dX5_changes_148 : decode cX5_changes 148 = .ok (.iload_n 1, 1) := by decide +kernel
theorem dX5_changes_149 : decode cX5_changes 149 = .ok (.iload_n 2, 1) := by decide +kernel
theorem dX5_changes_150 : decode cX5_changes 150 = .ok (.invokevirtual 124, 3) := by decide +kernel
theorem dX5_changes_153 : decode cX5_changes 153 = .ok (.aload_n 0, 1) := by decide +kernel
theorem dX5_changes_154 : decode cX5_changes 154 = .ok (.iload_n 1, 1) := by decide +kernel
theorem dX5_changes_155 : decode cX5_changes 155 = .ok (.invokevirtual 110, 3) := by decide +kernel
theorem dX5_changes_158 : decode cX5_changes 158 = .ok (.lload 10, 2) := by decide +kernel
theorem dX5_changes_160 : decode cX5_changes 160 = .ok (.invokestatic 127, 3) := by decide +kernel
theorem dX5_changes_163 : decode cX5_changes 163 = .ok (.lastore, 1) := by decide +kernel
theorem dX5_changes_164 : decode cX5_changes 164 = .ok (.iconst 0, 1) := by decide +kernel
theorem dX5_changes_165 : decode cX5_changes 165 = .ok (.ireturn, 1) := by decide +kernel
theorem dX5_carries_0 : decode cX5_carries 0 = .ok (.aload_n 0, 1) := by decide +kernel
theorem dX5_carries_1 : decode cX5_carries 1 = .ok (.getfield 30, 3) := by decide +kernel
theorem dX5_carries_4 : decode cX5_carries 4 = .ok (.aload_n 0, 1) := by decide +kernel
theorem dX5_carries_5 : decode cX5_carries 5 = .ok (.getfield 42, 3) := by decide +kernel
theorem dX5_carries_8 : decode cX5_carries 8 = .ok (.iload_n 1, 1) := by decide +kernel
theorem dX5_carries_9 : decode cX5_carries 9 = .ok (.iaload, 1) := by decide +kernel
theorem dX5_carries_10 : decode cX5_carries 10 = .ok (.iaload, 1) := by decide +kernel
theorem dX5_carries_11 : decode cX5_carries 11 = .ok (.istore_n 2, 1) := by decide +kernel
theorem dX5_carries_12 : decode cX5_carries 12 = .ok (.aload_n 0, 1) := by decide +kernel
theorem dX5_carries_13 : decode cX5_carries 13 = .ok (.getfield 30, 3) := by decide +kernel
theorem dX5_carries_16 : decode cX5_carries 16 = .ok (.aload_n 0, 1) := by decide +kernel
theorem dX5_carries_17 : decode cX5_carries 17 = .ok (.getfield 45, 3) := by decide +kernel
theorem dX5_carries_20 : decode cX5_carries 20 = .ok (.iload_n 1, 1) := by decide +kernel
theorem dX5_carries_21 : decode cX5_carries 21 = .ok (.iaload, 1) := by decide +kernel
theorem dX5_carries_22 : decode cX5_carries 22 = .ok (.iaload, 1) := by decide +kernel
theorem dX5_carries_23 : decode cX5_carries 23 = .ok (.istore_n 3, 1) := by decide +kernel
theorem dX5_carries_24 : decode cX5_carries 24 = .ok (.aload_n 0, 1) := by decide +kernel
theorem dX5_carries_25 : decode cX5_carries 25 = .ok (.getfield 39, 3) := by decide +kernel
theorem dX5_carries_28 : decode cX5_carries 28 = .ok (.iload_n 1, 1) := by decide +kernel
theorem dX5_carries_29 : decode cX5_carries 29 = .ok (.iaload, 1) := by decide +kernel
theorem dX5_carries_30 : decode cX5_carries 30 = .ok (.iconst 3, 1) := by decide +kernel
theorem dX5_carries_31 : decode cX5_carries 31 = .ok (.if_icmp .ne 22, 3) := by decide +kernel
theorem dX5_carries_34 : decode cX5_carries 34 = .ok (.aload_n 0, 1) := by decide +kernel
theorem dX5_carries_35 : decode cX5_carries 35 = .ok (.aload_n 0, 1) := by decide +kernel
theorem dX5_carries_36 : decode cX5_carries 36 = .ok (.getfield 42, 3) := by decide +kernel
theorem dX5_carries_39 : decode cX5_carries 39 = .ok (.iload_n 1, 1) := by decide +kernel
theorem dX5_carries_40 : decode cX5_carries 40 = .ok (.iaload, 1) := by decide +kernel
theorem dX5_carries_41 : decode cX5_carries 41 = .ok (.iload_n 2, 1) := by decide +kernel
theorem dX5_carries_42 : decode cX5_carries 42 = .ok (.aload_n 0, 1) := by decide +kernel
theorem dX5_carries_43 : decode cX5_carries 43 = .ok (.getfield 45, 3) := by decide +kernel
theorem dX5_carries_46 : decode cX5_carries 46 = .ok (.iload_n 1, 1) := by decide +kernel
theorem dX5_carries_47 : decode cX5_carries 47 = .ok (.iaload, 1) := by decide +kernel
theorem dX5_carries_48 : decode cX5_carries 48 = .ok (.iload_n 3, 1) := by decide +kernel
theorem dX5_carries_49 : decode cX5_carries 49 = .ok (.invokevirtual 161, 3) := by decide +kernel
theorem dX5_carries_52 : decode cX5_carries 52 = .ok (.ireturn, 1) := by decide +kernel
theorem dX5_carries_53 : decode cX5_carries 53 = .ok (.aload_n 0, 1) := by decide +kernel
theorem dX5_carries_54 : decode cX5_carries 54 = .ok (.getfield 39, 3) := by decide +kernel
theorem dX5_carries_57 : decode cX5_carries 57 = .ok (.iload_n 1, 1) := by decide +kernel
theorem dX5_carries_58 : decode cX5_carries 58 = .ok (.iaload, 1) := by decide +kernel
theorem dX5_carries_59 : decode cX5_carries 59 = .ok (.iconst 1, 1) := by decide +kernel
theorem dX5_carries_60 : decode cX5_carries 60 = .ok (.if_icmp .ne 40, 3) := by decide +kernel
theorem dX5_carries_63 : decode cX5_carries 63 = .ok (.aload_n 0, 1) := by decide +kernel
theorem dX5_carries_64 : decode cX5_carries 64 = .ok (.aload_n 0, 1) := by decide +kernel
theorem dX5_carries_65 : decode cX5_carries 65 = .ok (.getfield 42, 3) := by decide +kernel
theorem dX5_carries_68 : decode cX5_carries 68 = .ok (.iload_n 1, 1) := by decide +kernel
theorem dX5_carries_69 : decode cX5_carries 69 = .ok (.iaload, 1) := by decide +kernel
theorem dX5_carries_70 : decode cX5_carries 70 = .ok (.iload_n 2, 1) := by decide +kernel
theorem dX5_carries_71 : decode cX5_carries 71 = .ok (.invokevirtual 113, 3) := by decide +kernel
theorem dX5_carries_74 : decode cX5_carries 74 = .ok (.ifCond .ne 26, 3) := by decide +kernel
theorem dX5_carries_77 : decode cX5_carries 77 = .ok (.aload_n 0, 1) := by decide +kernel
theorem dX5_carries_78 : decode cX5_carries 78 = .ok (.aload_n 0, 1) := by decide +kernel
theorem dX5_carries_79 : decode cX5_carries 79 = .ok (.getfield 27, 3) := by decide +kernel
theorem dX5_carries_82 : decode cX5_carries 82 = .ok (.aload_n 0, 1) := by decide +kernel
theorem dX5_carries_83 : decode cX5_carries 83 = .ok (.getfield 42, 3) := by decide +kernel
theorem dX5_carries_86 : decode cX5_carries 86 = .ok (.iload_n 1, 1) := by decide +kernel
theorem dX5_carries_87 : decode cX5_carries 87 = .ok (.iaload, 1) := by decide +kernel
theorem dX5_carries_88 : decode cX5_carries 88 = .ok (.iaload, 1) := by decide +kernel
theorem dX5_carries_89 : decode cX5_carries 89 = .ok (.iload_n 2, 1) := by decide +kernel
theorem dX5_carries_90 : decode cX5_carries 90 = .ok (.invokevirtual 165, 3) := by decide +kernel
theorem dX5_carries_93 : decode cX5_carries 93 = .ok (.lconst 0, 1) := by decide +kernel
theorem dX5_carries_94 : decode cX5_carries 94 = .ok (.lcmp, 1) := by decide +kernel
theorem dX5_carries_95 : decode cX5_carries 95 = .ok (.ifCond .ne 5, 3) := by decide +kernel
theorem dX5_carries_98 : decode cX5_carries 98 = .ok (.iconst (-1), 1) := by decide +kernel
theorem dX5_carries_99 : decode cX5_carries 99 = .ok (.ireturn, 1) := by decide +kernel
theorem dX5_carries_100 : decode cX5_carries 100 = .ok (.aload_n 0, 1) := by decide +kernel
theorem dX5_carries_101 : decode cX5_carries 101 = .ok (.aload_n 0, 1) := by decide +kernel
theorem dX5_carries_102 : decode cX5_carries 102 = .ok (.getfield 42, 3) := by decide +kernel
theorem dX5_carries_105 : decode cX5_carries 105 = .ok (.iload_n 1, 1) := by decide +kernel
theorem dX5_carries_106 : decode cX5_carries 106 = .ok (.iaload, 1) := by decide +kernel
theorem dX5_carries_107 : decode cX5_carries 107 = .ok (.iload_n 2, 1) := by decide +kernel
theorem dX5_carries_108 : decode cX5_carries 108 = .ok (.aload_n 0, 1) := by decide +kernel
theorem dX5_carries_109 : decode cX5_carries 109 = .ok (.getfield 45, 3) := by decide +kernel
theorem dX5_carries_112 : decode cX5_carries 112 = .ok (.iload_n 1, 1) := by decide +kernel
theorem dX5_carries_113 : decode cX5_carries 113 = .ok (.iaload, 1) := by decide +kernel
theorem dX5_carries_114 : decode cX5_carries 114 = .ok (.iload_n 3, 1) := by decide +kernel
theorem dX5_carries_115 : decode cX5_carries 115 = .ok (.invokevirtual 169, 3) := by decide +kernel
theorem dX5_carries_118 : decode cX5_carries 118 = .ok (.istore 4, 2) := by decide +kernel
theorem dX5_carries_120 : decode cX5_carries 120 = .ok (.aload_n 0, 1) := by decide +kernel
theorem dX5_carries_121 : decode cX5_carries 121 = .ok (.getfield 39, 3) := by decide +kernel
theorem dX5_carries_124 : decode cX5_carries 124 = .ok (.iload_n 1, 1) := by decide +kernel
theorem dX5_carries_125 : decode cX5_carries 125 = .ok (.iaload, 1) := by decide +kernel
theorem dX5_carries_126 : decode cX5_carries 126 = .ok (.iconst 2, 1) := by decide +kernel
theorem dX5_carries_127 : decode cX5_carries 127 = .ok (.if_icmp .ne 32, 3) := by decide +kernel
theorem dX5_carries_130 : decode cX5_carries 130 = .ok (.iload 4, 2) := by decide +kernel
theorem dX5_carries_132 : decode cX5_carries 132 = .ok (.ifCond .ne 27, 3) := by decide +kernel
theorem dX5_carries_135 : decode cX5_carries 135 = .ok (.aload_n 0, 1) := by decide +kernel
theorem dX5_carries_136 : decode cX5_carries 136 = .ok (.aload_n 0, 1) := by decide +kernel
theorem dX5_carries_137 : decode cX5_carries 137 = .ok (.getfield 42, 3) := by decide +kernel
theorem dX5_carries_140 : decode cX5_carries 140 = .ok (.iload_n 1, 1) := by decide +kernel
theorem dX5_carries_141 : decode cX5_carries 141 = .ok (.iaload, 1) := by decide +kernel
theorem dX5_carries_142 : decode cX5_carries 142 = .ok (.iload_n 2, 1) := by decide +kernel
theorem dX5_carries_143 : decode cX5_carries 143 = .ok (.iconst 1, 1) := by decide +kernel
theorem dX5_carries_144 : decode cX5_carries 144 = .ok (.iadd, 1) := by decide +kernel
theorem dX5_carries_145 : decode cX5_carries 145 = .ok (.aload_n 0, 1) := by decide +kernel
theorem dX5_carries_146 : decode cX5_carries 146 = .ok (.getfield 45, 3) := by decide +kernel
theorem dX5_carries_149 : decode cX5_carries 149 = .ok (.iload_n 1, 1) := by decide +kernel
theorem dX5_carries_150 : decode cX5_carries 150 = .ok (.iaload, 1) := by decide +kernel
theorem dX5_carries_151 : decode cX5_carries 151 = .ok (.iload_n 3, 1) := by decide +kernel
theorem dX5_carries_152 : decode cX5_carries 152 = .ok (.iconst 1, 1) := by decide +kernel
theorem dX5_carries_153 : decode cX5_carries 153 = .ok (.iadd, 1) := by decide +kernel
theorem dX5_carries_154 : decode cX5_carries 154 = .ok (.invokevirtual 169, 3) := by decide +kernel
theorem dX5_carries_157 : decode cX5_carries 157 = .ok (.istore 4, 2) := by decide +kernel
theorem dX5_carries_159 : decode cX5_carries 159 = .ok (.iload 4, 2) := by decide +kernel
theorem dX5_carries_161 : decode cX5_carries 161 = .ok (.ireturn, 1) := by decide +kernel
theorem dX5_fails_0 : decode cX5_fails 0 = .ok (.aload_n 0, 1) := by decide +kernel
theorem dX5_fails_1 : decode cX5_fails 1 = .ok (.getfield 172, 3) := by decide +kernel
theorem dX5_fails_4 : decode cX5_fails 4 = .ok (.bipush 20, 2) := by decide +kernel
theorem dX5_fails_6 : decode cX5_fails 6 = .ok (.irem, 1) := by decide +kernel
theorem dX5_fails_7 : decode cX5_fails 7 = .ok (.istore_n 3, 1) := by decide +kernel
theorem dX5_fails_8 : decode cX5_fails 8 = .ok (.aload_n 0, 1) := by decide +kernel
theorem dX5_fails_9 : decode cX5_fails 9 = .ok (.getfield 63, 3) := by decide +kernel
theorem dX5_fails_12 : decode cX5_fails 12 = .ok (.iload_n 3, 1) := by decide +kernel
theorem dX5_fails_13 : decode cX5_fails 13 = .ok (.aload_n 0, 1) := by decide +kernel
theorem dX5_fails_14 : decode cX5_fails 14 = .ok (.getfield 175, 3) := by decide +kernel
theorem dX5_fails_17 : decode cX5_fails 17 = .ok (.iastore, 1) := by decide +kernel
theorem dX5_fails_18 : decode cX5_fails 18 = .ok (.aload_n 0, 1) := by decide +kernel
theorem dX5_fails_19 : decode cX5_fails 19 = .ok (.getfield 66, 3) := by decide +kernel
theorem dX5_fails_22 : decode cX5_fails 22 = .ok (.iload_n 3, 1) := by decide +kernel
theorem dX5_fails_23 : decode cX5_fails 23 = .ok (.iload_n 1, 1) := by decide +kernel
theorem dX5_fails_24 : decode cX5_fails 24 = .ok (.iastore, 1) := by decide +kernel
theorem dX5_fails_25 : decode cX5_fails 25 = .ok (.aload_n 0, 1) := by decide +kernel
theorem dX5_fails_26 : decode cX5_fails 26 = .ok (.getfield 69, 3) := by decide +kernel
theorem dX5_fails_29 : decode cX5_fails 29 = .ok (.iload_n 3, 1) := by decide +kernel
theorem dX5_fails_30 : decode cX5_fails 30 = .ok (.iload_n 2, 1) := by decide +kernel
theorem dX5_fails_31 : decode cX5_fails 31 = .ok (.iastore, 1) := by decide +kernel
theorem dX5_fails_32 : decode cX5_fails 32 = .ok (.aload_n 0, 1) := by decide +kernel
theorem dX5_fails_33 : decode cX5_fails 33 = .ok (.dup, 1) := by decide +kernel
theorem dX5_fails_34 : decode cX5_fails 34 = .ok (.getfield 172, 3) := by decide +kernel
theorem dX5_fails_37 : decode cX5_fails 37 = .ok (.iconst 1, 1) := by decide +kernel
theorem dX5_fails_38 : decode cX5_fails 38 = .ok (.iadd, 1) := by decide +kernel
theorem dX5_fails_39 : decode cX5_fails 39 = .ok (.putfield 172, 3) := by decide +kernel
theorem dX5_fails_42 : decode cX5_fails 42 = .ok (.aload_n 0, 1) := by decide +kernel
theorem dX5_fails_43 : decode cX5_fails 43 = .ok (.getfield 72, 3) := by decide +kernel
theorem dX5_fails_46 : decode cX5_fails 46 = .ok (.iload_n 2, 1) := by decide +kernel
theorem dX5_fails_47 : decode cX5_fails 47 = .ok (.dup2, 1) := by decide +kernel
theorem dX5_fails_48 : decode cX5_fails 48 = .ok (.iaload, 1) := by decide +kernel
theorem dX5_fails_49 : decode cX5_fails 49 = .ok (.iconst 1, 1) := by decide +kernel
theorem dX5_fails_50 : decode cX5_fails 50 = .ok (.iadd, 1) := by decide +kernel
theorem dX5_fails_51 : decode cX5_fails 51 = .ok (.iastore, 1) := by decide +kernel
theorem dX5_fails_52 : decode cX5_fails 52 = .ok (.return_, 1) := by decide +kernel
theorem dX5_moves_0 : decode cX5_moves 0 = .ok (.aload_n 0, 1) := by decide +kernel
theorem dX5_moves_1 : decode cX5_moves 1 = .ok (.getfield 30, 3) := by decide +kernel
theorem dX5_moves_4 : decode cX5_moves 4 = .ok (.iload_n 1, 1) := by decide +kernel
theorem dX5_moves_5 : decode cX5_moves 5 = .ok (.iaload, 1) := by decide +kernel
theorem dX5_moves_6 : decode cX5_moves 6 = .ok (.aload_n 0, 1) := by decide +kernel
theorem dX5_moves_7 : decode cX5_moves 7 = .ok (.getfield 33, 3) := by decide +kernel
theorem dX5_moves_10 : decode cX5_moves 10 = .ok (.iload_n 1, 1) := by decide +kernel
theorem dX5_moves_11 : decode cX5_moves 11 = .ok (.iaload, 1) := by decide +kernel
theorem dX5_moves_12 : decode cX5_moves 12 = .ok (.iadd, 1) := by decide +kernel
theorem dX5_moves_13 : decode cX5_moves 13 = .ok (.istore_n 2, 1) := by decide +kernel
theorem dX5_moves_14 : decode cX5_moves 14 = .ok (.aload_n 0, 1) := by decide +kernel
theorem dX5_moves_15 : decode cX5_moves 15 = .ok (.getfield 36, 3) := by decide +kernel
theorem dX5_moves_18 : decode cX5_moves 18 = .ok (.iload_n 1, 1) := by decide +kernel
theorem dX5_moves_19 : decode cX5_moves 19 = .ok (.baload, 1) := by decide +kernel
theorem dX5_moves_20 : decode cX5_moves 20 = .ok (.ifCond .eq 74, 3) := by decide +kernel
theorem dX5_moves_23 : decode cX5_moves 23 = .ok (.aload_n 0, 1) := by decide +kernel
theorem dX5_moves_24 : decode cX5_moves 24 = .ok (.iload_n 1, 1) := by decide +kernel
theorem dX5_moves_25 : decode cX5_moves 25 = .ok (.invokevirtual 102, 3) := by decide +kernel
theorem dX5_moves_28 : decode cX5_moves 28 = .ok (.istore_n 3, 1) := by decide +kernel
theorem dX5_moves_29 : decode cX5_moves 29 = .ok (.iload_n 3, 1) := by decide +kernel
theorem dX5_moves_30 : decode cX5_moves 30 = .ok (.ifCond .ne 19, 3) := by decide +kernel
theorem dX5_moves_33 : decode cX5_moves 33 = .ok (.aload_n 0, 1) := by decide +kernel
theorem dX5_moves_34 : decode cX5_moves 34 = .ok (.getfield 13, 3) := by decide +kernel
theorem dX5_moves_37 : decode cX5_moves 37 = .ok (.aload_n 0, 1) := by decide +kernel
theorem dX5_moves_38 : decode cX5_moves 38 = .ok (.getfield 27, 3) := by decide +kernel
theorem dX5_moves_41 : decode cX5_moves 41 = .ok (.iload_n 1, 1) := by decide +kernel
theorem dX5_moves_42 : decode cX5_moves 42 = .ok (.iaload, 1) := by decide +kernel
theorem dX5_moves_43 : decode cX5_moves 43 = .ok (.iaload, 1) := by decide +kernel
theorem dX5_moves_44 : decode cX5_moves 44 = .ok (.ifCond .ne 5, 3) := by decide +kernel
theorem dX5_moves_47 : decode cX5_moves 47 = .ok (.iconst 4, 1) := by decide +kernel
theorem dX5_moves_48 : decode cX5_moves 48 = .ok (.istore_n 3, 1) := by decide +kernel
theorem dX5_moves_49 : decode cX5_moves 49 = .ok (.iload_n 3, 1) := by decide +kernel
theorem dX5_moves_50 : decode cX5_moves 50 = .ok (.ifCond .le 13, 3) := by decide +kernel
theorem dX5_moves_53 : decode cX5_moves 53 = .ok (.aload_n 0, 1) := by decide +kernel
theorem dX5_moves_54 : decode cX5_moves 54 = .ok (.bipush 100, 2) := by decide +kernel
theorem dX5_moves_56 : decode cX5_moves 56 = .ok (.iload_n 1, 1) := by decide +kernel
theorem dX5_moves_57 : decode cX5_moves 57 = .ok (.iadd, 1) := by decide +kernel
theorem dX5_moves_58 : decode cX5_moves 58 = .ok (.iload_n 3, 1) := by decide +kernel
theorem dX5_moves_59 : decode cX5_moves 59 = .ok (.invokevirtual 178, 3) := by decide +kernel
theorem dX5_moves_62 : decode cX5_moves 62 = .ok (.return_, 1) := by decide +kernel
theorem dX5_moves_63 : decode cX5_moves 63 = .ok (.aload_n 0, 1) := by decide +kernel
theorem dX5_moves_64 : decode cX5_moves 64 = .ok (.getfield 13, 3) := by decide +kernel
theorem dX5_moves_67 : decode cX5_moves 67 = .ok (.aload_n 0, 1) := by decide +kernel
theorem dX5_moves_68 : decode cX5_moves 68 = .ok (.getfield 27, 3) := by decide +kernel
theorem dX5_moves_71 : decode cX5_moves 71 = .ok (.iload_n 1, 1) := by decide +kernel
theorem dX5_moves_72 : decode cX5_moves 72 = .ok (.iaload, 1) := by decide +kernel
theorem dX5_moves_73 : decode cX5_moves 73 = .ok (.iaload, 1) := by decide +kernel
theorem dX5_moves_74 : decode cX5_moves 74 = .ok (.istore 4, 2) := by decide +kernel
theorem dX5_moves_76 : decode cX5_moves 76 = .ok (.iload_n 2, 1) := by decide +kernel
theorem dX5_moves_77 : decode cX5_moves 77 = .ok (.iload 4, 2) := by decide +kernel
theorem dX5_moves_79 : decode cX5_moves 79 = .ok (.irem, 1) := by decide +kernel
theorem dX5_moves_80 : decode cX5_moves 80 = .ok (.istore_n 2, 1) := by decide +kernel
theorem dX5_moves_81 : decode cX5_moves 81 = .ok (.iload_n 2, 1) := by decide +kernel
theorem dX5_moves_82 : decode cX5_moves 82 = .ok (.ifCond .ge 10, 3) := by decide +kernel
theorem dX5_moves_85 : decode cX5_moves 85 = .ok (.iload_n 2, 1) := by decide +kernel
theorem dX5_moves_86 : decode cX5_moves 86 = .ok (.iload 4, 2) := by decide +kernel
theorem dX5_moves_88 : decode cX5_moves 88 = .ok (.iadd, 1) := by decide +kernel
theorem dX5_moves_89 : decode cX5_moves 89 = .ok (.goto 4, 3) := by decide +kernel
theorem dX5_moves_92 : decode cX5_moves 92 = .ok (.iload_n 2, 1) := by decide +kernel
theorem dX5_moves_93 : decode cX5_moves 93 = .ok (.istore_n 2, 1) := by decide +kernel
theorem dX5_moves_94 : decode cX5_moves 94 = .ok (.aload_n 0, 1) := by decide +kernel
theorem dX5_moves_95 : decode cX5_moves 95 = .ok (.getfield 30, 3) := by decide +kernel
theorem dX5_moves_98 : decode cX5_moves 98 = .ok (.iload_n 1, 1) := by decide +kernel
theorem dX5_moves_99 : decode cX5_moves 99 = .ok (.iload_n 2, 1) := by decide +kernel
theorem dX5_moves_100 : decode cX5_moves 100 = .ok (.iastore, 1) := by decide +kernel
theorem dX5_moves_101 : decode cX5_moves 101 = .ok (.return_, 1) := by decide +kernel
theorem dX5_tick_0 : decode cX5_tick 0 = .ok (.aload_n 0, 1) := by decide +kernel
theorem dX5_tick_1 : decode cX5_tick 1 = .ok (.dup, 1) := by decide +kernel
theorem dX5_tick_2 : decode cX5_tick 2 = .ok (.getfield 175, 3) := by decide +kernel
theorem dX5_tick_5 : decode cX5_tick 5 = .ok (.iconst 1, 1) := by decide +kernel
theorem dX5_tick_6 : decode cX5_tick 6 = .ok (.iadd, 1) := by decide +kernel
theorem dX5_tick_7 : decode cX5_tick 7 = .ok (.putfield 175, 3) := by decide +kernel
theorem dX5_tick_10 : decode cX5_tick 10 = .ok (.iconst 0, 1) := by decide +kernel
theorem dX5_tick_11 : decode cX5_tick 11 = .ok (.istore_n 1, 1) := by decide +kernel
theorem dX5_tick_12 : decode cX5_tick 12 = .ok (.iconst 0, 1) := by decide +kernel
theorem dX5_tick_13 : decode cX5_tick 13 = .ok (.istore_n 2, 1) := by decide +kernel
theorem dX5_tick_14 : decode cX5_tick 14 = .ok (.iload_n 2, 1) := by decide +kernel
theorem dX5_tick_15 : decode cX5_tick 15 = .ok (.aload_n 0, 1) := by decide +kernel
theorem dX5_tick_16 : decode cX5_tick 16 = .ok (.getfield 79, 3) := by decide +kernel
theorem dX5_tick_19 : decode cX5_tick 19 = .ok (.if_icmp .ge 128, 3) := by decide +kernel
theorem dX5_tick_22 : decode cX5_tick 22 = .ok (.aload_n 0, 1) := by decide +kernel
theorem dX5_tick_23 : decode cX5_tick 23 = .ok (.getfield 48, 3) := by decide +kernel
theorem dX5_tick_26 : decode cX5_tick 26 = .ok (.iload_n 2, 1) := by decide +kernel
theorem dX5_tick_27 : decode cX5_tick 27 = .ok (.baload, 1) := by decide +kernel
theorem dX5_tick_28 : decode cX5_tick 28 = .ok (.ifCond .eq 113, 3) := by decide +kernel
theorem dX5_tick_31 : decode cX5_tick 31 = .ok (.aload_n 0, 1) := by decide +kernel
theorem dX5_tick_32 : decode cX5_tick 32 = .ok (.iload_n 2, 1) := by decide +kernel
theorem dX5_tick_33 : decode cX5_tick 33 = .ok (.invokevirtual 182, 3) := by decide +kernel
theorem dX5_tick_36 : decode cX5_tick 36 = .ok (.istore_n 3, 1) := by decide +kernel
theorem dX5_tick_37 : decode cX5_tick 37 = .ok (.iload_n 3, 1) := by decide +kernel
theorem dX5_tick_38 : decode cX5_tick 38 = .ok (.ifCond .le 48, 3) := by decide +kernel
theorem dX5_tick_41 : decode cX5_tick 41 = .ok (.aload_n 0, 1) := by decide +kernel
theorem dX5_tick_42 : decode cX5_tick 42 = .ok (.iload_n 2, 1) := by decide +kernel
theorem dX5_tick_43 : decode cX5_tick 43 = .ok (.iload_n 3, 1) := by decide +kernel
theorem dX5_tick_44 : decode cX5_tick 44 = .ok (.invokevirtual 178, 3) := by decide +kernel
theorem dX5_tick_47 : decode cX5_tick 47 = .ok (.aload_n 0, 1) := by decide +kernel
theorem dX5_tick_48 : decode cX5_tick 48 = .ok (.getfield 54, 3) := by decide +kernel
theorem dX5_tick_51 : decode cX5_tick 51 = .ok (.iload_n 2, 1) := by decide +kernel
theorem dX5_tick_52 : decode cX5_tick 52 = .ok (.dup2, 1) := by decide +kernel
theorem dX5_tick_53 : decode cX5_tick 53 = .ok (.iaload, 1) := by decide +kernel
theorem dX5_tick_54 : decode cX5_tick 54 = .ok (.iconst 1, 1) := by decide +kernel
theorem dX5_tick_55 : decode cX5_tick 55 = .ok (.iadd, 1) := by decide +kernel
theorem dX5_tick_56 : decode cX5_tick 56 = .ok (.iastore, 1) := by decide +kernel
theorem dX5_tick_57 : decode cX5_tick 57 = .ok (.aload_n 0, 1) := by decide +kernel
theorem dX5_tick_58 : decode cX5_tick 58 = .ok (.getfield 48, 3) := by decide +kernel
theorem dX5_tick_61 : decode cX5_tick 61 = .ok (.iload_n 2, 1) := by decide +kernel
theorem dX5_tick_62 : decode cX5_tick 62 = .ok (.aload_n 0, 1) := by decide +kernel
theorem dX5_tick_63 : decode cX5_tick 63 = .ok (.getfield 54, 3) := by decide +kernel
theorem dX5_tick_66 : decode cX5_tick 66 = .ok (.iload_n 2, 1) := by decide +kernel
theorem dX5_tick_67 : decode cX5_tick 67 = .ok (.iaload, 1) := by decide +kernel
theorem dX5_tick_68 : decode cX5_tick 68 = .ok (.aload_n 0, 1) := by decide +kernel
theorem dX5_tick_69 : decode cX5_tick 69 = .ok (.getfield 51, 3) := by decide +kernel
theorem dX5_tick_72 : decode cX5_tick 72 = .ok (.iload_n 2, 1) := by decide +kernel
theorem dX5_tick_73 : decode cX5_tick 73 = .ok (.iaload, 1) := by decide +kernel
theorem dX5_tick_74 : decode cX5_tick 74 = .ok (.if_icmp .eq 7, 3) := by decide +kernel
theorem dX5_tick_77 : decode cX5_tick 77 = .ok (.iconst 1, 1) := by decide +kernel
theorem dX5_tick_78 : decode cX5_tick 78 = .ok (.goto 4, 3) := by decide +kernel
theorem dX5_tick_81 : decode cX5_tick 81 = .ok (.iconst 0, 1) := by decide +kernel
theorem dX5_tick_82 : decode cX5_tick 82 = .ok (.bastore, 1) := by decide +kernel
theorem dX5_tick_83 : decode cX5_tick 83 = .ok (.goto 58, 3) := by decide +kernel
theorem dX5_tick_86 : decode cX5_tick 86 = .ok (.aload_n 0, 1) := by decide +kernel
theorem dX5_tick_87 : decode cX5_tick 87 = .ok (.getfield 54, 3) := by decide +kernel
theorem dX5_tick_90 : decode cX5_tick 90 = .ok (.iload_n 2, 1) := by decide +kernel
theorem dX5_tick_91 : decode cX5_tick 91 = .ok (.iconst 0, 1) := by decide +kernel
theorem dX5_tick_92 : decode cX5_tick 92 = .ok (.iastore, 1) := by decide +kernel
theorem dX5_tick_93 : decode cX5_tick 93 = .ok (.aload_n 0, 1) := by decide +kernel
theorem dX5_tick_94 : decode cX5_tick 94 = .ok (.getfield 60, 3) := by decide +kernel
theorem dX5_tick_97 : decode cX5_tick 97 = .ok (.iload_n 2, 1) := by decide +kernel
theorem dX5_tick_98 : decode cX5_tick 98 = .ok (.dup2, 1) := by decide +kernel
theorem dX5_tick_99 : decode cX5_tick 99 = .ok (.iaload, 1) := by decide +kernel
theorem dX5_tick_100 : decode cX5_tick 100 = .ok (.iload_n 3, 1) := by decide +kernel
theorem dX5_tick_101 : decode cX5_tick 101 = .ok (.ifCond .ge 7, 3) := by decide +kernel
theorem dX5_tick_104 : decode cX5_tick 104 = .ok (.iconst 1, 1) := by decide +kernel
theorem dX5_tick_105 : decode cX5_tick 105 = .ok (.goto 4, 3) := by decide +kernel
theorem dX5_tick_108 : decode cX5_tick 108 = .ok (.iconst 0, 1) := by decide +kernel
theorem dX5_tick_109 : decode cX5_tick 109 = .ok (.iadd, 1) := by decide +kernel
theorem dX5_tick_110 : decode cX5_tick 110 = .ok (.iastore, 1) := by decide +kernel
theorem dX5_tick_111 : decode cX5_tick 111 = .ok (.aload_n 0, 1) := by decide +kernel
theorem dX5_tick_112 : decode cX5_tick 112 = .ok (.getfield 57, 3) := by decide +kernel
theorem dX5_tick_115 : decode cX5_tick 115 = .ok (.iload_n 2, 1) := by decide +kernel
theorem dX5_tick_116 : decode cX5_tick 116 = .ok (.dup2, 1) := by decide +kernel
theorem dX5_tick_117 : decode cX5_tick 117 = .ok (.iaload, 1) := by decide +kernel
theorem dX5_tick_118 : decode cX5_tick 118 = .ok (.iload_n 3, 1) := by decide +kernel
theorem dX5_tick_119 : decode cX5_tick 119 = .ok (.ifCond .ge 7, 3) := by decide +kernel
theorem dX5_tick_122 : decode cX5_tick 122 = .ok (.iconst 0, 1) := by decide +kernel
theorem dX5_tick_123 : decode cX5_tick 123 = .ok (.goto 4, 3) := by decide +kernel
theorem dX5_tick_126 : decode cX5_tick 126 = .ok (.iconst 1, 1) := by decide +kernel
theorem dX5_tick_127 : decode cX5_tick 127 = .ok (.iadd, 1) := by decide +kernel
theorem dX5_tick_128 : decode cX5_tick 128 = .ok (.iastore, 1) := by decide +kernel
theorem dX5_tick_129 : decode cX5_tick 129 = .ok (.iload_n 1, 1) := by decide +kernel
theorem dX5_tick_130 : decode cX5_tick 130 = .ok (.iload_n 3, 1) := by decide +kernel
theorem dX5_tick_131 : decode cX5_tick 131 = .ok (.ifCond .ge 7, 3) := by decide +kernel
theorem dX5_tick_134 : decode cX5_tick 134 = .ok (.iconst 0, 1) := by decide +kernel
theorem dX5_tick_135 : decode cX5_tick 135 = .ok (.goto 4, 3) := by decide +kernel
theorem dX5_tick_138 : decode cX5_tick 138 = .ok (.iconst 1, 1) := by decide +kernel
theorem dX5_tick_139 : decode cX5_tick 139 = .ok (.iadd, 1) := by decide +kernel
theorem dX5_tick_140 : decode cX5_tick 140 = .ok (.istore_n 1, 1) := by decide +kernel
theorem dX5_tick_141 : decode cX5_tick 141 = .ok (.iinc 2 1, 3) := by decide +kernel
theorem dX5_tick_144 : decode cX5_tick 144 = .ok (.goto (-130), 3) := by decide +kernel
theorem dX5_tick_147 : decode cX5_tick 147 = .ok (.iconst 0, 1) := by decide +kernel
theorem dX5_tick_148 : decode cX5_tick 148 = .ok (.istore_n 2, 1) := by decide +kernel
theorem dX5_tick_149 : decode cX5_tick 149 = .ok (.iload_n 2, 1) := by decide +kernel
theorem dX5_tick_150 : decode cX5_tick 150 = .ok (.bipush 16, 2) := by decide +kernel
theorem dX5_tick_152 : decode cX5_tick 152 = .ok (.if_icmp .ge 14, 3) := by decide +kernel
theorem dX5_tick_155 : decode cX5_tick 155 = .ok (.aload_n 0, 1) := by decide +kernel
theorem dX5_tick_156 : decode cX5_tick 156 = .ok (.iload_n 2, 1) := by decide +kernel
theorem dX5_tick_157 : decode cX5_tick 157 = .ok (.invokevirtual 185, 3) := by decide +kernel
theorem dX5_tick_160 : decode cX5_tick 160 = .ok (.iinc 2 1, 3) := by decide +kernel
theorem dX5_tick_163 : decode cX5_tick 163 = .ok (.goto (-14), 3) := by decide +kernel
theorem dX5_tick_166 : decode cX5_tick 166 = .ok (.iload_n 1, 1) := by decide +kernel
theorem dX5_tick_167 : decode cX5_tick 167 = .ok (.ireturn, 1) := by decide +kernel
theorem dX5_splice_0 : decode cX5_splice 0 = .ok (.iload_n 1, 1) := by decide +kernel
theorem dX5_splice_1 : decode cX5_splice 1 = .ok (.invokestatic 137, 3) := by decide +kernel
theorem dX5_splice_4 : decode cX5_splice 4 = .ok (.ifCond .eq 21, 3) := by decide +kernel
theorem dX5_splice_7 : decode cX5_splice 7 = .ok (.iload_n 3, 1) := by decide +kernel
theorem dX5_splice_8 : decode cX5_splice 8 = .ok (.invokestatic 137, 3) := by decide +kernel
theorem dX5_splice_11 : decode cX5_splice 11 = .ok (.ifCond .eq 14, 3) := by decide +kernel
theorem dX5_splice_14 : decode cX5_splice 14 = .ok (.iload 5, 2) := by decide +kernel
theorem dX5_splice_16 : decode cX5_splice 16 = .ok (.iconst 0, 1) := by decide +kernel
theorem dX5_splice_17 : decode cX5_splice 17 = .ok (.bipush 32, 2) := by decide +kernel
theorem dX5_splice_19 : decode cX5_splice 19 = .ok (.invokestatic 75, 3) := by decide +kernel
theorem dX5_splice_22 : decode cX5_splice 22 = .ok (.ifCond .ne 5, 3) := by decide +kernel
theorem dX5_splice_25 : decode cX5_splice 25 = .ok (.iconst (-1), 1) := by decide +kernel
theorem dX5_splice_26 : decode cX5_splice 26 = .ok (.ireturn, 1) := by decide +kernel
theorem dX5_splice_27 : decode cX5_splice 27 = .ok (.iconst 0, 1) := by decide +kernel
theorem dX5_splice_28 : decode cX5_splice 28 = .ok (.istore 6, 2) := by decide +kernel
theorem dX5_splice_30 : decode cX5_splice 30 = .ok (.iconst 0, 1) := by decide +kernel
theorem dX5_splice_31 : decode cX5_splice 31 = .ok (.istore 7, 2) := by decide +kernel
theorem dX5_splice_33 : decode cX5_splice 33 = .ok (.iload 6, 2) := by decide +kernel
theorem dX5_splice_35 : decode cX5_splice 35 = .ok (.iload 5, 2) := by decide +kernel
theorem dX5_splice_37 : decode cX5_splice 37 = .ok (.if_icmp .ge 44, 3) := by decide +kernel
theorem dX5_splice_40 : decode cX5_splice 40 = .ok (.iload 7, 2) := by decide +kernel
theorem dX5_splice_42 : decode cX5_splice 42 = .ok (.ifCond .ne 39, 3) := by decide +kernel
theorem dX5_splice_45 : decode cX5_splice 45 = .ok (.aload_n 0, 1) := by decide +kernel
theorem dX5_splice_46 : decode cX5_splice 46 = .ok (.iload_n 1, 1) := by decide +kernel
theorem dX5_splice_47 : decode cX5_splice 47 = .ok (.iload_n 2, 1) := by decide +kernel
theorem dX5_splice_48 : decode cX5_splice 48 = .ok (.iload 6, 2) := by decide +kernel
theorem dX5_splice_50 : decode cX5_splice 50 = .ok (.iadd, 1) := by decide +kernel
theorem dX5_splice_51 : decode cX5_splice 51 = .ok (.iload_n 3, 1) := by decide +kernel
theorem dX5_splice_52 : decode cX5_splice 52 = .ok (.iload 4, 2) := by decide +kernel
theorem dX5_splice_54 : decode cX5_splice 54 = .ok (.iload 6, 2) := by decide +kernel
theorem dX5_splice_56 : decode cX5_splice 56 = .ok (.iadd, 1) := by decide +kernel
theorem dX5_splice_57 : decode cX5_splice 57 = .ok (.invokevirtual 169, 3) := by decide +kernel
theorem dX5_splice_60 : decode cX5_splice 60 = .ok (.istore 7, 2) := by decide +kernel
theorem dX5_splice_62 : decode cX5_splice 62 = .ok (.iload 7, 2) := by decide +kernel
theorem dX5_splice_64 : decode cX5_splice 64 = .ok (.ifCond .ne 10, 3) := by decide +kernel
theorem dX5_splice_67 : decode cX5_splice 67 = .ok (.iload 6, 2) := by decide +kernel
theorem dX5_splice_69 : decode cX5_splice 69 = .ok (.iconst 1, 1) := by decide +kernel
theorem dX5_splice_70 : decode cX5_splice 70 = .ok (.iadd, 1) := by decide +kernel
theorem dX5_splice_71 : decode cX5_splice 71 = .ok (.goto 5, 3) := by decide +kernel
theorem dX5_splice_74 : decode cX5_splice 74 = .ok (.iload 6, 2) := by decide +kernel
theorem dX5_splice_76 : decode cX5_splice 76 = .ok (.istore 6, 2) := by decide +kernel
theorem dX5_splice_78 : decode cX5_splice 78 = .ok (.goto (-45), 3) := by decide +kernel
theorem dX5_splice_81 : decode cX5_splice 81 = .ok (.aload_n 0, 1) := by decide +kernel
theorem dX5_splice_82 : decode cX5_splice 82 = .ok (.iload 7, 2) := by decide +kernel
theorem dX5_splice_84 : decode cX5_splice 84 = .ok (.invokevirtual 141, 3) := by decide +kernel
theorem dX5_splice_87 : decode cX5_splice 87 = .ok (.istore 7, 2) := by decide +kernel
theorem dX5_splice_89 : decode cX5_splice 89 = .ok (.iload 6, 2) := by decide +kernel
theorem dX5_splice_91 : decode cX5_splice 91 = .ok (.ireturn, 1) := by decide +kernel
theorem dX5_dub_0 : decode cX5_dub 0 = .ok (.iload_n 1, 1) := by decide +kernel
theorem dX5_dub_1 : decode cX5_dub 1 = .ok (.invokestatic 137, 3) := by decide +kernel
theorem dX5_dub_4 : decode cX5_dub 4 = .ok (.ifCond .eq 20, 3) := by decide +kernel
theorem dX5_dub_7 : decode cX5_dub 7 = .ok (.iload_n 2, 1) := by decide +kernel
theorem dX5_dub_8 : decode cX5_dub 8 = .ok (.invokestatic 137, 3) := by decide +kernel
theorem dX5_dub_11 : decode cX5_dub 11 = .ok (.ifCond .eq 13, 3) := by decide +kernel
theorem dX5_dub_14 : decode cX5_dub 14 = .ok (.iload_n 3, 1) := by decide +kernel
theorem dX5_dub_15 : decode cX5_dub 15 = .ok (.iconst 0, 1) := by decide +kernel
theorem dX5_dub_16 : decode cX5_dub 16 = .ok (.bipush 10, 2) := by decide +kernel
theorem dX5_dub_18 : decode cX5_dub 18 = .ok (.invokestatic 75, 3) := by decide +kernel
theorem dX5_dub_21 : decode cX5_dub 21 = .ok (.ifCond .ne 5, 3) := by decide +kernel
theorem dX5_dub_24 : decode cX5_dub 24 = .ok (.iconst (-1), 1) := by decide +kernel
theorem dX5_dub_25 : decode cX5_dub 25 = .ok (.ireturn, 1) := by decide +kernel
theorem dX5_dub_26 : decode cX5_dub 26 = .ok (.aload_n 0, 1) := by decide +kernel
theorem dX5_dub_27 : decode cX5_dub 27 = .ok (.iload_n 2, 1) := by decide +kernel
theorem dX5_dub_28 : decode cX5_dub 28 = .ok (.invokevirtual 102, 3) := by decide +kernel
theorem dX5_dub_31 : decode cX5_dub 31 = .ok (.istore 4, 2) := by decide +kernel
theorem dX5_dub_33 : decode cX5_dub 33 = .ok (.iload 4, 2) := by decide +kernel
theorem dX5_dub_35 : decode cX5_dub 35 = .ok (.ifCond .le 7, 3) := by decide +kernel
theorem dX5_dub_38 : decode cX5_dub 38 = .ok (.iconst 0, 1) := by decide +kernel
theorem dX5_dub_39 : decode cX5_dub 39 = .ok (.goto 14, 3) := by decide +kernel
theorem dX5_dub_42 : decode cX5_dub 42 = .ok (.aload_n 0, 1) := by decide +kernel
theorem dX5_dub_43 : decode cX5_dub 43 = .ok (.getfield 13, 3) := by decide +kernel
theorem dX5_dub_46 : decode cX5_dub 46 = .ok (.aload_n 0, 1) := by decide +kernel
theorem dX5_dub_47 : decode cX5_dub 47 = .ok (.getfield 27, 3) := by decide +kernel
theorem dX5_dub_50 : decode cX5_dub 50 = .ok (.iload_n 2, 1) := by decide +kernel
theorem dX5_dub_51 : decode cX5_dub 51 = .ok (.iaload, 1) := by decide +kernel
theorem dX5_dub_52 : decode cX5_dub 52 = .ok (.iaload, 1) := by decide +kernel
theorem dX5_dub_53 : decode cX5_dub 53 = .ok (.istore 5, 2) := by decide +kernel
theorem dX5_dub_55 : decode cX5_dub 55 = .ok (.iconst 0, 1) := by decide +kernel
theorem dX5_dub_56 : decode cX5_dub 56 = .ok (.istore 6, 2) := by decide +kernel
theorem dX5_dub_58 : decode cX5_dub 58 = .ok (.iload 6, 2) := by decide +kernel
theorem dX5_dub_60 : decode cX5_dub 60 = .ok (.iload 5, 2) := by decide +kernel
theorem dX5_dub_62 : decode cX5_dub 62 = .ok (.if_icmp .ge 32, 3) := by decide +kernel
theorem dX5_dub_65 : decode cX5_dub 65 = .ok (.iload 4, 2) := by decide +kernel
theorem dX5_dub_67 : decode cX5_dub 67 = .ok (.ifCond .ne 27, 3) := by decide +kernel
theorem dX5_dub_70 : decode cX5_dub 70 = .ok (.iload_n 3, 1) := by decide +kernel
theorem dX5_dub_71 : decode cX5_dub 71 = .ok (.aload_n 0, 1) := by decide +kernel
theorem dX5_dub_72 : decode cX5_dub 72 = .ok (.aload_n 0, 1) := by decide +kernel
theorem dX5_dub_73 : decode cX5_dub 73 = .ok (.getfield 27, 3) := by decide +kernel
theorem dX5_dub_76 : decode cX5_dub 76 = .ok (.iload_n 2, 1) := by decide +kernel
theorem dX5_dub_77 : decode cX5_dub 77 = .ok (.iaload, 1) := by decide +kernel
theorem dX5_dub_78 : decode cX5_dub 78 = .ok (.iload 6, 2) := by decide +kernel
theorem dX5_dub_80 : decode cX5_dub 80 = .ok (.invokevirtual 130, 3) := by decide +kernel
theorem dX5_dub_83 : decode cX5_dub 83 = .ok (.invokestatic 117, 3) := by decide +kernel
theorem dX5_dub_86 : decode cX5_dub 86 = .ok (.istore 4, 2) := by decide +kernel
theorem dX5_dub_88 : decode cX5_dub 88 = .ok (.iinc 6 1, 3) := by decide +kernel
theorem dX5_dub_91 : decode cX5_dub 91 = .ok (.goto (-33), 3) := by decide +kernel
theorem dX5_dub_94 : decode cX5_dub 94 = .ok (.aload_n 0, 1) := by decide +kernel
theorem dX5_dub_95 : decode cX5_dub 95 = .ok (.iload 4, 2) := by decide +kernel
theorem dX5_dub_97 : decode cX5_dub 97 = .ok (.invokevirtual 141, 3) := by decide +kernel
theorem dX5_dub_100 : decode cX5_dub 100 = .ok (.ifCond .le 9, 3) := by decide +kernel
theorem dX5_dub_103 : decode cX5_dub 103 = .ok (.bipush (-10), 2) := by decide +kernel
theorem dX5_dub_105 : decode cX5_dub 105 = .ok (.iload 4, 2) := by decide +kernel
theorem dX5_dub_107 : decode cX5_dub 107 = .ok (.isub, 1) := by decide +kernel
theorem dX5_dub_108 : decode cX5_dub 108 = .ok (.ireturn, 1) := by decide +kernel
theorem dX5_dub_109 : decode cX5_dub 109 = .ok (.aload_n 0, 1) := by decide +kernel
theorem dX5_dub_110 : decode cX5_dub 110 = .ok (.getfield 27, 3) := by decide +kernel
theorem dX5_dub_113 : decode cX5_dub 113 = .ok (.iload_n 2, 1) := by decide +kernel
theorem dX5_dub_114 : decode cX5_dub 114 = .ok (.iaload, 1) := by decide +kernel
theorem dX5_dub_115 : decode cX5_dub 115 = .ok (.istore 6, 2) := by decide +kernel
theorem dX5_dub_117 : decode cX5_dub 117 = .ok (.aload_n 0, 1) := by decide +kernel
theorem dX5_dub_118 : decode cX5_dub 118 = .ok (.iload_n 3, 1) := by decide +kernel
theorem dX5_dub_119 : decode cX5_dub 119 = .ok (.iload 5, 2) := by decide +kernel
theorem dX5_dub_121 : decode cX5_dub 121 = .ok (.invokevirtual 144, 3) := by decide +kernel
theorem dX5_dub_124 : decode cX5_dub 124 = .ok (.istore 7, 2) := by decide +kernel
theorem dX5_dub_126 : decode cX5_dub 126 = .ok (.iconst 0, 1) := by decide +kernel
theorem dX5_dub_127 : decode cX5_dub 127 = .ok (.istore 8, 2) := by decide +kernel
theorem dX5_dub_129 : decode cX5_dub 129 = .ok (.iload 8, 2) := by decide +kernel
theorem dX5_dub_131 : decode cX5_dub 131 = .ok (.iload 5, 2) := by decide +kernel
theorem dX5_dub_133 : decode cX5_dub 133 = .ok (.if_icmp .ge 39, 3) := by decide +kernel
theorem dX5_dub_136 : decode cX5_dub 136 = .ok (.aload_n 0, 1) := by decide +kernel
theorem dX5_dub_137 : decode cX5_dub 137 = .ok (.getfield 20, 3) := by decide +kernel
theorem dX5_dub_140 : decode cX5_dub 140 = .ok (.bipush 32, 2) := by decide +kernel
theorem dX5_dub_142 : decode cX5_dub 142 = .ok (.iload 7, 2) := by decide +kernel
theorem dX5_dub_144 : decode cX5_dub 144 = .ok (.imul, 1) := by decide +kernel
theorem dX5_dub_145 : decode cX5_dub 145 = .ok (.iload 8, 2) := by decide +kernel
theorem dX5_dub_147 : decode cX5_dub 147 = .ok (.iadd, 1) := by decide +kernel
theorem dX5_dub_148 : decode cX5_dub 148 = .ok (.iload_n 3, 1) := by decide +kernel
theorem dX5_dub_149 : decode cX5_dub 149 = .ok (.aload_n 0, 1) := by decide +kernel
theorem dX5_dub_150 : decode cX5_dub 150 = .ok (.getfield 20, 3) := by decide +kernel
theorem dX5_dub_153 : decode cX5_dub 153 = .ok (.bipush 32, 2) := by decide +kernel
theorem dX5_dub_155 : decode cX5_dub 155 = .ok (.iload 6, 2) := by decide +kernel
theorem dX5_dub_157 : decode cX5_dub 157 = .ok (.imul, 1) := by decide +kernel
theorem dX5_dub_158 : decode cX5_dub 158 = .ok (.iload 8, 2) := by decide +kernel
theorem dX5_dub_160 : decode cX5_dub 160 = .ok (.iadd, 1) := by decide +kernel
theorem dX5_dub_161 : decode cX5_dub 161 = .ok (.laload, 1) := by decide +kernel
theorem dX5_dub_162 : decode cX5_dub 162 = .ok (.invokestatic 127, 3) := by decide +kernel
theorem dX5_dub_165 : decode cX5_dub 165 = .ok (.lastore, 1) := by decide +kernel
theorem dX5_dub_166 : decode cX5_dub 166 = .ok (.iinc 8 1, 3) := by decide +kernel
theorem dX5_dub_169 : decode cX5_dub 169 = .ok (.goto (-40), 3) := by decide +kernel
theorem dX5_dub_172 : decode cX5_dub 172 = .ok (.aload_n 0, 1) := by decide +kernel
theorem dX5_dub_173 : decode cX5_dub 173 = .ok (.getfield 27, 3) := by decide +kernel
theorem dX5_dub_176 : decode cX5_dub 176 = .ok (.iload_n 1, 1) := by decide +kernel
theorem dX5_dub_177 : decode cX5_dub 177 = .ok (.iload 7, 2) := by decide +kernel
theorem dX5_dub_179 : decode cX5_dub 179 = .ok (.iastore, 1) := by decide +kernel
theorem dX5_dub_180 : decode cX5_dub 180 = .ok (.iload 5, 2) := by decide +kernel
theorem dX5_dub_182 : decode cX5_dub 182 = .ok (.ireturn, 1) := by decide +kernel
theorem dX5_sum_0 : decode cX5_sum 0 = .ok (.iload_n 1, 1) := by decide +kernel
theorem dX5_sum_1 : decode cX5_sum 1 = .ok (.invokestatic 137, 3) := by decide +kernel
theorem dX5_sum_4 : decode cX5_sum 4 = .ok (.ifCond .eq 15, 3) := by decide +kernel
theorem dX5_sum_7 : decode cX5_sum 7 = .ok (.aload_n 0, 1) := by decide +kernel
theorem dX5_sum_8 : decode cX5_sum 8 = .ok (.aload_n 0, 1) := by decide +kernel
theorem dX5_sum_9 : decode cX5_sum 9 = .ok (.iload_n 1, 1) := by decide +kernel
theorem dX5_sum_10 : decode cX5_sum 10 = .ok (.invokevirtual 102, 3) := by decide +kernel
theorem dX5_sum_13 : decode cX5_sum 13 = .ok (.invokevirtual 141, 3) := by decide +kernel
theorem dX5_sum_16 : decode cX5_sum 16 = .ok (.ifCond .le 5, 3) := by decide +kernel
theorem dX5_sum_19 : decode cX5_sum 19 = .ok (.lconst 0, 1) := by decide +kernel
theorem dX5_sum_20 : decode cX5_sum 20 = .ok (.lreturn, 1) := by decide +kernel
theorem dX5_sum_21 : decode cX5_sum 21 = .ok (.lconst 0, 1) := by decide +kernel
theorem dX5_sum_22 : decode cX5_sum 22 = .ok (.lstore_n 2, 1) := by decide +kernel
theorem dX5_sum_23 : decode cX5_sum 23 = .ok (.iconst 0, 1) := by decide +kernel
theorem dX5_sum_24 : decode cX5_sum 24 = .ok (.istore 4, 2) := by decide +kernel
theorem dX5_sum_26 : decode cX5_sum 26 = .ok (.iload 4, 2) := by decide +kernel
theorem dX5_sum_28 : decode cX5_sum 28 = .ok (.aload_n 0, 1) := by decide +kernel
theorem dX5_sum_29 : decode cX5_sum 29 = .ok (.getfield 13, 3) := by decide +kernel
theorem dX5_sum_32 : decode cX5_sum 32 = .ok (.aload_n 0, 1) := by decide +kernel
theorem dX5_sum_33 : decode cX5_sum 33 = .ok (.getfield 27, 3) := by decide +kernel
theorem dX5_sum_36 : decode cX5_sum 36 = .ok (.iload_n 1, 1) := by decide +kernel
theorem dX5_sum_37 : decode cX5_sum 37 = .ok (.iaload, 1) := by decide +kernel
theorem dX5_sum_38 : decode cX5_sum 38 = .ok (.iaload, 1) := by decide +kernel
theorem dX5_sum_39 : decode cX5_sum 39 = .ok (.if_icmp .ge 24, 3) := by decide +kernel
theorem dX5_sum_42 : decode cX5_sum 42 = .ok (.lload_n 2, 1) := by decide +kernel
theorem dX5_sum_43 : decode cX5_sum 43 = .ok (.aload_n 0, 1) := by decide +kernel
theorem dX5_sum_44 : decode cX5_sum 44 = .ok (.aload_n 0, 1) := by decide +kernel
theorem dX5_sum_45 : decode cX5_sum 45 = .ok (.getfield 27, 3) := by decide +kernel
theorem dX5_sum_48 : decode cX5_sum 48 = .ok (.iload_n 1, 1) := by decide +kernel
theorem dX5_sum_49 : decode cX5_sum 49 = .ok (.iaload, 1) := by decide +kernel
theorem dX5_sum_50 : decode cX5_sum 50 = .ok (.iload 4, 2) := by decide +kernel
theorem dX5_sum_52 : decode cX5_sum 52 = .ok (.invokevirtual 165, 3) := by decide +kernel
theorem dX5_sum_55 : decode cX5_sum 55 = .ok (.ladd, 1) := by decide +kernel
theorem dX5_sum_56 : decode cX5_sum 56 = .ok (.lstore_n 2, 1) := by decide +kernel
theorem dX5_sum_57 : decode cX5_sum 57 = .ok (.iinc 4 1, 3) := by decide +kernel
theorem dX5_sum_60 : decode cX5_sum 60 = .ok (.goto (-34), 3) := by decide +kernel
theorem dX5_sum_63 : decode cX5_sum 63 = .ok (.lload_n 2, 1) := by decide +kernel
theorem dX5_sum_64 : decode cX5_sum 64 = .ok (.lreturn, 1) := by decide +kernel
theorem dX5_match_0 : decode cX5_match 0 = .ok (.iload_n 1, 1) := by decide +kernel
theorem dX5_match_1 : decode cX5_match 1 = .ok (.invokestatic 137, 3) := by decide +kernel
theorem dX5_match_4 : decode cX5_match 4 = .ok (.ifCond .eq 10, 3) := by decide +kernel
theorem dX5_match_7 : decode cX5_match 7 = .ok (.iload_n 2, 1) := by decide +kernel
theorem dX5_match_8 : decode cX5_match 8 = .ok (.invokestatic 137, 3) := by decide +kernel
theorem dX5_match_11 : decode cX5_match 11 = .ok (.ifCond .ne 6, 3) := by decide +kernel
theorem dX5_match_14 : decode cX5_match 14 = .ok (.bipush (-101), 2) := by decide +kernel
theorem dX5_match_16 : decode cX5_match 16 = .ok (.ireturn, 1) := by decide +kernel
theorem dX5_match_17 : decode cX5_match 17 = .ok (.aload_n 0, 1) := by decide +kernel
theorem dX5_match_18 : decode cX5_match 18 = .ok (.iload_n 1, 1) := by decide +kernel
theorem dX5_match_19 : decode cX5_match 19 = .ok (.invokevirtual 102, 3) := by decide +kernel
theorem dX5_match_22 : decode cX5_match 22 = .ok (.istore_n 3, 1) := by decide +kernel
theorem dX5_match_23 : decode cX5_match 23 = .ok (.aload_n 0, 1) := by decide +kernel
theorem dX5_match_24 : decode cX5_match 24 = .ok (.iload_n 3, 1) := by decide +kernel
theorem dX5_match_25 : decode cX5_match 25 = .ok (.ifCond .le 7, 3) := by decide +kernel
theorem dX5_match_28 : decode cX5_match 28 = .ok (.iload_n 3, 1) := by decide +kernel
theorem dX5_match_29 : decode cX5_match 29 = .ok (.goto 8, 3) := by decide +kernel
theorem dX5_match_32 : decode cX5_match 32 = .ok (.aload_n 0, 1) := by decide +kernel
theorem dX5_match_33 : decode cX5_match 33 = .ok (.iload_n 2, 1) := by decide +kernel
theorem dX5_match_34 : decode cX5_match 34 = .ok (.invokevirtual 102, 3) := by decide +kernel
theorem dX5_match_37 : decode cX5_match 37 = .ok (.invokevirtual 141, 3) := by decide +kernel
theorem dX5_match_40 : decode cX5_match 40 = .ok (.istore_n 3, 1) := by decide +kernel
theorem dX5_match_41 : decode cX5_match 41 = .ok (.iload_n 3, 1) := by decide +kernel
theorem dX5_match_42 : decode cX5_match 42 = .ok (.ifCond .le 8, 3) := by decide +kernel
theorem dX5_match_45 : decode cX5_match 45 = .ok (.bipush (-110), 2) := by decide +kernel
theorem dX5_match_47 : decode cX5_match 47 = .ok (.iload_n 3, 1) := by decide +kernel
theorem dX5_match_48 : decode cX5_match 48 = .ok (.isub, 1) := by decide +kernel
theorem dX5_match_49 : decode cX5_match 49 = .ok (.ireturn, 1) := by decide +kernel
theorem dX5_match_50 : decode cX5_match 50 = .ok (.aload_n 0, 1) := by decide +kernel
theorem dX5_match_51 : decode cX5_match 51 = .ok (.getfield 13, 3) := by decide +kernel
theorem dX5_match_54 : decode cX5_match 54 = .ok (.aload_n 0, 1) := by decide +kernel
theorem dX5_match_55 : decode cX5_match 55 = .ok (.getfield 27, 3) := by decide +kernel
theorem dX5_match_58 : decode cX5_match 58 = .ok (.iload_n 1, 1) := by decide +kernel
theorem dX5_match_59 : decode cX5_match 59 = .ok (.iaload, 1) := by decide +kernel
theorem dX5_match_60 : decode cX5_match 60 = .ok (.iaload, 1) := by decide +kernel
theorem dX5_match_61 : decode cX5_match 61 = .ok (.istore 4, 2) := by decide +kernel
theorem dX5_match_63 : decode cX5_match 63 = .ok (.aload_n 0, 1) := by decide +kernel
theorem dX5_match_64 : decode cX5_match 64 = .ok (.getfield 13, 3) := by decide +kernel
theorem dX5_match_67 : decode cX5_match 67 = .ok (.aload_n 0, 1) := by decide +kernel
theorem dX5_match_68 : decode cX5_match 68 = .ok (.getfield 27, 3) := by decide +kernel
theorem dX5_match_71 : decode cX5_match 71 = .ok (.iload_n 2, 1) := by decide +kernel
theorem dX5_match_72 : decode cX5_match 72 = .ok (.iaload, 1) := by decide +kernel
theorem dX5_match_73 : decode cX5_match 73 = .ok (.iaload, 1) := by decide +kernel
theorem dX5_match_74 : decode cX5_match 74 = .ok (.istore 5, 2) := by decide +kernel
theorem dX5_match_76 : decode cX5_match 76 = .ok (.iconst 0, 1) := by decide +kernel
theorem dX5_match_77 : decode cX5_match 77 = .ok (.istore 6, 2) := by decide +kernel
theorem dX5_match_79 : decode cX5_match 79 = .ok (.iload 6, 2) := by decide +kernel
theorem dX5_match_81 : decode cX5_match 81 = .ok (.iload 4, 2) := by decide +kernel
theorem dX5_match_83 : decode cX5_match 83 = .ok (.if_icmp .ge 44, 3) := by decide +kernel
theorem dX5_match_86 : decode cX5_match 86 = .ok (.iload 6, 2) := by decide +kernel
theorem dX5_match_88 : decode cX5_match 88 = .ok (.iload 5, 2) := by decide +kernel
theorem dX5_match_90 : decode cX5_match 90 = .ok (.if_icmp .ge 37, 3) := by decide +kernel
theorem dX5_match_93 : decode cX5_match 93 = .ok (.aload_n 0, 1) := by decide +kernel
theorem dX5_match_94 : decode cX5_match 94 = .ok (.aload_n 0, 1) := by decide +kernel
theorem dX5_match_95 : decode cX5_match 95 = .ok (.getfield 27, 3) := by decide +kernel
theorem dX5_match_98 : decode cX5_match 98 = .ok (.iload_n 1, 1) := by decide +kernel
theorem dX5_match_99 : decode cX5_match 99 = .ok (.iaload, 1) := by decide +kernel
theorem dX5_match_100 : decode cX5_match 100 = .ok (.iload 6, 2) := by decide +kernel
theorem dX5_match_102 : decode cX5_match 102 = .ok (.invokevirtual 165, 3) := by decide +kernel
theorem dX5_match_105 : decode cX5_match 105 = .ok (.aload_n 0, 1) := by decide +kernel
theorem dX5_match_106 : decode cX5_match 106 = .ok (.aload_n 0, 1) := by decide +kernel
theorem dX5_match_107 : decode cX5_match 107 = .ok (.getfield 27, 3) := by decide +kernel
theorem dX5_match_110 : decode cX5_match 110 = .ok (.iload_n 2, 1) := by decide +kernel
theorem dX5_match_111 : decode cX5_match 111 = .ok (.iaload, 1) := by decide +kernel
theorem dX5_match_112 : decode cX5_match 112 = .ok (.iload 6, 2) := by decide +kernel
theorem dX5_match_114 : decode cX5_match 114 = .ok (.invokevirtual 165, 3) := by decide +kernel
theorem dX5_match_117 : decode cX5_match 117 = .ok (.lcmp, 1) := by decide +kernel
theorem dX5_match_118 : decode cX5_match 118 = .ok (.ifCond .ne 9, 3) := by decide +kernel
theorem dX5_match_121 : decode cX5_match 121 = .ok (.iinc 6 1, 3) := by decide +kernel
theorem dX5_match_124 : decode cX5_match 124 = .ok (.goto (-45), 3) := by decide +kernel
theorem dX5_match_127 : decode cX5_match 127 = .ok (.iload 6, 2) := by decide +kernel
theorem dX5_match_129 : decode cX5_match 129 = .ok (.iload 4, 2) := by decide +kernel
theorem dX5_match_131 : decode cX5_match 131 = .ok (.if_icmp .ne 17, 3) := by decide +kernel
theorem dX5_match_134 : decode cX5_match 134 = .ok (.iload 6, 2) := by decide +kernel
theorem dX5_match_136 : decode cX5_match 136 = .ok (.iload 5, 2) := by decide +kernel
theorem dX5_match_138 : decode cX5_match 138 = .ok (.if_icmp .ne 10, 3) := by decide +kernel
theorem dX5_match_141 : decode cX5_match 141 = .ok (.iconst (-1), 1) := by decide +kernel
theorem dX5_match_142 : decode cX5_match 142 = .ok (.iload 4, 2) := by decide +kernel
theorem dX5_match_144 : decode cX5_match 144 = .ok (.isub, 1) := by decide +kernel
theorem dX5_match_145 : decode cX5_match 145 = .ok (.goto 5, 3) := by decide +kernel
theorem dX5_match_148 : decode cX5_match 148 = .ok (.iload 6, 2) := by decide +kernel
theorem dX5_match_150 : decode cX5_match 150 = .ok (.ireturn, 1) := by decide +kernel
theorem dX5_why_0 : decode cX5_why 0 = .ok (.aload_n 0, 1) := by decide +kernel
theorem dX5_why_1 : decode cX5_why 1 = .ok (.getfield 83, 3) := by decide +kernel
theorem dX5_why_4 : decode cX5_why 4 = .ok (.ireturn, 1) := by decide +kernel
theorem dX5_number_0 : decode cX5_number 0 = .ok (.iload_n 1, 1) := by decide +kernel
theorem dX5_number_1 : decode cX5_number 1 = .ok (.invokestatic 137, 3) := by decide +kernel
theorem dX5_number_4 : decode cX5_number 4 = .ok (.ifCond .eq 16, 3) := by decide +kernel
theorem dX5_number_7 : decode cX5_number 7 = .ok (.aload_n 0, 1) := by decide +kernel
theorem dX5_number_8 : decode cX5_number 8 = .ok (.aload_n 0, 1) := by decide +kernel
theorem dX5_number_9 : decode cX5_number 9 = .ok (.iload_n 1, 1) := by decide +kernel
theorem dX5_number_10 : decode cX5_number 10 = .ok (.iload_n 2, 1) := by decide +kernel
theorem dX5_number_11 : decode cX5_number 11 = .ok (.invokevirtual 113, 3) := by decide +kernel
theorem dX5_number_14 : decode cX5_number 14 = .ok (.invokevirtual 141, 3) := by decide +kernel
theorem dX5_number_17 : decode cX5_number 17 = .ok (.ifCond .le 7, 3) := by decide +kernel
theorem dX5_number_20 : decode cX5_number 20 = .ok (.lconst 0, 1) := by decide +kernel
theorem dX5_number_21 : decode cX5_number 21 = .ok (.goto 14, 3) := by decide +kernel
theorem dX5_number_24 : decode cX5_number 24 = .ok (.aload_n 0, 1) := by decide +kernel
theorem dX5_number_25 : decode cX5_number 25 = .ok (.aload_n 0, 1) := by decide +kernel
theorem dX5_number_26 : decode cX5_number 26 = .ok (.getfield 27, 3) := by decide +kernel
theorem dX5_number_29 : decode cX5_number 29 = .ok (.iload_n 1, 1) := by decide +kernel
theorem dX5_number_30 : decode cX5_number 30 = .ok (.iaload, 1) := by decide +kernel
theorem dX5_number_31 : decode cX5_number 31 = .ok (.iload_n 2, 1) := by decide +kernel
theorem dX5_number_32 : decode cX5_number 32 = .ok (.invokevirtual 165, 3) := by decide +kernel
theorem dX5_number_35 : decode cX5_number 35 = .ok (.lreturn, 1) := by decide +kernel
theorem dX5_kind_0 : decode cX5_kind 0 = .ok (.iload_n 1, 1) := by decide +kernel
theorem dX5_kind_1 : decode cX5_kind 1 = .ok (.invokestatic 137, 3) := by decide +kernel
theorem dX5_kind_4 : decode cX5_kind 4 = .ok (.ifCond .ne 5, 3) := by decide +kernel
theorem dX5_kind_7 : decode cX5_kind 7 = .ok (.iconst (-1), 1) := by decide +kernel
theorem dX5_kind_8 : decode cX5_kind 8 = .ok (.ireturn, 1) := by decide +kernel
theorem dX5_kind_9 : decode cX5_kind 9 = .ok (.aload_n 0, 1) := by decide +kernel
theorem dX5_kind_10 : decode cX5_kind 10 = .ok (.aload_n 0, 1) := by decide +kernel
theorem dX5_kind_11 : decode cX5_kind 11 = .ok (.iload_n 1, 1) := by decide +kernel
theorem dX5_kind_12 : decode cX5_kind 12 = .ok (.iload_n 2, 1) := by decide +kernel
theorem dX5_kind_13 : decode cX5_kind 13 = .ok (.invokevirtual 113, 3) := by decide +kernel
theorem dX5_kind_16 : decode cX5_kind 16 = .ok (.invokevirtual 141, 3) := by decide +kernel
theorem dX5_kind_19 : decode cX5_kind 19 = .ok (.istore_n 3, 1) := by decide +kernel
theorem dX5_kind_20 : decode cX5_kind 20 = .ok (.iload_n 3, 1) := by decide +kernel
theorem dX5_kind_21 : decode cX5_kind 21 = .ok (.ifCond .le 10, 3) := by decide +kernel
theorem dX5_kind_24 : decode cX5_kind 24 = .ok (.bipush (-10), 2) := by decide +kernel
theorem dX5_kind_26 : decode cX5_kind 26 = .ok (.iload_n 3, 1) := by decide +kernel
theorem dX5_kind_27 : decode cX5_kind 27 = .ok (.isub, 1) := by decide +kernel
theorem dX5_kind_28 : decode cX5_kind 28 = .ok (.goto 14, 3) := by decide +kernel
theorem dX5_kind_31 : decode cX5_kind 31 = .ok (.aload_n 0, 1) := by decide +kernel
theorem dX5_kind_32 : decode cX5_kind 32 = .ok (.aload_n 0, 1) := by decide +kernel
theorem dX5_kind_33 : decode cX5_kind 33 = .ok (.getfield 27, 3) := by decide +kernel
theorem dX5_kind_36 : decode cX5_kind 36 = .ok (.iload_n 1, 1) := by decide +kernel
theorem dX5_kind_37 : decode cX5_kind 37 = .ok (.iaload, 1) := by decide +kernel
theorem dX5_kind_38 : decode cX5_kind 38 = .ok (.iload_n 2, 1) := by decide +kernel
theorem dX5_kind_39 : decode cX5_kind 39 = .ok (.invokevirtual 130, 3) := by decide +kernel
theorem dX5_kind_42 : decode cX5_kind 42 = .ok (.ireturn, 1) := by decide +kernel
theorem dX5_cells_0 : decode cX5_cells 0 = .ok (.iload_n 1, 1) := by decide +kernel
theorem dX5_cells_1 : decode cX5_cells 1 = .ok (.invokestatic 137, 3) := by decide +kernel
theorem dX5_cells_4 : decode cX5_cells 4 = .ok (.ifCond .ne 5, 3) := by decide +kernel
theorem dX5_cells_7 : decode cX5_cells 7 = .ok (.iconst (-1), 1) := by decide +kernel
theorem dX5_cells_8 : decode cX5_cells 8 = .ok (.ireturn, 1) := by decide +kernel
theorem dX5_cells_9 : decode cX5_cells 9 = .ok (.aload_n 0, 1) := by decide +kernel
theorem dX5_cells_10 : decode cX5_cells 10 = .ok (.aload_n 0, 1) := by decide +kernel
theorem dX5_cells_11 : decode cX5_cells 11 = .ok (.iload_n 1, 1) := by decide +kernel
theorem dX5_cells_12 : decode cX5_cells 12 = .ok (.invokevirtual 102, 3) := by decide +kernel
theorem dX5_cells_15 : decode cX5_cells 15 = .ok (.invokevirtual 141, 3) := by decide +kernel
theorem dX5_cells_18 : decode cX5_cells 18 = .ok (.istore_n 2, 1) := by decide +kernel
theorem dX5_cells_19 : decode cX5_cells 19 = .ok (.iload_n 2, 1) := by decide +kernel
theorem dX5_cells_20 : decode cX5_cells 20 = .ok (.ifCond .le 10, 3) := by decide +kernel
theorem dX5_cells_23 : decode cX5_cells 23 = .ok (.bipush (-10), 2) := by decide +kernel
theorem dX5_cells_25 : decode cX5_cells 25 = .ok (.iload_n 2, 1) := by decide +kernel
theorem dX5_cells_26 : decode cX5_cells 26 = .ok (.isub, 1) := by decide +kernel
theorem dX5_cells_27 : decode cX5_cells 27 = .ok (.goto 14, 3) := by decide +kernel
theorem dX5_cells_30 : decode cX5_cells 30 = .ok (.aload_n 0, 1) := by decide +kernel
theorem dX5_cells_31 : decode cX5_cells 31 = .ok (.getfield 13, 3) := by decide +kernel
theorem dX5_cells_34 : decode cX5_cells 34 = .ok (.aload_n 0, 1) := by decide +kernel
theorem dX5_cells_35 : decode cX5_cells 35 = .ok (.getfield 27, 3) := by decide +kernel
theorem dX5_cells_38 : decode cX5_cells 38 = .ok (.iload_n 1, 1) := by decide +kernel
theorem dX5_cells_39 : decode cX5_cells 39 = .ok (.iaload, 1) := by decide +kernel
theorem dX5_cells_40 : decode cX5_cells 40 = .ok (.iaload, 1) := by decide +kernel
theorem dX5_cells_41 : decode cX5_cells 41 = .ok (.ireturn, 1) := by decide +kernel
theorem dX5_of_0 : decode cX5_of 0 = .ok (.iload_n 1, 1) := by decide +kernel
theorem dX5_of_1 : decode cX5_of 1 = .ok (.invokestatic 137, 3) := by decide +kernel
theorem dX5_of_4 : decode cX5_of 4 = .ok (.ifCond .eq 12, 3) := by decide +kernel
theorem dX5_of_7 : decode cX5_of 7 = .ok (.iload_n 2, 1) := by decide +kernel
theorem dX5_of_8 : decode cX5_of 8 = .ok (.iconst 0, 1) := by decide +kernel
theorem dX5_of_9 : decode cX5_of 9 = .ok (.iconst 3, 1) := by decide +kernel
theorem dX5_of_10 : decode cX5_of 10 = .ok (.invokestatic 75, 3) := by decide +kernel
theorem dX5_of_13 : decode cX5_of 13 = .ok (.ifCond .ne 6, 3) := by decide +kernel
theorem dX5_of_16 : decode cX5_of 16 = .ok (.ldc 189, 2) := by decide +kernel
theorem dX5_of_18 : decode cX5_of 18 = .ok (.ireturn, 1) := by decide +kernel
theorem dX5_of_19 : decode cX5_of 19 = .ok (.iload_n 2, 1) := by decide +kernel
theorem dX5_of_20 : decode cX5_of 20 = .ok (.ifCond .ne 12, 3) := by decide +kernel
theorem dX5_of_23 : decode cX5_of 23 = .ok (.aload_n 0, 1) := by decide +kernel
theorem dX5_of_24 : decode cX5_of 24 = .ok (.getfield 30, 3) := by decide +kernel
theorem dX5_of_27 : decode cX5_of 27 = .ok (.iload_n 1, 1) := by decide +kernel
theorem dX5_of_28 : decode cX5_of 28 = .ok (.iaload, 1) := by decide +kernel
theorem dX5_of_29 : decode cX5_of 29 = .ok (.goto 44, 3) := by decide +kernel
theorem dX5_of_32 : decode cX5_of 32 = .ok (.iload_n 2, 1) := by decide +kernel
theorem dX5_of_33 : decode cX5_of 33 = .ok (.iconst 1, 1) := by decide +kernel
theorem dX5_of_34 : decode cX5_of 34 = .ok (.if_icmp .ne 12, 3) := by decide +kernel
theorem dX5_of_37 : decode cX5_of 37 = .ok (.aload_n 0, 1) := by decide +kernel
theorem dX5_of_38 : decode cX5_of 38 = .ok (.getfield 33, 3) := by decide +kernel
theorem dX5_of_41 : decode cX5_of 41 = .ok (.iload_n 1, 1) := by decide +kernel
theorem dX5_of_42 : decode cX5_of 42 = .ok (.iaload, 1) := by decide +kernel
theorem dX5_of_43 : decode cX5_of 43 = .ok (.goto 30, 3) := by decide +kernel
theorem dX5_of_46 : decode cX5_of 46 = .ok (.iload_n 2, 1) := by decide +kernel
theorem dX5_of_47 : decode cX5_of 47 = .ok (.iconst 2, 1) := by decide +kernel
theorem dX5_of_48 : decode cX5_of 48 = .ok (.if_icmp .ne 20, 3) := by decide +kernel
theorem dX5_of_51 : decode cX5_of 51 = .ok (.aload_n 0, 1) := by decide +kernel
theorem dX5_of_52 : decode cX5_of 52 = .ok (.getfield 36, 3) := by decide +kernel
theorem dX5_of_55 : decode cX5_of 55 = .ok (.iload_n 1, 1) := by decide +kernel
theorem dX5_of_56 : decode cX5_of 56 = .ok (.baload, 1) := by decide +kernel
theorem dX5_of_57 : decode cX5_of 57 = .ok (.ifCond .eq 7, 3) := by decide +kernel
theorem dX5_of_60 : decode cX5_of 60 = .ok (.iconst 1, 1) := by decide +kernel
theorem dX5_of_61 : decode cX5_of 61 = .ok (.goto 12, 3) := by decide +kernel
theorem dX5_of_64 : decode cX5_of 64 = .ok (.iconst 0, 1) := by decide +kernel
theorem dX5_of_65 : decode cX5_of 65 = .ok (.goto 8, 3) := by decide +kernel
theorem dX5_of_68 : decode cX5_of 68 = .ok (.aload_n 0, 1) := by decide +kernel
theorem dX5_of_69 : decode cX5_of 69 = .ok (.iload_n 1, 1) := by decide +kernel
theorem dX5_of_70 : decode cX5_of 70 = .ok (.invokevirtual 147, 3) := by decide +kernel
theorem dX5_of_73 : decode cX5_of 73 = .ok (.ireturn, 1) := by decide +kernel
theorem dX5_told_0 : decode cX5_told 0 = .ok (.aload_n 0, 1) := by decide +kernel
theorem dX5_told_1 : decode cX5_told 1 = .ok (.iload_n 1, 1) := by decide +kernel
theorem dX5_told_2 : decode cX5_told 2 = .ok (.invokevirtual 158, 3) := by decide +kernel
theorem dX5_told_5 : decode cX5_told 5 = .ok (.ifCond .ne 5, 3) := by decide +kernel
theorem dX5_told_8 : decode cX5_told 8 = .ok (.iconst (-1), 1) := by decide +kernel
theorem dX5_told_9 : decode cX5_told 9 = .ok (.ireturn, 1) := by decide +kernel
theorem dX5_told_10 : decode cX5_told 10 = .ok (.iload_n 2, 1) := by decide +kernel
theorem dX5_told_11 : decode cX5_told 11 = .ok (.tableswitch 109 0 7 #[45, 52, 59, 66, 81, 88, 95, 102], 45) := by decide +kernel
theorem dX5_told_56 : decode cX5_told 56 = .ok (.aload_n 0, 1) := by decide +kernel
theorem dX5_told_57 : decode cX5_told 57 = .ok (.getfield 39, 3) := by decide +kernel
theorem dX5_told_60 : decode cX5_told 60 = .ok (.iload_n 1, 1) := by decide +kernel
theorem dX5_told_61 : decode cX5_told 61 = .ok (.iaload, 1) := by decide +kernel
theorem dX5_told_62 : decode cX5_told 62 = .ok (.ireturn, 1) := by decide +kernel
theorem dX5_told_63 : decode cX5_told 63 = .ok (.aload_n 0, 1) := by decide +kernel
theorem dX5_told_64 : decode cX5_told 64 = .ok (.getfield 42, 3) := by decide +kernel
theorem dX5_told_67 : decode cX5_told 67 = .ok (.iload_n 1, 1) := by decide +kernel
theorem dX5_told_68 : decode cX5_told 68 = .ok (.iaload, 1) := by decide +kernel
theorem dX5_told_69 : decode cX5_told 69 = .ok (.ireturn, 1) := by decide +kernel
theorem dX5_told_70 : decode cX5_told 70 = .ok (.aload_n 0, 1) := by decide +kernel
theorem dX5_told_71 : decode cX5_told 71 = .ok (.getfield 45, 3) := by decide +kernel
theorem dX5_told_74 : decode cX5_told 74 = .ok (.iload_n 1, 1) := by decide +kernel
theorem dX5_told_75 : decode cX5_told 75 = .ok (.iaload, 1) := by decide +kernel
theorem dX5_told_76 : decode cX5_told 76 = .ok (.ireturn, 1) := by decide +kernel
theorem dX5_told_77 : decode cX5_told 77 = .ok (.aload_n 0, 1) := by decide +kernel
theorem dX5_told_78 : decode cX5_told 78 = .ok (.getfield 48, 3) := by decide +kernel
theorem dX5_told_81 : decode cX5_told 81 = .ok (.iload_n 1, 1) := by decide +kernel
theorem dX5_told_82 : decode cX5_told 82 = .ok (.baload, 1) := by decide +kernel
theorem dX5_told_83 : decode cX5_told 83 = .ok (.ifCond .eq 7, 3) := by decide +kernel
theorem dX5_told_86 : decode cX5_told 86 = .ok (.iconst 1, 1) := by decide +kernel
theorem dX5_told_87 : decode cX5_told 87 = .ok (.goto 4, 3) := by decide +kernel
theorem dX5_told_90 : decode cX5_told 90 = .ok (.iconst 0, 1) := by decide +kernel
theorem dX5_told_91 : decode cX5_told 91 = .ok (.ireturn, 1) := by decide +kernel
theorem dX5_told_92 : decode cX5_told 92 = .ok (.aload_n 0, 1) := by decide +kernel
theorem dX5_told_93 : decode cX5_told 93 = .ok (.getfield 51, 3) := by decide +kernel
theorem dX5_told_96 : decode cX5_told 96 = .ok (.iload_n 1, 1) := by decide +kernel
theorem dX5_told_97 : decode cX5_told 97 = .ok (.iaload, 1) := by decide +kernel
theorem dX5_told_98 : decode cX5_told 98 = .ok (.ireturn, 1) := by decide +kernel
theorem dX5_told_99 : decode cX5_told 99 = .ok (.aload_n 0, 1) := by decide +kernel
theorem dX5_told_100 : decode cX5_told 100 = .ok (.getfield 54, 3) := by decide +kernel
theorem dX5_told_103 : decode cX5_told 103 = .ok (.iload_n 1, 1) := by decide +kernel
theorem dX5_told_104 : decode cX5_told 104 = .ok (.iaload, 1) := by decide +kernel
theorem dX5_told_105 : decode cX5_told 105 = .ok (.ireturn, 1) := by decide +kernel
theorem dX5_told_106 : decode cX5_told 106 = .ok (.aload_n 0, 1) := by decide +kernel
theorem dX5_told_107 : decode cX5_told 107 = .ok (.getfield 57, 3) := by decide +kernel
theorem dX5_told_110 : decode cX5_told 110 = .ok (.iload_n 1, 1) := by decide +kernel
theorem dX5_told_111 : decode cX5_told 111 = .ok (.iaload, 1) := by decide +kernel
theorem dX5_told_112 : decode cX5_told 112 = .ok (.ireturn, 1) := by decide +kernel
theorem dX5_told_113 : decode cX5_told 113 = .ok (.aload_n 0, 1) := by decide +kernel
theorem dX5_told_114 : decode cX5_told 114 = .ok (.getfield 60, 3) := by decide +kernel
theorem dX5_told_117 : decode cX5_told 117 = .ok (.iload_n 1, 1) := by decide +kernel
theorem dX5_told_118 : decode cX5_told 118 = .ok (.iaload, 1) := by decide +kernel
theorem dX5_told_119 : decode cX5_told 119 = .ok (.ireturn, 1) := by decide +kernel
theorem dX5_told_120 : decode cX5_told 120 = .ok (.iconst (-1), 1) := by decide +kernel
theorem dX5_told_121 : decode cX5_told 121 = .ok (.ireturn, 1) := by decide +kernel
theorem dX5_fault_0 : decode cX5_fault 0 = .ok (.iload_n 1, 1) := by decide +kernel
theorem dX5_fault_1 : decode cX5_fault 1 = .ok (.iconst 0, 1) := by decide +kernel
theorem dX5_fault_2 : decode cX5_fault 2 = .ok (.bipush 19, 2) := by decide +kernel
theorem dX5_fault_4 : decode cX5_fault 4 = .ok (.invokestatic 75, 3) := by decide +kernel
theorem dX5_fault_7 : decode cX5_fault 7 = .ok (.ifCond .eq 20, 3) := by decide +kernel
theorem dX5_fault_10 : decode cX5_fault 10 = .ok (.iload_n 1, 1) := by decide +kernel
theorem dX5_fault_11 : decode cX5_fault 11 = .ok (.aload_n 0, 1) := by decide +kernel
theorem dX5_fault_12 : decode cX5_fault 12 = .ok (.getfield 172, 3) := by decide +kernel
theorem dX5_fault_15 : decode cX5_fault 15 = .ok (.if_icmp .ge 12, 3) := by decide +kernel
theorem dX5_fault_18 : decode cX5_fault 18 = .ok (.iload_n 2, 1) := by decide +kernel
theorem dX5_fault_19 : decode cX5_fault 19 = .ok (.iconst 0, 1) := by decide +kernel
theorem dX5_fault_20 : decode cX5_fault 20 = .ok (.iconst 2, 1) := by decide +kernel
theorem dX5_fault_21 : decode cX5_fault 21 = .ok (.invokestatic 75, 3) := by decide +kernel
theorem dX5_fault_24 : decode cX5_fault 24 = .ok (.ifCond .ne 5, 3) := by decide +kernel
theorem dX5_fault_27 : decode cX5_fault 27 = .ok (.iconst (-1), 1) := by decide +kernel
theorem dX5_fault_28 : decode cX5_fault 28 = .ok (.ireturn, 1) := by decide +kernel
theorem dX5_fault_29 : decode cX5_fault 29 = .ok (.aload_n 0, 1) := by decide +kernel
theorem dX5_fault_30 : decode cX5_fault 30 = .ok (.getfield 172, 3) := by decide +kernel
theorem dX5_fault_33 : decode cX5_fault 33 = .ok (.iconst 1, 1) := by decide +kernel
theorem dX5_fault_34 : decode cX5_fault 34 = .ok (.isub, 1) := by decide +kernel
theorem dX5_fault_35 : decode cX5_fault 35 = .ok (.iload_n 1, 1) := by decide +kernel
theorem dX5_fault_36 : decode cX5_fault 36 = .ok (.isub, 1) := by decide +kernel
theorem dX5_fault_37 : decode cX5_fault 37 = .ok (.bipush 20, 2) := by decide +kernel
theorem dX5_fault_39 : decode cX5_fault 39 = .ok (.irem, 1) := by decide +kernel
theorem dX5_fault_40 : decode cX5_fault 40 = .ok (.istore_n 3, 1) := by decide +kernel
theorem dX5_fault_41 : decode cX5_fault 41 = .ok (.iload_n 2, 1) := by decide +kernel
theorem dX5_fault_42 : decode cX5_fault 42 = .ok (.ifCond .ne 12, 3) := by decide +kernel
theorem dX5_fault_45 : decode cX5_fault 45 = .ok (.aload_n 0, 1) := by decide +kernel
theorem dX5_fault_46 : decode cX5_fault 46 = .ok (.getfield 63, 3) := by decide +kernel
theorem dX5_fault_49 : decode cX5_fault 49 = .ok (.iload_n 3, 1) := by decide +kernel
theorem dX5_fault_50 : decode cX5_fault 50 = .ok (.iaload, 1) := by decide +kernel
theorem dX5_fault_51 : decode cX5_fault 51 = .ok (.goto 23, 3) := by decide +kernel
theorem dX5_fault_54 : decode cX5_fault 54 = .ok (.iload_n 2, 1) := by decide +kernel
theorem dX5_fault_55 : decode cX5_fault 55 = .ok (.iconst 1, 1) := by decide +kernel
theorem dX5_fault_56 : decode cX5_fault 56 = .ok (.if_icmp .ne 12, 3) := by decide +kernel
theorem dX5_fault_59 : decode cX5_fault 59 = .ok (.aload_n 0, 1) := by decide +kernel
theorem dX5_fault_60 : decode cX5_fault 60 = .ok (.getfield 66, 3) := by decide +kernel
theorem dX5_fault_63 : decode cX5_fault 63 = .ok (.iload_n 3, 1) := by decide +kernel
theorem dX5_fault_64 : decode cX5_fault 64 = .ok (.iaload, 1) := by decide +kernel
theorem dX5_fault_65 : decode cX5_fault 65 = .ok (.goto 9, 3) := by decide +kernel
theorem dX5_fault_68 : decode cX5_fault 68 = .ok (.aload_n 0, 1) := by decide +kernel
theorem dX5_fault_69 : decode cX5_fault 69 = .ok (.getfield 69, 3) := by decide +kernel
theorem dX5_fault_72 : decode cX5_fault 72 = .ok (.iload_n 3, 1) := by decide +kernel
theorem dX5_fault_73 : decode cX5_fault 73 = .ok (.iaload, 1) := by decide +kernel
theorem dX5_fault_74 : decode cX5_fault 74 = .ok (.ireturn, 1) := by decide +kernel
theorem dX5_count_0 : decode cX5_count 0 = .ok (.iload_n 1, 1) := by decide +kernel
theorem dX5_count_1 : decode cX5_count 1 = .ok (.iconst 0, 1) := by decide +kernel
theorem dX5_count_2 : decode cX5_count 2 = .ok (.bipush 7, 2) := by decide +kernel
theorem dX5_count_4 : decode cX5_count 4 = .ok (.invokestatic 75, 3) := by decide +kernel
theorem dX5_count_7 : decode cX5_count 7 = .ok (.ifCond .ne 5, 3) := by decide +kernel
theorem dX5_count_10 : decode cX5_count 10 = .ok (.iconst (-1), 1) := by decide +kernel
theorem dX5_count_11 : decode cX5_count 11 = .ok (.ireturn, 1) := by decide +kernel
theorem dX5_count_12 : decode cX5_count 12 = .ok (.iload_n 1, 1) := by decide +kernel
theorem dX5_count_13 : decode cX5_count 13 = .ok (.ifCond .ne 10, 3) := by decide +kernel
theorem dX5_count_16 : decode cX5_count 16 = .ok (.aload_n 0, 1) := by decide +kernel
theorem dX5_count_17 : decode cX5_count 17 = .ok (.getfield 79, 3) := by decide +kernel
theorem dX5_count_20 : decode cX5_count 20 = .ok (.goto 35, 3) := by decide +kernel
theorem dX5_count_23 : decode cX5_count 23 = .ok (.iload_n 1, 1) := by decide +kernel
theorem dX5_count_24 : decode cX5_count 24 = .ok (.iconst 1, 1) := by decide +kernel
theorem dX5_count_25 : decode cX5_count 25 = .ok (.if_icmp .ne 10, 3) := by decide +kernel
theorem dX5_count_28 : decode cX5_count 28 = .ok (.aload_n 0, 1) := by decide +kernel
theorem dX5_count_29 : decode cX5_count 29 = .ok (.getfield 175, 3) := by decide +kernel
theorem dX5_count_32 : decode cX5_count 32 = .ok (.goto 23, 3) := by decide +kernel
theorem dX5_count_35 : decode cX5_count 35 = .ok (.iload_n 1, 1) := by decide +kernel
theorem dX5_count_36 : decode cX5_count 36 = .ok (.iconst 2, 1) := by decide +kernel
theorem dX5_count_37 : decode cX5_count 37 = .ok (.if_icmp .ne 10, 3) := by decide +kernel
theorem dX5_count_40 : decode cX5_count 40 = .ok (.aload_n 0, 1) := by decide +kernel
theorem dX5_count_41 : decode cX5_count 41 = .ok (.getfield 172, 3) := by decide +kernel
theorem dX5_count_44 : decode cX5_count 44 = .ok (.goto 11, 3) := by decide +kernel
theorem dX5_count_47 : decode cX5_count 47 = .ok (.aload_n 0, 1) := by decide +kernel
theorem dX5_count_48 : decode cX5_count 48 = .ok (.getfield 72, 3) := by decide +kernel
theorem dX5_count_51 : decode cX5_count 51 = .ok (.iload_n 1, 1) := by decide +kernel
theorem dX5_count_52 : decode cX5_count 52 = .ok (.iconst 2, 1) := by decide +kernel
theorem dX5_count_53 : decode cX5_count 53 = .ok (.isub, 1) := by decide +kernel
theorem dX5_count_54 : decode cX5_count 54 = .ok (.iaload, 1) := by decide +kernel
theorem dX5_count_55 : decode cX5_count 55 = .ok (.ireturn, 1) := by decide +kernel
theorem dJ9_floorMod_7cf53_0 : decode cJ9_floorMod_7cf53 0 = .ok (.iload_n 0, 1) := by decide +kernel
theorem dJ9_floorMod_7cf53_1 : decode cJ9_floorMod_7cf53 1 = .ok (.iload_n 1, 1) := by decide +kernel
theorem dJ9_floorMod_7cf53_2 : decode cJ9_floorMod_7cf53 2 = .ok (.irem, 1) := by decide +kernel
theorem dJ9_floorMod_7cf53_3 : decode cJ9_floorMod_7cf53 3 = .ok (.istore_n 2, 1) := by decide +kernel
theorem dJ9_floorMod_7cf53_4 : decode cJ9_floorMod_7cf53 4 = .ok (.iload_n 0, 1) := by decide +kernel
theorem dJ9_floorMod_7cf53_5 : decode cJ9_floorMod_7cf53 5 = .ok (.iload_n 1, 1) := by decide +kernel
theorem dJ9_floorMod_7cf53_6 : decode cJ9_floorMod_7cf53 6 = .ok (.ixor, 1) := by decide +kernel
theorem dJ9_floorMod_7cf53_7 : decode cJ9_floorMod_7cf53 7 = .ok (.ifCond .ge 11, 3) := by decide +kernel
theorem dJ9_floorMod_7cf53_10 : decode cJ9_floorMod_7cf53 10 = .ok (.iload_n 2, 1) := by decide +kernel
theorem dJ9_floorMod_7cf53_11 : decode cJ9_floorMod_7cf53 11 = .ok (.ifCond .eq 7, 3) := by decide +kernel
theorem dJ9_floorMod_7cf53_14 : decode cJ9_floorMod_7cf53 14 = .ok (.iload_n 2, 1) := by decide +kernel
theorem dJ9_floorMod_7cf53_15 : decode cJ9_floorMod_7cf53 15 = .ok (.iload_n 1, 1) := by decide +kernel
theorem dJ9_floorMod_7cf53_16 : decode cJ9_floorMod_7cf53 16 = .ok (.iadd, 1) := by decide +kernel
theorem dJ9_floorMod_7cf53_17 : decode cJ9_floorMod_7cf53 17 = .ok (.ireturn, 1) := by decide +kernel
theorem dJ9_floorMod_7cf53_18 : decode cJ9_floorMod_7cf53 18 = .ok (.iload_n 2, 1) := by decide +kernel
theorem dJ9_floorMod_7cf53_19 : decode cJ9_floorMod_7cf53 19 = .ok (.ireturn, 1) := by decide +kernel
theorem dJ9_min_7cf53_0 : decode cJ9_min_7cf53 0 = .ok (.iload_n 0, 1) := by decide +kernel
theorem dJ9_min_7cf53_1 : decode cJ9_min_7cf53 1 = .ok (.iload_n 1, 1) := by decide +kernel
theorem dJ9_min_7cf53_2 : decode cJ9_min_7cf53 2 = .ok (.if_icmp .gt 7, 3) := by decide +kernel
theorem dJ9_min_7cf53_5 : decode cJ9_min_7cf53 5 = .ok (.iload_n 0, 1) := by decide +kernel
theorem dJ9_min_7cf53_6 : decode cJ9_min_7cf53 6 = .ok (.goto 4, 3) := by decide +kernel
theorem dJ9_min_7cf53_9 : decode cJ9_min_7cf53 9 = .ok (.iload_n 1, 1) := by decide +kernel
theorem dJ9_min_7cf53_10 : decode cJ9_min_7cf53 10 = .ok (.ireturn, 1) := by decide +kernel
theorem dL_law_0 : decode cL_law 0 = .ok (.new 7, 3) := by decide +kernel
theorem dL_law_3 : decode cL_law 3 = .ok (.dup, 1) := by decide +kernel
theorem dL_law_4 : decode cL_law 4 = .ok (.invokespecial 9, 3) := by decide +kernel
theorem dL_law_7 : decode cL_law 7 = .ok (.astore_n 1, 1) := by decide +kernel
theorem dL_law_8 : decode cL_law 8 = .ok (.new 10, 3) := by decide +kernel
theorem dL_law_11 : decode cL_law 11 = .ok (.dup, 1) := by decide +kernel
theorem dL_law_12 : decode cL_law 12 = .ok (.invokespecial 12, 3) := by decide +kernel
theorem dL_law_15 : decode cL_law 15 = .ok (.astore_n 2, 1) := by decide +kernel
theorem dL_law_16 : decode cL_law 16 = .ok (.iconst 0, 1) := by decide +kernel
theorem dL_law_17 : decode cL_law 17 = .ok (.istore_n 3, 1) := by decide +kernel
theorem dL_law_18 : decode cL_law 18 = .ok (.iload_n 3, 1) := by decide +kernel
theorem dL_law_19 : decode cL_law 19 = .ok (.aload_n 0, 1) := by decide +kernel
theorem dL_law_20 : decode cL_law 20 = .ok (.arraylength, 1) := by decide +kernel
theorem dL_law_21 : decode cL_law 21 = .ok (.bipush 6, 2) := by decide +kernel
theorem dL_law_23 : decode cL_law 23 = .ok (.isub, 1) := by decide +kernel
theorem dL_law_24 : decode cL_law 24 = .ok (.if_icmp .gt 1178, 3) := by decide +kernel
theorem dL_law_27 : decode cL_law 27 = .ok (.aload_n 0, 1) := by decide +kernel
theorem dL_law_28 : decode cL_law 28 = .ok (.iload_n 3, 1) := by decide +kernel
theorem dL_law_29 : decode cL_law 29 = .ok (.iaload, 1) := by decide +kernel
theorem dL_law_30 : decode cL_law 30 = .ok (.bipush 31, 2) := by decide +kernel
theorem dL_law_32 : decode cL_law 32 = .ok (.iand, 1) := by decide +kernel
theorem dL_law_33 : decode cL_law 33 = .ok (.tableswitch 1163 0 28 #[131, 174, 197, 220, 253, 286, 319, 368, 451, 495, 554, 597, 640, 683, 716, 739, 762, 775, 838, 881, 905, 938, 951, 985, 1018, 1041, 1074, 1107, 1140], 131) := by decide +kernel
theorem dL_law_164 : decode cL_law 164 = .ok (.aload_n 1, 1) := by decide +kernel
theorem dL_law_165 : decode cL_law 165 = .ok (.aload_n 0, 1) := by decide +kernel
theorem dL_law_166 : decode cL_law 166 = .ok (.iload_n 3, 1) := by decide +kernel
theorem dL_law_167 : decode cL_law 167 = .ok (.iconst 1, 1) := by decide +kernel
theorem dL_law_168 : decode cL_law 168 = .ok (.iadd, 1) := by decide +kernel
theorem dL_law_169 : decode cL_law 169 = .ok (.iaload, 1) := by decide +kernel
theorem dL_law_170 : decode cL_law 170 = .ok (.aload_n 0, 1) := by decide +kernel
theorem dL_law_171 : decode cL_law 171 = .ok (.iload_n 3, 1) := by decide +kernel
theorem dL_law_172 : decode cL_law 172 = .ok (.iconst 2, 1) := by decide +kernel
theorem dL_law_173 : decode cL_law 173 = .ok (.iadd, 1) := by decide +kernel
theorem dL_law_174 : decode cL_law 174 = .ok (.iaload, 1) := by decide +kernel
theorem dL_law_175 : decode cL_law 175 = .ok (.aload_n 0, 1) := by decide +kernel
theorem dL_law_176 : decode cL_law 176 = .ok (.iload_n 3, 1) := by decide +kernel
theorem dL_law_177 : decode cL_law 177 = .ok (.iconst 3, 1) := by decide +kernel
theorem dL_law_178 : decode cL_law 178 = .ok (.iadd, 1) := by decide +kernel
theorem dL_law_179 : decode cL_law 179 = .ok (.iaload, 1) := by decide +kernel
theorem dL_law_180 : decode cL_law 180 = .ok (.invokevirtual 13, 3) := by decide +kernel
theorem dL_law_183 : decode cL_law 183 = .ok (.aload_n 2, 1) := by decide +kernel
theorem dL_law_184 : decode cL_law 184 = .ok (.aload_n 0, 1) := by decide +kernel
theorem dL_law_185 : decode cL_law 185 = .ok (.iload_n 3, 1) := by decide +kernel
theorem dL_law_186 : decode cL_law 186 = .ok (.iconst 1, 1) := by decide +kernel
theorem dL_law_187 : decode cL_law 187 = .ok (.iadd, 1) := by decide +kernel
theorem dL_law_188 : decode cL_law 188 = .ok (.iaload, 1) := by decide +kernel
theorem dL_law_189 : decode cL_law 189 = .ok (.aload_n 0, 1) := by decide +kernel
theorem dL_law_190 : decode cL_law 190 = .ok (.iload_n 3, 1) := by decide +kernel
theorem dL_law_191 : decode cL_law 191 = .ok (.iconst 2, 1) := by decide +kernel
theorem dL_law_192 : decode cL_law 192 = .ok (.iadd, 1) := by decide +kernel
theorem dL_law_193 : decode cL_law 193 = .ok (.iaload, 1) := by decide +kernel
theorem dL_law_194 : decode cL_law 194 = .ok (.aload_n 0, 1) := by decide +kernel
theorem dL_law_195 : decode cL_law 195 = .ok (.iload_n 3, 1) := by decide +kernel
theorem dL_law_196 : decode cL_law 196 = .ok (.iconst 3, 1) := by decide +kernel
theorem dL_law_197 : decode cL_law 197 = .ok (.iadd, 1) := by decide +kernel
theorem dL_law_198 : decode cL_law 198 = .ok (.iaload, 1) := by decide +kernel
theorem dL_law_199 : decode cL_law 199 = .ok (.invokevirtual 17, 3) := by decide +kernel
theorem dL_law_202 : decode cL_law 202 = .ok (.if_icmp .eq 994, 3) := by decide +kernel
theorem dL_law_205 : decode cL_law 205 = .ok (.iconst 0, 1) := by decide +kernel
theorem dL_law_206 : decode cL_law 206 = .ok (.ireturn, 1) := by decide +kernel
theorem dL_law_207 : decode cL_law 207 = .ok (.aload_n 1, 1) := by decide +kernel
theorem dL_law_208 : decode cL_law 208 = .ok (.aload_n 0, 1) := by decide +kernel
theorem dL_law_209 : decode cL_law 209 = .ok (.iload_n 3, 1) := by decide +kernel
theorem dL_law_210 : decode cL_law 210 = .ok (.iconst 1, 1) := by decide +kernel
theorem dL_law_211 : decode cL_law 211 = .ok (.iadd, 1) := by decide +kernel
theorem dL_law_212 : decode cL_law 212 = .ok (.iaload, 1) := by decide +kernel
theorem dL_law_213 : decode cL_law 213 = .ok (.invokevirtual 18, 3) := by decide +kernel
theorem dL_law_216 : decode cL_law 216 = .ok (.aload_n 2, 1) := by decide +kernel
theorem dL_law_217 : decode cL_law 217 = .ok (.aload_n 0, 1) := by decide +kernel
theorem dL_law_218 : decode cL_law 218 = .ok (.iload_n 3, 1) := by decide +kernel
theorem dL_law_219 : decode cL_law 219 = .ok (.iconst 1, 1) := by decide +kernel
theorem dL_law_220 : decode cL_law 220 = .ok (.iadd, 1) := by decide +kernel
theorem dL_law_221 : decode cL_law 221 = .ok (.iaload, 1) := by decide +kernel
theorem dL_law_222 : decode cL_law 222 = .ok (.invokevirtual 22, 3) := by decide +kernel
theorem dL_law_225 : decode cL_law 225 = .ok (.if_icmp .eq 971, 3) := by decide +kernel
theorem dL_law_228 : decode cL_law 228 = .ok (.iconst 0, 1) := by decide +kernel
theorem dL_law_229 : decode cL_law 229 = .ok (.ireturn, 1) := by decide +kernel
theorem dL_law_230 : decode cL_law 230 = .ok (.aload_n 1, 1) := by decide +kernel
theorem dL_law_231 : decode cL_law 231 = .ok (.aload_n 0, 1) := by decide +kernel
theorem dL_law_232 : decode cL_law 232 = .ok (.iload_n 3, 1) := by decide +kernel
theorem dL_law_233 : decode cL_law 233 = .ok (.iconst 1, 1) := by decide +kernel
theorem dL_law_234 : decode cL_law 234 = .ok (.iadd, 1) := by decide +kernel
theorem dL_law_235 : decode cL_law 235 = .ok (.iaload, 1) := by decide +kernel
theorem dL_law_236 : decode cL_law 236 = .ok (.invokevirtual 23, 3) := by decide +kernel
theorem dL_law_239 : decode cL_law 239 = .ok (.aload_n 2, 1) := by decide +kernel
theorem dL_law_240 : decode cL_law 240 = .ok (.aload_n 0, 1) := by decide +kernel
theorem dL_law_241 : decode cL_law 241 = .ok (.iload_n 3, 1) := by decide +kernel
theorem dL_law_242 : decode cL_law 242 = .ok (.iconst 1, 1) := by decide +kernel
theorem dL_law_243 : decode cL_law 243 = .ok (.iadd, 1) := by decide +kernel
theorem dL_law_244 : decode cL_law 244 = .ok (.iaload, 1) := by decide +kernel
theorem dL_law_245 : decode cL_law 245 = .ok (.invokevirtual 26, 3) := by decide +kernel
theorem dL_law_248 : decode cL_law 248 = .ok (.if_icmp .eq 948, 3) := by decide +kernel
theorem dL_law_251 : decode cL_law 251 = .ok (.iconst 0, 1) := by decide +kernel
theorem dL_law_252 : decode cL_law 252 = .ok (.ireturn, 1) := by decide +kernel
theorem dL_law_253 : decode cL_law 253 = .ok (.aload_n 1, 1) := by decide +kernel
theorem dL_law_254 : decode cL_law 254 = .ok (.aload_n 0, 1) := by decide +kernel
theorem dL_law_255 : decode cL_law 255 = .ok (.iload_n 3, 1) := by decide +kernel
theorem dL_law_256 : decode cL_law 256 = .ok (.iconst 1, 1) := by decide +kernel
theorem dL_law_257 : decode cL_law 257 = .ok (.iadd, 1) := by decide +kernel
theorem dL_law_258 : decode cL_law 258 = .ok (.iaload, 1) := by decide +kernel
theorem dL_law_259 : decode cL_law 259 = .ok (.aload_n 0, 1) := by decide +kernel
theorem dL_law_260 : decode cL_law 260 = .ok (.iload_n 3, 1) := by decide +kernel
theorem dL_law_261 : decode cL_law 261 = .ok (.iconst 2, 1) := by decide +kernel
theorem dL_law_262 : decode cL_law 262 = .ok (.iadd, 1) := by decide +kernel
theorem dL_law_263 : decode cL_law 263 = .ok (.iaload, 1) := by decide +kernel
theorem dL_law_264 : decode cL_law 264 = .ok (.invokevirtual 27, 3) := by decide +kernel
theorem dL_law_267 : decode cL_law 267 = .ok (.aload_n 2, 1) := by decide +kernel
theorem dL_law_268 : decode cL_law 268 = .ok (.aload_n 0, 1) := by decide +kernel
theorem dL_law_269 : decode cL_law 269 = .ok (.iload_n 3, 1) := by decide +kernel
theorem dL_law_270 : decode cL_law 270 = .ok (.iconst 1, 1) := by decide +kernel
theorem dL_law_271 : decode cL_law 271 = .ok (.iadd, 1) := by decide +kernel
theorem dL_law_272 : decode cL_law 272 = .ok (.iaload, 1) := by decide +kernel
theorem dL_law_273 : decode cL_law 273 = .ok (.aload_n 0, 1) := by decide +kernel
theorem dL_law_274 : decode cL_law 274 = .ok (.iload_n 3, 1) := by decide +kernel
theorem dL_law_275 : decode cL_law 275 = .ok (.iconst 2, 1) := by decide +kernel
theorem dL_law_276 : decode cL_law 276 = .ok (.iadd, 1) := by decide +kernel
theorem dL_law_277 : decode cL_law 277 = .ok (.iaload, 1) := by decide +kernel
theorem dL_law_278 : decode cL_law 278 = .ok (.invokevirtual 31, 3) := by decide +kernel
theorem dL_law_281 : decode cL_law 281 = .ok (.if_icmp .eq 915, 3) := by decide +kernel
theorem dL_law_284 : decode cL_law 284 = .ok (.iconst 0, 1) := by decide +kernel
theorem dL_law_285 : decode cL_law 285 = .ok (.ireturn, 1) := by decide +kernel
theorem dL_law_286 : decode cL_law 286 = .ok (.aload_n 1, 1) := by decide +kernel
theorem dL_law_287 : decode cL_law 287 = .ok (.aload_n 0, 1) := by decide +kernel
theorem dL_law_288 : decode cL_law 288 = .ok (.iload_n 3, 1) := by decide +kernel
theorem dL_law_289 : decode cL_law 289 = .ok (.iconst 1, 1) := by decide +kernel
theorem dL_law_290 : decode cL_law 290 = .ok (.iadd, 1) := by decide +kernel
theorem dL_law_291 : decode cL_law 291 = .ok (.iaload, 1) := by decide +kernel
theorem dL_law_292 : decode cL_law 292 = .ok (.aload_n 0, 1) := by decide +kernel
theorem dL_law_293 : decode cL_law 293 = .ok (.iload_n 3, 1) := by decide +kernel
theorem dL_law_294 : decode cL_law 294 = .ok (.iconst 2, 1) := by decide +kernel
theorem dL_law_295 : decode cL_law 295 = .ok (.iadd, 1) := by decide +kernel
theorem dL_law_296 : decode cL_law 296 = .ok (.iaload, 1) := by decide +kernel
theorem dL_law_297 : decode cL_law 297 = .ok (.invokevirtual 32, 3) := by decide +kernel
theorem dL_law_300 : decode cL_law 300 = .ok (.aload_n 2, 1) := by decide +kernel
theorem dL_law_301 : decode cL_law 301 = .ok (.aload_n 0, 1) := by decide +kernel
theorem dL_law_302 : decode cL_law 302 = .ok (.iload_n 3, 1) := by decide +kernel
theorem dL_law_303 : decode cL_law 303 = .ok (.iconst 1, 1) := by decide +kernel
theorem dL_law_304 : decode cL_law 304 = .ok (.iadd, 1) := by decide +kernel
theorem dL_law_305 : decode cL_law 305 = .ok (.iaload, 1) := by decide +kernel
theorem dL_law_306 : decode cL_law 306 = .ok (.aload_n 0, 1) := by decide +kernel
theorem dL_law_307 : decode cL_law 307 = .ok (.iload_n 3, 1) := by decide +kernel
theorem dL_law_308 : decode cL_law 308 = .ok (.iconst 2, 1) := by decide +kernel
theorem dL_law_309 : decode cL_law 309 = .ok (.iadd, 1) := by decide +kernel
theorem dL_law_310 : decode cL_law 310 = .ok (.iaload, 1) := by decide +kernel
theorem dL_law_311 : decode cL_law 311 = .ok (.invokevirtual 35, 3) := by decide +kernel
theorem dL_law_314 : decode cL_law 314 = .ok (.if_icmp .eq 882, 3) := by decide +kernel
theorem dL_law_317 : decode cL_law 317 = .ok (.iconst 0, 1) := by decide +kernel
theorem dL_law_318 : decode cL_law 318 = .ok (.ireturn, 1) := by decide +kernel
theorem dL_law_319 : decode cL_law 319 = .ok (.aload_n 1, 1) := by decide +kernel
theorem dL_law_320 : decode cL_law 320 = .ok (.aload_n 0, 1) := by decide +kernel
theorem dL_law_321 : decode cL_law 321 = .ok (.iload_n 3, 1) := by decide +kernel
theorem dL_law_322 : decode cL_law 322 = .ok (.iconst 1, 1) := by decide +kernel
theorem dL_law_323 : decode cL_law 323 = .ok (.iadd, 1) := by decide +kernel
theorem dL_law_324 : decode cL_law 324 = .ok (.iaload, 1) := by decide +kernel
theorem dL_law_325 : decode cL_law 325 = .ok (.aload_n 0, 1) := by decide +kernel
theorem dL_law_326 : decode cL_law 326 = .ok (.iload_n 3, 1) := by decide +kernel
theorem dL_law_327 : decode cL_law 327 = .ok (.iconst 2, 1) := by decide +kernel
theorem dL_law_328 : decode cL_law 328 = .ok (.iadd, 1) := by decide +kernel
theorem dL_law_329 : decode cL_law 329 = .ok (.iaload, 1) := by decide +kernel
theorem dL_law_330 : decode cL_law 330 = .ok (.invokevirtual 36, 3) := by decide +kernel
theorem dL_law_333 : decode cL_law 333 = .ok (.aload_n 2, 1) := by decide +kernel
theorem dL_law_334 : decode cL_law 334 = .ok (.aload_n 0, 1) := by decide +kernel
theorem dL_law_335 : decode cL_law 335 = .ok (.iload_n 3, 1) := by decide +kernel
theorem dL_law_336 : decode cL_law 336 = .ok (.iconst 1, 1) := by decide +kernel
theorem dL_law_337 : decode cL_law 337 = .ok (.iadd, 1) := by decide +kernel
theorem dL_law_338 : decode cL_law 338 = .ok (.iaload, 1) := by decide +kernel
theorem dL_law_339 : decode cL_law 339 = .ok (.aload_n 0, 1) := by decide +kernel
theorem dL_law_340 : decode cL_law 340 = .ok (.iload_n 3, 1) := by decide +kernel
theorem dL_law_341 : decode cL_law 341 = .ok (.iconst 2, 1) := by decide +kernel
theorem dL_law_342 : decode cL_law 342 = .ok (.iadd, 1) := by decide +kernel
theorem dL_law_343 : decode cL_law 343 = .ok (.iaload, 1) := by decide +kernel
theorem dL_law_344 : decode cL_law 344 = .ok (.invokevirtual 39, 3) := by decide +kernel
theorem dL_law_347 : decode cL_law 347 = .ok (.if_icmp .eq 849, 3) := by decide +kernel
theorem dL_law_350 : decode cL_law 350 = .ok (.iconst 0, 1) := by decide +kernel
theorem dL_law_351 : decode cL_law 351 = .ok (.ireturn, 1) := by decide +kernel
theorem dL_law_352 : decode cL_law 352 = .ok (.aload_n 1, 1) := by decide +kernel
theorem dL_law_353 : decode cL_law 353 = .ok (.aload_n 0, 1) := by decide +kernel
theorem dL_law_354 : decode cL_law 354 = .ok (.iload_n 3, 1) := by decide +kernel
theorem dL_law_355 : decode cL_law 355 = .ok (.iconst 1, 1) := by decide +kernel
theorem dL_law_356 : decode cL_law 356 = .ok (.iadd, 1) := by decide +kernel
theorem dL_law_357 : decode cL_law 357 = .ok (.iaload, 1) := by decide +kernel
theorem dL_law_358 : decode cL_law 358 = .ok (.aload_n 0, 1) := by decide +kernel
theorem dL_law_359 : decode cL_law 359 = .ok (.iload_n 3, 1) := by decide +kernel
theorem dL_law_360 : decode cL_law 360 = .ok (.iconst 2, 1) := by decide +kernel
theorem dL_law_361 : decode cL_law 361 = .ok (.iadd, 1) := by decide +kernel
theorem dL_law_362 : decode cL_law 362 = .ok (.iaload, 1) := by decide +kernel
theorem dL_law_363 : decode cL_law 363 = .ok (.ifCond .eq 7, 3) := by decide +kernel
theorem dL_law_366 : decode cL_law 366 = .ok (.iconst 1, 1) := by decide +kernel
theorem dL_law_367 : decode cL_law 367 = .ok (.goto 4, 3) := by decide +kernel
theorem dL_law_370 : decode cL_law 370 = .ok (.iconst 0, 1) := by decide +kernel
theorem dL_law_371 : decode cL_law 371 = .ok (.invokevirtual 40, 3) := by decide +kernel
theorem dL_law_374 : decode cL_law 374 = .ok (.aload_n 2, 1) := by decide +kernel
theorem dL_law_375 : decode cL_law 375 = .ok (.aload_n 0, 1) := by decide +kernel
theorem dL_law_376 : decode cL_law 376 = .ok (.iload_n 3, 1) := by decide +kernel
theorem dL_law_377 : decode cL_law 377 = .ok (.iconst 1, 1) := by decide +kernel
theorem dL_law_378 : decode cL_law 378 = .ok (.iadd, 1) := by decide +kernel
theorem dL_law_379 : decode cL_law 379 = .ok (.iaload, 1) := by decide +kernel
theorem dL_law_380 : decode cL_law 380 = .ok (.aload_n 0, 1) := by decide +kernel
theorem dL_law_381 : decode cL_law 381 = .ok (.iload_n 3, 1) := by decide +kernel
theorem dL_law_382 : decode cL_law 382 = .ok (.iconst 2, 1) := by decide +kernel
theorem dL_law_383 : decode cL_law 383 = .ok (.iadd, 1) := by decide +kernel
theorem dL_law_384 : decode cL_law 384 = .ok (.iaload, 1) := by decide +kernel
theorem dL_law_385 : decode cL_law 385 = .ok (.ifCond .eq 7, 3) := by decide +kernel
theorem dL_law_388 : decode cL_law 388 = .ok (.iconst 1, 1) := by decide +kernel
theorem dL_law_389 : decode cL_law 389 = .ok (.goto 4, 3) := by decide +kernel
theorem dL_law_392 : decode cL_law 392 = .ok (.iconst 0, 1) := by decide +kernel
theorem dL_law_393 : decode cL_law 393 = .ok (.invokevirtual 44, 3) := by decide +kernel
theorem dL_law_396 : decode cL_law 396 = .ok (.if_icmp .eq 800, 3) := by decide +kernel
theorem dL_law_399 : decode cL_law 399 = .ok (.iconst 0, 1) := by decide +kernel
theorem dL_law_400 : decode cL_law 400 = .ok (.ireturn, 1) := by decide +kernel
theorem dL_law_401 : decode cL_law 401 = .ok (.aload_n 1, 1) := by decide +kernel
theorem dL_law_402 : decode cL_law 402 = .ok (.aload_n 0, 1) := by decide +kernel
theorem dL_law_403 : decode cL_law 403 = .ok (.iload_n 3, 1) := by decide +kernel
theorem dL_law_404 : decode cL_law 404 = .ok (.iconst 1, 1) := by decide +kernel
theorem dL_law_405 : decode cL_law 405 = .ok (.iadd, 1) := by decide +kernel
theorem dL_law_406 : decode cL_law 406 = .ok (.iaload, 1) := by decide +kernel
theorem dL_law_407 : decode cL_law 407 = .ok (.aload_n 0, 1) := by decide +kernel
theorem dL_law_408 : decode cL_law 408 = .ok (.iload_n 3, 1) := by decide +kernel
theorem dL_law_409 : decode cL_law 409 = .ok (.iconst 2, 1) := by decide +kernel
theorem dL_law_410 : decode cL_law 410 = .ok (.iadd, 1) := by decide +kernel
theorem dL_law_411 : decode cL_law 411 = .ok (.iaload, 1) := by decide +kernel
theorem dL_law_412 : decode cL_law 412 = .ok (.aload_n 0, 1) := by decide +kernel
theorem dL_law_413 : decode cL_law 413 = .ok (.iload_n 3, 1) := by decide +kernel
theorem dL_law_414 : decode cL_law 414 = .ok (.iconst 3, 1) := by decide +kernel
theorem dL_law_415 : decode cL_law 415 = .ok (.iadd, 1) := by decide +kernel
theorem dL_law_416 : decode cL_law 416 = .ok (.iaload, 1) := by decide +kernel
theorem dL_law_417 : decode cL_law 417 = .ok (.aload_n 0, 1) := by decide +kernel
theorem dL_law_418 : decode cL_law 418 = .ok (.iload_n 3, 1) := by decide +kernel
theorem dL_law_419 : decode cL_law 419 = .ok (.iconst 4, 1) := by decide +kernel
theorem dL_law_420 : decode cL_law 420 = .ok (.iadd, 1) := by decide +kernel
theorem dL_law_421 : decode cL_law 421 = .ok (.iaload, 1) := by decide +kernel
theorem dL_law_422 : decode cL_law 422 = .ok (.i2l, 1) := by decide +kernel
theorem dL_law_423 : decode cL_law 423 = .ok (.bipush 32, 2) := by decide +kernel
theorem dL_law_425 : decode cL_law 425 = .ok (.lshl, 1) := by decide +kernel
theorem dL_law_426 : decode cL_law 426 = .ok (.aload_n 0, 1) := by decide +kernel
theorem dL_law_427 : decode cL_law 427 = .ok (.iload_n 3, 1) := by decide +kernel
theorem dL_law_428 : decode cL_law 428 = .ok (.iconst 5, 1) := by decide +kernel
theorem dL_law_429 : decode cL_law 429 = .ok (.iadd, 1) := by decide +kernel
theorem dL_law_430 : decode cL_law 430 = .ok (.iaload, 1) := by decide +kernel
theorem dL_law_431 : decode cL_law 431 = .ok (.i2l, 1) := by decide +kernel
theorem dL_law_432 : decode cL_law 432 = .ok (.ldc2_w 45, 3) := by decide +kernel
theorem dL_law_435 : decode cL_law 435 = .ok (.land, 1) := by decide +kernel
theorem dL_law_436 : decode cL_law 436 = .ok (.lor, 1) := by decide +kernel
theorem dL_law_437 : decode cL_law 437 = .ok (.invokevirtual 47, 3) := by decide +kernel
theorem dL_law_440 : decode cL_law 440 = .ok (.aload_n 2, 1) := by decide +kernel
theorem dL_law_441 : decode cL_law 441 = .ok (.aload_n 0, 1) := by decide +kernel
theorem dL_law_442 : decode cL_law 442 = .ok (.iload_n 3, 1) := by decide +kernel
theorem dL_law_443 : decode cL_law 443 = .ok (.iconst 1, 1) := by decide +kernel
theorem dL_law_444 : decode cL_law 444 = .ok (.iadd, 1) := by decide +kernel
theorem dL_law_445 : decode cL_law 445 = .ok (.iaload, 1) := by decide +kernel
theorem dL_law_446 : decode cL_law 446 = .ok (.aload_n 0, 1) := by decide +kernel
theorem dL_law_447 : decode cL_law 447 = .ok (.iload_n 3, 1) := by decide +kernel
theorem dL_law_448 : decode cL_law 448 = .ok (.iconst 2, 1) := by decide +kernel
theorem dL_law_449 : decode cL_law 449 = .ok (.iadd, 1) := by decide +kernel
theorem dL_law_450 : decode cL_law 450 = .ok (.iaload, 1) := by decide +kernel
theorem dL_law_451 : decode cL_law 451 = .ok (.aload_n 0, 1) := by decide +kernel
theorem dL_law_452 : decode cL_law 452 = .ok (.iload_n 3, 1) := by decide +kernel
theorem dL_law_453 : decode cL_law 453 = .ok (.iconst 3, 1) := by decide +kernel
theorem dL_law_454 : decode cL_law 454 = .ok (.iadd, 1) := by decide +kernel
theorem dL_law_455 : decode cL_law 455 = .ok (.iaload, 1) := by decide +kernel
theorem dL_law_456 : decode cL_law 456 = .ok (.aload_n 0, 1) := by decide +kernel
theorem dL_law_457 : decode cL_law 457 = .ok (.iload_n 3, 1) := by decide +kernel
theorem dL_law_458 : decode cL_law 458 = .ok (.iconst 4, 1) := by decide +kernel
theorem dL_law_459 : decode cL_law 459 = .ok (.iadd, 1) := by decide +kernel
theorem dL_law_460 : decode cL_law 460 = .ok (.iaload, 1) := by decide +kernel
theorem dL_law_461 : decode cL_law 461 = .ok (.i2l, 1) := by decide +kernel
theorem dL_law_462 : decode cL_law 462 = .ok (.bipush 32, 2) := by decide +kernel
theorem dL_law_464 : decode cL_law 464 = .ok (.lshl, 1) := by decide +kernel
theorem dL_law_465 : decode cL_law 465 = .ok (.aload_n 0, 1) := by decide +kernel
theorem dL_law_466 : decode cL_law 466 = .ok (.iload_n 3, 1) := by decide +kernel
theorem dL_law_467 : decode cL_law 467 = .ok (.iconst 5, 1) := by decide +kernel
theorem dL_law_468 : decode cL_law 468 = .ok (.iadd, 1) := by decide +kernel
theorem dL_law_469 : decode cL_law 469 = .ok (.iaload, 1) := by decide +kernel
theorem dL_law_470 : decode cL_law 470 = .ok (.i2l, 1) := by decide +kernel
theorem dL_law_471 : decode cL_law 471 = .ok (.ldc2_w 45, 3) := by decide +kernel
theorem dL_law_474 : decode cL_law 474 = .ok (.land, 1) := by decide +kernel
theorem dL_law_475 : decode cL_law 475 = .ok (.lor, 1) := by decide +kernel
theorem dL_law_476 : decode cL_law 476 = .ok (.invokevirtual 51, 3) := by decide +kernel
theorem dL_law_479 : decode cL_law 479 = .ok (.if_icmp .eq 717, 3) := by decide +kernel
theorem dL_law_482 : decode cL_law 482 = .ok (.iconst 0, 1) := by decide +kernel
theorem dL_law_483 : decode cL_law 483 = .ok (.ireturn, 1) := by decide +kernel
theorem dL_law_484 : decode cL_law 484 = .ok (.aload_n 1, 1) := by decide +kernel
theorem dL_law_485 : decode cL_law 485 = .ok (.aload_n 0, 1) := by decide +kernel
theorem dL_law_486 : decode cL_law 486 = .ok (.iload_n 3, 1) := by decide +kernel
theorem dL_law_487 : decode cL_law 487 = .ok (.iconst 1, 1) := by decide +kernel
theorem dL_law_488 : decode cL_law 488 = .ok (.iadd, 1) := by decide +kernel
theorem dL_law_489 : decode cL_law 489 = .ok (.iaload, 1) := by decide +kernel
theorem dL_law_490 : decode cL_law 490 = .ok (.aload_n 0, 1) := by decide +kernel
theorem dL_law_491 : decode cL_law 491 = .ok (.iload_n 3, 1) := by decide +kernel
theorem dL_law_492 : decode cL_law 492 = .ok (.iconst 2, 1) := by decide +kernel
theorem dL_law_493 : decode cL_law 493 = .ok (.iadd, 1) := by decide +kernel
theorem dL_law_494 : decode cL_law 494 = .ok (.iaload, 1) := by decide +kernel
theorem dL_law_495 : decode cL_law 495 = .ok (.aload_n 0, 1) := by decide +kernel
theorem dL_law_496 : decode cL_law 496 = .ok (.iload_n 3, 1) := by decide +kernel
theorem dL_law_497 : decode cL_law 497 = .ok (.iconst 3, 1) := by decide +kernel
theorem dL_law_498 : decode cL_law 498 = .ok (.iadd, 1) := by decide +kernel
theorem dL_law_499 : decode cL_law 499 = .ok (.iaload, 1) := by decide +kernel
theorem dL_law_500 : decode cL_law 500 = .ok (.invokevirtual 52, 3) := by decide +kernel
theorem dL_law_503 : decode cL_law 503 = .ok (.aload_n 2, 1) := by decide +kernel
theorem dL_law_504 : decode cL_law 504 = .ok (.aload_n 0, 1) := by decide +kernel
theorem dL_law_505 : decode cL_law 505 = .ok (.iload_n 3, 1) := by decide +kernel
theorem dL_law_506 : decode cL_law 506 = .ok (.iconst 1, 1) := by decide +kernel
theorem dL_law_507 : decode cL_law 507 = .ok (.iadd, 1) := by decide +kernel
theorem dL_law_508 : decode cL_law 508 = .ok (.iaload, 1) := by decide +kernel
theorem dL_law_509 : decode cL_law 509 = .ok (.aload_n 0, 1) := by decide +kernel
theorem dL_law_510 : decode cL_law 510 = .ok (.iload_n 3, 1) := by decide +kernel
theorem dL_law_511 : decode cL_law 511 = .ok (.iconst 2, 1) := by decide +kernel
theorem dL_law_512 : decode cL_law 512 = .ok (.iadd, 1) := by decide +kernel
theorem dL_law_513 : decode cL_law 513 = .ok (.iaload, 1) := by decide +kernel
theorem dL_law_514 : decode cL_law 514 = .ok (.aload_n 0, 1) := by decide +kernel
theorem dL_law_515 : decode cL_law 515 = .ok (.iload_n 3, 1) := by decide +kernel
theorem dL_law_516 : decode cL_law 516 = .ok (.iconst 3, 1) := by decide +kernel
theorem dL_law_517 : decode cL_law 517 = .ok (.iadd, 1) := by decide +kernel
theorem dL_law_518 : decode cL_law 518 = .ok (.iaload, 1) := by decide +kernel
theorem dL_law_519 : decode cL_law 519 = .ok (.invokevirtual 56, 3) := by decide +kernel
theorem dL_law_522 : decode cL_law 522 = .ok (.lcmp, 1) := by decide +kernel
theorem dL_law_523 : decode cL_law 523 = .ok (.ifCond .eq 673, 3) := by decide +kernel
theorem dL_law_526 : decode cL_law 526 = .ok (.iconst 0, 1) := by decide +kernel
theorem dL_law_527 : decode cL_law 527 = .ok (.ireturn, 1) := by decide +kernel
theorem dL_law_528 : decode cL_law 528 = .ok (.aload_n 1, 1) := by decide +kernel
theorem dL_law_529 : decode cL_law 529 = .ok (.aload_n 0, 1) := by decide +kernel
theorem dL_law_530 : decode cL_law 530 = .ok (.iload_n 3, 1) := by decide +kernel
theorem dL_law_531 : decode cL_law 531 = .ok (.iconst 1, 1) := by decide +kernel
theorem dL_law_532 : decode cL_law 532 = .ok (.iadd, 1) := by decide +kernel
theorem dL_law_533 : decode cL_law 533 = .ok (.iaload, 1) := by decide +kernel
theorem dL_law_534 : decode cL_law 534 = .ok (.aload_n 0, 1) := by decide +kernel
theorem dL_law_535 : decode cL_law 535 = .ok (.iload_n 3, 1) := by decide +kernel
theorem dL_law_536 : decode cL_law 536 = .ok (.iconst 2, 1) := by decide +kernel
theorem dL_law_537 : decode cL_law 537 = .ok (.iadd, 1) := by decide +kernel
theorem dL_law_538 : decode cL_law 538 = .ok (.iaload, 1) := by decide +kernel
theorem dL_law_539 : decode cL_law 539 = .ok (.aload_n 0, 1) := by decide +kernel
theorem dL_law_540 : decode cL_law 540 = .ok (.iload_n 3, 1) := by decide +kernel
theorem dL_law_541 : decode cL_law 541 = .ok (.iconst 3, 1) := by decide +kernel
theorem dL_law_542 : decode cL_law 542 = .ok (.iadd, 1) := by decide +kernel
theorem dL_law_543 : decode cL_law 543 = .ok (.iaload, 1) := by decide +kernel
theorem dL_law_544 : decode cL_law 544 = .ok (.ifCond .eq 7, 3) := by decide +kernel
theorem dL_law_547 : decode cL_law 547 = .ok (.iconst 1, 1) := by decide +kernel
theorem dL_law_548 : decode cL_law 548 = .ok (.goto 4, 3) := by decide +kernel
theorem dL_law_551 : decode cL_law 551 = .ok (.iconst 0, 1) := by decide +kernel
theorem dL_law_552 : decode cL_law 552 = .ok (.invokevirtual 57, 3) := by decide +kernel
theorem dL_law_555 : decode cL_law 555 = .ok (.aload_n 2, 1) := by decide +kernel
theorem dL_law_556 : decode cL_law 556 = .ok (.aload_n 0, 1) := by decide +kernel
theorem dL_law_557 : decode cL_law 557 = .ok (.iload_n 3, 1) := by decide +kernel
theorem dL_law_558 : decode cL_law 558 = .ok (.iconst 1, 1) := by decide +kernel
theorem dL_law_559 : decode cL_law 559 = .ok (.iadd, 1) := by decide +kernel
theorem dL_law_560 : decode cL_law 560 = .ok (.iaload, 1) := by decide +kernel
theorem dL_law_561 : decode cL_law 561 = .ok (.aload_n 0, 1) := by decide +kernel
theorem dL_law_562 : decode cL_law 562 = .ok (.iload_n 3, 1) := by decide +kernel
theorem dL_law_563 : decode cL_law 563 = .ok (.iconst 2, 1) := by decide +kernel
theorem dL_law_564 : decode cL_law 564 = .ok (.iadd, 1) := by decide +kernel
theorem dL_law_565 : decode cL_law 565 = .ok (.iaload, 1) := by decide +kernel
theorem dL_law_566 : decode cL_law 566 = .ok (.aload_n 0, 1) := by decide +kernel
theorem dL_law_567 : decode cL_law 567 = .ok (.iload_n 3, 1) := by decide +kernel
theorem dL_law_568 : decode cL_law 568 = .ok (.iconst 3, 1) := by decide +kernel
theorem dL_law_569 : decode cL_law 569 = .ok (.iadd, 1) := by decide +kernel
theorem dL_law_570 : decode cL_law 570 = .ok (.iaload, 1) := by decide +kernel
theorem dL_law_571 : decode cL_law 571 = .ok (.ifCond .eq 7, 3) := by decide +kernel
theorem dL_law_574 : decode cL_law 574 = .ok (.iconst 1, 1) := by decide +kernel
theorem dL_law_575 : decode cL_law 575 = .ok (.goto 4, 3) := by decide +kernel
theorem dL_law_578 : decode cL_law 578 = .ok (.iconst 0, 1) := by decide +kernel
theorem dL_law_579 : decode cL_law 579 = .ok (.invokevirtual 61, 3) := by decide +kernel
theorem dL_law_582 : decode cL_law 582 = .ok (.if_icmp .eq 614, 3) := by decide +kernel
theorem dL_law_585 : decode cL_law 585 = .ok (.iconst 0, 1) := by decide +kernel
theorem dL_law_586 : decode cL_law 586 = .ok (.ireturn, 1) := by decide +kernel
theorem dL_law_587 : decode cL_law 587 = .ok (.aload_n 1, 1) := by decide +kernel
theorem dL_law_588 : decode cL_law 588 = .ok (.aload_n 0, 1) := by decide +kernel
theorem dL_law_589 : decode cL_law 589 = .ok (.iload_n 3, 1) := by decide +kernel
theorem dL_law_590 : decode cL_law 590 = .ok (.iconst 1, 1) := by decide +kernel
theorem dL_law_591 : decode cL_law 591 = .ok (.iadd, 1) := by decide +kernel
theorem dL_law_592 : decode cL_law 592 = .ok (.iaload, 1) := by decide +kernel
theorem dL_law_593 : decode cL_law 593 = .ok (.aload_n 0, 1) := by decide +kernel
theorem dL_law_594 : decode cL_law 594 = .ok (.iload_n 3, 1) := by decide +kernel
theorem dL_law_595 : decode cL_law 595 = .ok (.iconst 2, 1) := by decide +kernel
theorem dL_law_596 : decode cL_law 596 = .ok (.iadd, 1) := by decide +kernel
theorem dL_law_597 : decode cL_law 597 = .ok (.iaload, 1) := by decide +kernel
theorem dL_law_598 : decode cL_law 598 = .ok (.aload_n 0, 1) := by decide +kernel
theorem dL_law_599 : decode cL_law 599 = .ok (.iload_n 3, 1) := by decide +kernel
theorem dL_law_600 : decode cL_law 600 = .ok (.iconst 3, 1) := by decide +kernel
theorem dL_law_601 : decode cL_law 601 = .ok (.iadd, 1) := by decide +kernel
theorem dL_law_602 : decode cL_law 602 = .ok (.iaload, 1) := by decide +kernel
theorem dL_law_603 : decode cL_law 603 = .ok (.invokevirtual 62, 3) := by decide +kernel
theorem dL_law_606 : decode cL_law 606 = .ok (.aload_n 2, 1) := by decide +kernel
theorem dL_law_607 : decode cL_law 607 = .ok (.aload_n 0, 1) := by decide +kernel
theorem dL_law_608 : decode cL_law 608 = .ok (.iload_n 3, 1) := by decide +kernel
theorem dL_law_609 : decode cL_law 609 = .ok (.iconst 1, 1) := by decide +kernel
theorem dL_law_610 : decode cL_law 610 = .ok (.iadd, 1) := by decide +kernel
theorem dL_law_611 : decode cL_law 611 = .ok (.iaload, 1) := by decide +kernel
theorem dL_law_612 : decode cL_law 612 = .ok (.aload_n 0, 1) := by decide +kernel
theorem dL_law_613 : decode cL_law 613 = .ok (.iload_n 3, 1) := by decide +kernel
theorem dL_law_614 : decode cL_law 614 = .ok (.iconst 2, 1) := by decide +kernel
theorem dL_law_615 : decode cL_law 615 = .ok (.iadd, 1) := by decide +kernel
theorem dL_law_616 : decode cL_law 616 = .ok (.iaload, 1) := by decide +kernel
theorem dL_law_617 : decode cL_law 617 = .ok (.aload_n 0, 1) := by decide +kernel
theorem dL_law_618 : decode cL_law 618 = .ok (.iload_n 3, 1) := by decide +kernel
theorem dL_law_619 : decode cL_law 619 = .ok (.iconst 3, 1) := by decide +kernel
theorem dL_law_620 : decode cL_law 620 = .ok (.iadd, 1) := by decide +kernel
theorem dL_law_621 : decode cL_law 621 = .ok (.iaload, 1) := by decide +kernel
theorem dL_law_622 : decode cL_law 622 = .ok (.invokevirtual 65, 3) := by decide +kernel
theorem dL_law_625 : decode cL_law 625 = .ok (.if_icmp .eq 571, 3) := by decide +kernel
theorem dL_law_628 : decode cL_law 628 = .ok (.iconst 0, 1) := by decide +kernel
theorem dL_law_629 : decode cL_law 629 = .ok (.ireturn, 1) := by decide +kernel
theorem dL_law_630 : decode cL_law 630 = .ok (.aload_n 1, 1) := by decide +kernel
theorem dL_law_631 : decode cL_law 631 = .ok (.aload_n 0, 1) := by decide +kernel
theorem dL_law_632 : decode cL_law 632 = .ok (.iload_n 3, 1) := by decide +kernel
theorem dL_law_633 : decode cL_law 633 = .ok (.iconst 1, 1) := by decide +kernel
theorem dL_law_634 : decode cL_law 634 = .ok (.iadd, 1) := by decide +kernel
theorem dL_law_635 : decode cL_law 635 = .ok (.iaload, 1) := by decide +kernel
theorem dL_law_636 : decode cL_law 636 = .ok (.aload_n 0, 1) := by decide +kernel
theorem dL_law_637 : decode cL_law 637 = .ok (.iload_n 3, 1) := by decide +kernel
theorem dL_law_638 : decode cL_law 638 = .ok (.iconst 2, 1) := by decide +kernel
theorem dL_law_639 : decode cL_law 639 = .ok (.iadd, 1) := by decide +kernel
theorem dL_law_640 : decode cL_law 640 = .ok (.iaload, 1) := by decide +kernel
theorem dL_law_641 : decode cL_law 641 = .ok (.aload_n 0, 1) := by decide +kernel
theorem dL_law_642 : decode cL_law 642 = .ok (.iload_n 3, 1) := by decide +kernel
theorem dL_law_643 : decode cL_law 643 = .ok (.iconst 3, 1) := by decide +kernel
theorem dL_law_644 : decode cL_law 644 = .ok (.iadd, 1) := by decide +kernel
theorem dL_law_645 : decode cL_law 645 = .ok (.iaload, 1) := by decide +kernel
theorem dL_law_646 : decode cL_law 646 = .ok (.invokevirtual 66, 3) := by decide +kernel
theorem dL_law_649 : decode cL_law 649 = .ok (.aload_n 2, 1) := by decide +kernel
theorem dL_law_650 : decode cL_law 650 = .ok (.aload_n 0, 1) := by decide +kernel
theorem dL_law_651 : decode cL_law 651 = .ok (.iload_n 3, 1) := by decide +kernel
theorem dL_law_652 : decode cL_law 652 = .ok (.iconst 1, 1) := by decide +kernel
theorem dL_law_653 : decode cL_law 653 = .ok (.iadd, 1) := by decide +kernel
theorem dL_law_654 : decode cL_law 654 = .ok (.iaload, 1) := by decide +kernel
theorem dL_law_655 : decode cL_law 655 = .ok (.aload_n 0, 1) := by decide +kernel
theorem dL_law_656 : decode cL_law 656 = .ok (.iload_n 3, 1) := by decide +kernel
theorem dL_law_657 : decode cL_law 657 = .ok (.iconst 2, 1) := by decide +kernel
theorem dL_law_658 : decode cL_law 658 = .ok (.iadd, 1) := by decide +kernel
theorem dL_law_659 : decode cL_law 659 = .ok (.iaload, 1) := by decide +kernel
theorem dL_law_660 : decode cL_law 660 = .ok (.aload_n 0, 1) := by decide +kernel
theorem dL_law_661 : decode cL_law 661 = .ok (.iload_n 3, 1) := by decide +kernel
theorem dL_law_662 : decode cL_law 662 = .ok (.iconst 3, 1) := by decide +kernel
theorem dL_law_663 : decode cL_law 663 = .ok (.iadd, 1) := by decide +kernel
theorem dL_law_664 : decode cL_law 664 = .ok (.iaload, 1) := by decide +kernel
theorem dL_law_665 : decode cL_law 665 = .ok (.invokevirtual 69, 3) := by decide +kernel
theorem dL_law_668 : decode cL_law 668 = .ok (.if_icmp .eq 528, 3) := by decide +kernel
theorem dL_law_671 : decode cL_law 671 = .ok (.iconst 0, 1) := by decide +kernel
theorem dL_law_672 : decode cL_law 672 = .ok (.ireturn, 1) := by decide +kernel
theorem dL_law_673 : decode cL_law 673 = .ok (.aload_n 1, 1) := by decide +kernel
theorem dL_law_674 : decode cL_law 674 = .ok (.aload_n 0, 1) := by decide +kernel
theorem dL_law_675 : decode cL_law 675 = .ok (.iload_n 3, 1) := by decide +kernel
theorem dL_law_676 : decode cL_law 676 = .ok (.iconst 1, 1) := by decide +kernel
theorem dL_law_677 : decode cL_law 677 = .ok (.iadd, 1) := by decide +kernel
theorem dL_law_678 : decode cL_law 678 = .ok (.iaload, 1) := by decide +kernel
theorem dL_law_679 : decode cL_law 679 = .ok (.aload_n 0, 1) := by decide +kernel
theorem dL_law_680 : decode cL_law 680 = .ok (.iload_n 3, 1) := by decide +kernel
theorem dL_law_681 : decode cL_law 681 = .ok (.iconst 2, 1) := by decide +kernel
theorem dL_law_682 : decode cL_law 682 = .ok (.iadd, 1) := by decide +kernel
theorem dL_law_683 : decode cL_law 683 = .ok (.iaload, 1) := by decide +kernel
theorem dL_law_684 : decode cL_law 684 = .ok (.aload_n 0, 1) := by decide +kernel
theorem dL_law_685 : decode cL_law 685 = .ok (.iload_n 3, 1) := by decide +kernel
theorem dL_law_686 : decode cL_law 686 = .ok (.iconst 3, 1) := by decide +kernel
theorem dL_law_687 : decode cL_law 687 = .ok (.iadd, 1) := by decide +kernel
theorem dL_law_688 : decode cL_law 688 = .ok (.iaload, 1) := by decide +kernel
theorem dL_law_689 : decode cL_law 689 = .ok (.invokevirtual 70, 3) := by decide +kernel
theorem dL_law_692 : decode cL_law 692 = .ok (.aload_n 2, 1) := by decide +kernel
theorem dL_law_693 : decode cL_law 693 = .ok (.aload_n 0, 1) := by decide +kernel
theorem dL_law_694 : decode cL_law 694 = .ok (.iload_n 3, 1) := by decide +kernel
theorem dL_law_695 : decode cL_law 695 = .ok (.iconst 1, 1) := by decide +kernel
theorem dL_law_696 : decode cL_law 696 = .ok (.iadd, 1) := by decide +kernel
theorem dL_law_697 : decode cL_law 697 = .ok (.iaload, 1) := by decide +kernel
theorem dL_law_698 : decode cL_law 698 = .ok (.aload_n 0, 1) := by decide +kernel
theorem dL_law_699 : decode cL_law 699 = .ok (.iload_n 3, 1) := by decide +kernel
theorem dL_law_700 : decode cL_law 700 = .ok (.iconst 2, 1) := by decide +kernel
theorem dL_law_701 : decode cL_law 701 = .ok (.iadd, 1) := by decide +kernel
theorem dL_law_702 : decode cL_law 702 = .ok (.iaload, 1) := by decide +kernel
theorem dL_law_703 : decode cL_law 703 = .ok (.aload_n 0, 1) := by decide +kernel
theorem dL_law_704 : decode cL_law 704 = .ok (.iload_n 3, 1) := by decide +kernel
theorem dL_law_705 : decode cL_law 705 = .ok (.iconst 3, 1) := by decide +kernel
theorem dL_law_706 : decode cL_law 706 = .ok (.iadd, 1) := by decide +kernel
theorem dL_law_707 : decode cL_law 707 = .ok (.iaload, 1) := by decide +kernel
theorem dL_law_708 : decode cL_law 708 = .ok (.invokevirtual 73, 3) := by decide +kernel
theorem dL_law_711 : decode cL_law 711 = .ok (.if_icmp .eq 485, 3) := by decide +kernel
theorem dL_law_714 : decode cL_law 714 = .ok (.iconst 0, 1) := by decide +kernel
theorem dL_law_715 : decode cL_law 715 = .ok (.ireturn, 1) := by decide +kernel
theorem dL_law_716 : decode cL_law 716 = .ok (.aload_n 1, 1) := by decide +kernel
theorem dL_law_717 : decode cL_law 717 = .ok (.aload_n 0, 1) := by decide +kernel
theorem dL_law_718 : decode cL_law 718 = .ok (.iload_n 3, 1) := by decide +kernel
theorem dL_law_719 : decode cL_law 719 = .ok (.iconst 1, 1) := by decide +kernel
theorem dL_law_720 : decode cL_law 720 = .ok (.iadd, 1) := by decide +kernel
theorem dL_law_721 : decode cL_law 721 = .ok (.iaload, 1) := by decide +kernel
theorem dL_law_722 : decode cL_law 722 = .ok (.aload_n 0, 1) := by decide +kernel
theorem dL_law_723 : decode cL_law 723 = .ok (.iload_n 3, 1) := by decide +kernel
theorem dL_law_724 : decode cL_law 724 = .ok (.iconst 2, 1) := by decide +kernel
theorem dL_law_725 : decode cL_law 725 = .ok (.iadd, 1) := by decide +kernel
theorem dL_law_726 : decode cL_law 726 = .ok (.iaload, 1) := by decide +kernel
theorem dL_law_727 : decode cL_law 727 = .ok (.invokevirtual 74, 3) := by decide +kernel
theorem dL_law_730 : decode cL_law 730 = .ok (.aload_n 2, 1) := by decide +kernel
theorem dL_law_731 : decode cL_law 731 = .ok (.aload_n 0, 1) := by decide +kernel
theorem dL_law_732 : decode cL_law 732 = .ok (.iload_n 3, 1) := by decide +kernel
theorem dL_law_733 : decode cL_law 733 = .ok (.iconst 1, 1) := by decide +kernel
theorem dL_law_734 : decode cL_law 734 = .ok (.iadd, 1) := by decide +kernel
theorem dL_law_735 : decode cL_law 735 = .ok (.iaload, 1) := by decide +kernel
theorem dL_law_736 : decode cL_law 736 = .ok (.aload_n 0, 1) := by decide +kernel
theorem dL_law_737 : decode cL_law 737 = .ok (.iload_n 3, 1) := by decide +kernel
theorem dL_law_738 : decode cL_law 738 = .ok (.iconst 2, 1) := by decide +kernel
theorem dL_law_739 : decode cL_law 739 = .ok (.iadd, 1) := by decide +kernel
theorem dL_law_740 : decode cL_law 740 = .ok (.iaload, 1) := by decide +kernel
theorem dL_law_741 : decode cL_law 741 = .ok (.invokevirtual 77, 3) := by decide +kernel
theorem dL_law_744 : decode cL_law 744 = .ok (.if_icmp .eq 452, 3) := by decide +kernel
theorem dL_law_747 : decode cL_law 747 = .ok (.iconst 0, 1) := by decide +kernel
theorem dL_law_748 : decode cL_law 748 = .ok (.ireturn, 1) := by decide +kernel
theorem dL_law_749 : decode cL_law 749 = .ok (.aload_n 1, 1) := by decide +kernel
theorem dL_law_750 : decode cL_law 750 = .ok (.aload_n 0, 1) := by decide +kernel
theorem dL_law_751 : decode cL_law 751 = .ok (.iload_n 3, 1) := by decide +kernel
theorem dL_law_752 : decode cL_law 752 = .ok (.iconst 1, 1) := by decide +kernel
theorem dL_law_753 : decode cL_law 753 = .ok (.iadd, 1) := by decide +kernel
theorem dL_law_754 : decode cL_law 754 = .ok (.iaload, 1) := by decide +kernel
theorem dL_law_755 : decode cL_law 755 = .ok (.invokevirtual 78, 3) := by decide +kernel
theorem dL_law_758 : decode cL_law 758 = .ok (.aload_n 2, 1) := by decide +kernel
theorem dL_law_759 : decode cL_law 759 = .ok (.aload_n 0, 1) := by decide +kernel
theorem dL_law_760 : decode cL_law 760 = .ok (.iload_n 3, 1) := by decide +kernel
theorem dL_law_761 : decode cL_law 761 = .ok (.iconst 1, 1) := by decide +kernel
theorem dL_law_762 : decode cL_law 762 = .ok (.iadd, 1) := by decide +kernel
theorem dL_law_763 : decode cL_law 763 = .ok (.iaload, 1) := by decide +kernel
theorem dL_law_764 : decode cL_law 764 = .ok (.invokevirtual 81, 3) := by decide +kernel
theorem dL_law_767 : decode cL_law 767 = .ok (.if_icmp .eq 429, 3) := by decide +kernel
theorem dL_law_770 : decode cL_law 770 = .ok (.iconst 0, 1) := by decide +kernel
theorem dL_law_771 : decode cL_law 771 = .ok (.ireturn, 1) := by decide +kernel
theorem dL_law_772 : decode cL_law 772 = .ok (.aload_n 1, 1) := by decide +kernel
theorem dL_law_773 : decode cL_law 773 = .ok (.aload_n 0, 1) := by decide +kernel
theorem dL_law_774 : decode cL_law 774 = .ok (.iload_n 3, 1) := by decide +kernel
theorem dL_law_775 : decode cL_law 775 = .ok (.iconst 1, 1) := by decide +kernel
theorem dL_law_776 : decode cL_law 776 = .ok (.iadd, 1) := by decide +kernel
theorem dL_law_777 : decode cL_law 777 = .ok (.iaload, 1) := by decide +kernel
theorem dL_law_778 : decode cL_law 778 = .ok (.invokevirtual 82, 3) := by decide +kernel
theorem dL_law_781 : decode cL_law 781 = .ok (.aload_n 2, 1) := by decide +kernel
theorem dL_law_782 : decode cL_law 782 = .ok (.aload_n 0, 1) := by decide +kernel
theorem dL_law_783 : decode cL_law 783 = .ok (.iload_n 3, 1) := by decide +kernel
theorem dL_law_784 : decode cL_law 784 = .ok (.iconst 1, 1) := by decide +kernel
theorem dL_law_785 : decode cL_law 785 = .ok (.iadd, 1) := by decide +kernel
theorem dL_law_786 : decode cL_law 786 = .ok (.iaload, 1) := by decide +kernel
theorem dL_law_787 : decode cL_law 787 = .ok (.invokevirtual 85, 3) := by decide +kernel
theorem dL_law_790 : decode cL_law 790 = .ok (.if_icmp .eq 406, 3) := by decide +kernel
theorem dL_law_793 : decode cL_law 793 = .ok (.iconst 0, 1) := by decide +kernel
theorem dL_law_794 : decode cL_law 794 = .ok (.ireturn, 1) := by decide +kernel
theorem dL_law_795 : decode cL_law 795 = .ok (.aload_n 1, 1) := by decide +kernel
theorem dL_law_796 : decode cL_law 796 = .ok (.invokevirtual 86, 3) := by decide +kernel
theorem dL_law_799 : decode cL_law 799 = .ok (.aload_n 2, 1) := by decide +kernel
theorem dL_law_800 : decode cL_law 800 = .ok (.invokevirtual 90, 3) := by decide +kernel
theorem dL_law_803 : decode cL_law 803 = .ok (.if_icmp .eq 393, 3) := by decide +kernel
theorem dL_law_806 : decode cL_law 806 = .ok (.iconst 0, 1) := by decide +kernel
theorem dL_law_807 : decode cL_law 807 = .ok (.ireturn, 1) := by decide +kernel
theorem dL_law_808 : decode cL_law 808 = .ok (.aload_n 1, 1) := by decide +kernel
theorem dL_law_809 : decode cL_law 809 = .ok (.aload_n 0, 1) := by decide +kernel
theorem dL_law_810 : decode cL_law 810 = .ok (.iload_n 3, 1) := by decide +kernel
theorem dL_law_811 : decode cL_law 811 = .ok (.iconst 1, 1) := by decide +kernel
theorem dL_law_812 : decode cL_law 812 = .ok (.iadd, 1) := by decide +kernel
theorem dL_law_813 : decode cL_law 813 = .ok (.iaload, 1) := by decide +kernel
theorem dL_law_814 : decode cL_law 814 = .ok (.aload_n 0, 1) := by decide +kernel
theorem dL_law_815 : decode cL_law 815 = .ok (.iload_n 3, 1) := by decide +kernel
theorem dL_law_816 : decode cL_law 816 = .ok (.iconst 2, 1) := by decide +kernel
theorem dL_law_817 : decode cL_law 817 = .ok (.iadd, 1) := by decide +kernel
theorem dL_law_818 : decode cL_law 818 = .ok (.iaload, 1) := by decide +kernel
theorem dL_law_819 : decode cL_law 819 = .ok (.aload_n 0, 1) := by decide +kernel
theorem dL_law_820 : decode cL_law 820 = .ok (.iload_n 3, 1) := by decide +kernel
theorem dL_law_821 : decode cL_law 821 = .ok (.iconst 3, 1) := by decide +kernel
theorem dL_law_822 : decode cL_law 822 = .ok (.iadd, 1) := by decide +kernel
theorem dL_law_823 : decode cL_law 823 = .ok (.iaload, 1) := by decide +kernel
theorem dL_law_824 : decode cL_law 824 = .ok (.aload_n 0, 1) := by decide +kernel
theorem dL_law_825 : decode cL_law 825 = .ok (.iload_n 3, 1) := by decide +kernel
theorem dL_law_826 : decode cL_law 826 = .ok (.iconst 4, 1) := by decide +kernel
theorem dL_law_827 : decode cL_law 827 = .ok (.iadd, 1) := by decide +kernel
theorem dL_law_828 : decode cL_law 828 = .ok (.iaload, 1) := by decide +kernel
theorem dL_law_829 : decode cL_law 829 = .ok (.aload_n 0, 1) := by decide +kernel
theorem dL_law_830 : decode cL_law 830 = .ok (.iload_n 3, 1) := by decide +kernel
theorem dL_law_831 : decode cL_law 831 = .ok (.iconst 5, 1) := by decide +kernel
theorem dL_law_832 : decode cL_law 832 = .ok (.iadd, 1) := by decide +kernel
theorem dL_law_833 : decode cL_law 833 = .ok (.iaload, 1) := by decide +kernel
theorem dL_law_834 : decode cL_law 834 = .ok (.invokevirtual 91, 3) := by decide +kernel
theorem dL_law_837 : decode cL_law 837 = .ok (.aload_n 2, 1) := by decide +kernel
theorem dL_law_838 : decode cL_law 838 = .ok (.aload_n 0, 1) := by decide +kernel
theorem dL_law_839 : decode cL_law 839 = .ok (.iload_n 3, 1) := by decide +kernel
theorem dL_law_840 : decode cL_law 840 = .ok (.iconst 1, 1) := by decide +kernel
theorem dL_law_841 : decode cL_law 841 = .ok (.iadd, 1) := by decide +kernel
theorem dL_law_842 : decode cL_law 842 = .ok (.iaload, 1) := by decide +kernel
theorem dL_law_843 : decode cL_law 843 = .ok (.aload_n 0, 1) := by decide +kernel
theorem dL_law_844 : decode cL_law 844 = .ok (.iload_n 3, 1) := by decide +kernel
theorem dL_law_845 : decode cL_law 845 = .ok (.iconst 2, 1) := by decide +kernel
theorem dL_law_846 : decode cL_law 846 = .ok (.iadd, 1) := by decide +kernel
theorem dL_law_847 : decode cL_law 847 = .ok (.iaload, 1) := by decide +kernel
theorem dL_law_848 : decode cL_law 848 = .ok (.aload_n 0, 1) := by decide +kernel
theorem dL_law_849 : decode cL_law 849 = .ok (.iload_n 3, 1) := by decide +kernel
theorem dL_law_850 : decode cL_law 850 = .ok (.iconst 3, 1) := by decide +kernel
theorem dL_law_851 : decode cL_law 851 = .ok (.iadd, 1) := by decide +kernel
theorem dL_law_852 : decode cL_law 852 = .ok (.iaload, 1) := by decide +kernel
theorem dL_law_853 : decode cL_law 853 = .ok (.aload_n 0, 1) := by decide +kernel
theorem dL_law_854 : decode cL_law 854 = .ok (.iload_n 3, 1) := by decide +kernel
theorem dL_law_855 : decode cL_law 855 = .ok (.iconst 4, 1) := by decide +kernel
theorem dL_law_856 : decode cL_law 856 = .ok (.iadd, 1) := by decide +kernel
theorem dL_law_857 : decode cL_law 857 = .ok (.iaload, 1) := by decide +kernel
theorem dL_law_858 : decode cL_law 858 = .ok (.aload_n 0, 1) := by decide +kernel
theorem dL_law_859 : decode cL_law 859 = .ok (.iload_n 3, 1) := by decide +kernel
theorem dL_law_860 : decode cL_law 860 = .ok (.iconst 5, 1) := by decide +kernel
theorem dL_law_861 : decode cL_law 861 = .ok (.iadd, 1) := by decide +kernel
theorem dL_law_862 : decode cL_law 862 = .ok (.iaload, 1) := by decide +kernel
theorem dL_law_863 : decode cL_law 863 = .ok (.invokevirtual 95, 3) := by decide +kernel
theorem dL_law_866 : decode cL_law 866 = .ok (.if_icmp .eq 330, 3) := by decide +kernel
theorem dL_law_869 : decode cL_law 869 = .ok (.iconst 0, 1) := by decide +kernel
theorem dL_law_870 : decode cL_law 870 = .ok (.ireturn, 1) := by decide +kernel
theorem dL_law_871 : decode cL_law 871 = .ok (.aload_n 1, 1) := by decide +kernel
theorem dL_law_872 : decode cL_law 872 = .ok (.aload_n 0, 1) := by decide +kernel
theorem dL_law_873 : decode cL_law 873 = .ok (.iload_n 3, 1) := by decide +kernel
theorem dL_law_874 : decode cL_law 874 = .ok (.iconst 1, 1) := by decide +kernel
theorem dL_law_875 : decode cL_law 875 = .ok (.iadd, 1) := by decide +kernel
theorem dL_law_876 : decode cL_law 876 = .ok (.iaload, 1) := by decide +kernel
theorem dL_law_877 : decode cL_law 877 = .ok (.aload_n 0, 1) := by decide +kernel
theorem dL_law_878 : decode cL_law 878 = .ok (.iload_n 3, 1) := by decide +kernel
theorem dL_law_879 : decode cL_law 879 = .ok (.iconst 2, 1) := by decide +kernel
theorem dL_law_880 : decode cL_law 880 = .ok (.iadd, 1) := by decide +kernel
theorem dL_law_881 : decode cL_law 881 = .ok (.iaload, 1) := by decide +kernel
theorem dL_law_882 : decode cL_law 882 = .ok (.aload_n 0, 1) := by decide +kernel
theorem dL_law_883 : decode cL_law 883 = .ok (.iload_n 3, 1) := by decide +kernel
theorem dL_law_884 : decode cL_law 884 = .ok (.iconst 3, 1) := by decide +kernel
theorem dL_law_885 : decode cL_law 885 = .ok (.iadd, 1) := by decide +kernel
theorem dL_law_886 : decode cL_law 886 = .ok (.iaload, 1) := by decide +kernel
theorem dL_law_887 : decode cL_law 887 = .ok (.invokevirtual 96, 3) := by decide +kernel
theorem dL_law_890 : decode cL_law 890 = .ok (.aload_n 2, 1) := by decide +kernel
theorem dL_law_891 : decode cL_law 891 = .ok (.aload_n 0, 1) := by decide +kernel
theorem dL_law_892 : decode cL_law 892 = .ok (.iload_n 3, 1) := by decide +kernel
theorem dL_law_893 : decode cL_law 893 = .ok (.iconst 1, 1) := by decide +kernel
theorem dL_law_894 : decode cL_law 894 = .ok (.iadd, 1) := by decide +kernel
theorem dL_law_895 : decode cL_law 895 = .ok (.iaload, 1) := by decide +kernel
theorem dL_law_896 : decode cL_law 896 = .ok (.aload_n 0, 1) := by decide +kernel
theorem dL_law_897 : decode cL_law 897 = .ok (.iload_n 3, 1) := by decide +kernel
theorem dL_law_898 : decode cL_law 898 = .ok (.iconst 2, 1) := by decide +kernel
theorem dL_law_899 : decode cL_law 899 = .ok (.iadd, 1) := by decide +kernel
theorem dL_law_900 : decode cL_law 900 = .ok (.iaload, 1) := by decide +kernel
theorem dL_law_901 : decode cL_law 901 = .ok (.aload_n 0, 1) := by decide +kernel
theorem dL_law_902 : decode cL_law 902 = .ok (.iload_n 3, 1) := by decide +kernel
theorem dL_law_903 : decode cL_law 903 = .ok (.iconst 3, 1) := by decide +kernel
theorem dL_law_904 : decode cL_law 904 = .ok (.iadd, 1) := by decide +kernel
theorem dL_law_905 : decode cL_law 905 = .ok (.iaload, 1) := by decide +kernel
theorem dL_law_906 : decode cL_law 906 = .ok (.invokevirtual 99, 3) := by decide +kernel
theorem dL_law_909 : decode cL_law 909 = .ok (.if_icmp .eq 287, 3) := by decide +kernel
theorem dL_law_912 : decode cL_law 912 = .ok (.iconst 0, 1) := by decide +kernel
theorem dL_law_913 : decode cL_law 913 = .ok (.ireturn, 1) := by decide +kernel
theorem dL_law_914 : decode cL_law 914 = .ok (.aload_n 1, 1) := by decide +kernel
theorem dL_law_915 : decode cL_law 915 = .ok (.aload_n 0, 1) := by decide +kernel
theorem dL_law_916 : decode cL_law 916 = .ok (.iload_n 3, 1) := by decide +kernel
theorem dL_law_917 : decode cL_law 917 = .ok (.iconst 1, 1) := by decide +kernel
theorem dL_law_918 : decode cL_law 918 = .ok (.iadd, 1) := by decide +kernel
theorem dL_law_919 : decode cL_law 919 = .ok (.iaload, 1) := by decide +kernel
theorem dL_law_920 : decode cL_law 920 = .ok (.invokevirtual 100, 3) := by decide +kernel
theorem dL_law_923 : decode cL_law 923 = .ok (.aload_n 2, 1) := by decide +kernel
theorem dL_law_924 : decode cL_law 924 = .ok (.aload_n 0, 1) := by decide +kernel
theorem dL_law_925 : decode cL_law 925 = .ok (.iload_n 3, 1) := by decide +kernel
theorem dL_law_926 : decode cL_law 926 = .ok (.iconst 1, 1) := by decide +kernel
theorem dL_law_927 : decode cL_law 927 = .ok (.iadd, 1) := by decide +kernel
theorem dL_law_928 : decode cL_law 928 = .ok (.iaload, 1) := by decide +kernel
theorem dL_law_929 : decode cL_law 929 = .ok (.invokevirtual 104, 3) := by decide +kernel
theorem dL_law_932 : decode cL_law 932 = .ok (.lcmp, 1) := by decide +kernel
theorem dL_law_933 : decode cL_law 933 = .ok (.ifCond .eq 263, 3) := by decide +kernel
theorem dL_law_936 : decode cL_law 936 = .ok (.iconst 0, 1) := by decide +kernel
theorem dL_law_937 : decode cL_law 937 = .ok (.ireturn, 1) := by decide +kernel
theorem dL_law_938 : decode cL_law 938 = .ok (.aload_n 1, 1) := by decide +kernel
theorem dL_law_939 : decode cL_law 939 = .ok (.aload_n 0, 1) := by decide +kernel
theorem dL_law_940 : decode cL_law 940 = .ok (.iload_n 3, 1) := by decide +kernel
theorem dL_law_941 : decode cL_law 941 = .ok (.iconst 1, 1) := by decide +kernel
theorem dL_law_942 : decode cL_law 942 = .ok (.iadd, 1) := by decide +kernel
theorem dL_law_943 : decode cL_law 943 = .ok (.iaload, 1) := by decide +kernel
theorem dL_law_944 : decode cL_law 944 = .ok (.aload_n 0, 1) := by decide +kernel
theorem dL_law_945 : decode cL_law 945 = .ok (.iload_n 3, 1) := by decide +kernel
theorem dL_law_946 : decode cL_law 946 = .ok (.iconst 2, 1) := by decide +kernel
theorem dL_law_947 : decode cL_law 947 = .ok (.iadd, 1) := by decide +kernel
theorem dL_law_948 : decode cL_law 948 = .ok (.iaload, 1) := by decide +kernel
theorem dL_law_949 : decode cL_law 949 = .ok (.invokevirtual 105, 3) := by decide +kernel
theorem dL_law_952 : decode cL_law 952 = .ok (.aload_n 2, 1) := by decide +kernel
theorem dL_law_953 : decode cL_law 953 = .ok (.aload_n 0, 1) := by decide +kernel
theorem dL_law_954 : decode cL_law 954 = .ok (.iload_n 3, 1) := by decide +kernel
theorem dL_law_955 : decode cL_law 955 = .ok (.iconst 1, 1) := by decide +kernel
theorem dL_law_956 : decode cL_law 956 = .ok (.iadd, 1) := by decide +kernel
theorem dL_law_957 : decode cL_law 957 = .ok (.iaload, 1) := by decide +kernel
theorem dL_law_958 : decode cL_law 958 = .ok (.aload_n 0, 1) := by decide +kernel
theorem dL_law_959 : decode cL_law 959 = .ok (.iload_n 3, 1) := by decide +kernel
theorem dL_law_960 : decode cL_law 960 = .ok (.iconst 2, 1) := by decide +kernel
theorem dL_law_961 : decode cL_law 961 = .ok (.iadd, 1) := by decide +kernel
theorem dL_law_962 : decode cL_law 962 = .ok (.iaload, 1) := by decide +kernel
theorem dL_law_963 : decode cL_law 963 = .ok (.invokevirtual 108, 3) := by decide +kernel
theorem dL_law_966 : decode cL_law 966 = .ok (.if_icmp .eq 230, 3) := by decide +kernel
theorem dL_law_969 : decode cL_law 969 = .ok (.iconst 0, 1) := by decide +kernel
theorem dL_law_970 : decode cL_law 970 = .ok (.ireturn, 1) := by decide +kernel
theorem dL_law_971 : decode cL_law 971 = .ok (.aload_n 1, 1) := by decide +kernel
theorem dL_law_972 : decode cL_law 972 = .ok (.invokevirtual 109, 3) := by decide +kernel
theorem dL_law_975 : decode cL_law 975 = .ok (.aload_n 2, 1) := by decide +kernel
theorem dL_law_976 : decode cL_law 976 = .ok (.invokevirtual 112, 3) := by decide +kernel
theorem dL_law_979 : decode cL_law 979 = .ok (.if_icmp .eq 217, 3) := by decide +kernel
theorem dL_law_982 : decode cL_law 982 = .ok (.iconst 0, 1) := by decide +kernel
theorem dL_law_983 : decode cL_law 983 = .ok (.ireturn, 1) := by decide +kernel
theorem dL_law_984 : decode cL_law 984 = .ok (.aload_n 1, 1) := by decide +kernel
theorem dL_law_985 : decode cL_law 985 = .ok (.aload_n 0, 1) := by decide +kernel
theorem dL_law_986 : decode cL_law 986 = .ok (.iload_n 3, 1) := by decide +kernel
theorem dL_law_987 : decode cL_law 987 = .ok (.iconst 1, 1) := by decide +kernel
theorem dL_law_988 : decode cL_law 988 = .ok (.iadd, 1) := by decide +kernel
theorem dL_law_989 : decode cL_law 989 = .ok (.iaload, 1) := by decide +kernel
theorem dL_law_990 : decode cL_law 990 = .ok (.aload_n 0, 1) := by decide +kernel
theorem dL_law_991 : decode cL_law 991 = .ok (.iload_n 3, 1) := by decide +kernel
theorem dL_law_992 : decode cL_law 992 = .ok (.iconst 2, 1) := by decide +kernel
theorem dL_law_993 : decode cL_law 993 = .ok (.iadd, 1) := by decide +kernel
theorem dL_law_994 : decode cL_law 994 = .ok (.iaload, 1) := by decide +kernel
theorem dL_law_995 : decode cL_law 995 = .ok (.invokevirtual 113, 3) := by decide +kernel
theorem dL_law_998 : decode cL_law 998 = .ok (.aload_n 2, 1) := by decide +kernel
theorem dL_law_999 : decode cL_law 999 = .ok (.aload_n 0, 1) := by decide +kernel
theorem dL_law_1000 : decode cL_law 1000 = .ok (.iload_n 3, 1) := by decide +kernel
theorem dL_law_1001 : decode cL_law 1001 = .ok (.iconst 1, 1) := by decide +kernel
theorem dL_law_1002 : decode cL_law 1002 = .ok (.iadd, 1) := by decide +kernel
theorem dL_law_1003 : decode cL_law 1003 = .ok (.iaload, 1) := by decide +kernel
theorem dL_law_1004 : decode cL_law 1004 = .ok (.aload_n 0, 1) := by decide +kernel
theorem dL_law_1005 : decode cL_law 1005 = .ok (.iload_n 3, 1) := by decide +kernel
theorem dL_law_1006 : decode cL_law 1006 = .ok (.iconst 2, 1) := by decide +kernel
theorem dL_law_1007 : decode cL_law 1007 = .ok (.iadd, 1) := by decide +kernel
theorem dL_law_1008 : decode cL_law 1008 = .ok (.iaload, 1) := by decide +kernel
theorem dL_law_1009 : decode cL_law 1009 = .ok (.invokevirtual 117, 3) := by decide +kernel
theorem dL_law_1012 : decode cL_law 1012 = .ok (.lcmp, 1) := by decide +kernel
theorem dL_law_1013 : decode cL_law 1013 = .ok (.ifCond .eq 183, 3) := by decide +kernel
theorem dL_law_1016 : decode cL_law 1016 = .ok (.iconst 0, 1) := by decide +kernel
theorem dL_law_1017 : decode cL_law 1017 = .ok (.ireturn, 1) := by decide +kernel
theorem dL_law_1018 : decode cL_law 1018 = .ok (.aload_n 1, 1) := by decide +kernel
theorem dL_law_1019 : decode cL_law 1019 = .ok (.aload_n 0, 1) := by decide +kernel
theorem dL_law_1020 : decode cL_law 1020 = .ok (.iload_n 3, 1) := by decide +kernel
theorem dL_law_1021 : decode cL_law 1021 = .ok (.iconst 1, 1) := by decide +kernel
theorem dL_law_1022 : decode cL_law 1022 = .ok (.iadd, 1) := by decide +kernel
theorem dL_law_1023 : decode cL_law 1023 = .ok (.iaload, 1) := by decide +kernel
theorem dL_law_1024 : decode cL_law 1024 = .ok (.aload_n 0, 1) := by decide +kernel
theorem dL_law_1025 : decode cL_law 1025 = .ok (.iload_n 3, 1) := by decide +kernel
theorem dL_law_1026 : decode cL_law 1026 = .ok (.iconst 2, 1) := by decide +kernel
theorem dL_law_1027 : decode cL_law 1027 = .ok (.iadd, 1) := by decide +kernel
theorem dL_law_1028 : decode cL_law 1028 = .ok (.iaload, 1) := by decide +kernel
theorem dL_law_1029 : decode cL_law 1029 = .ok (.invokevirtual 118, 3) := by decide +kernel
theorem dL_law_1032 : decode cL_law 1032 = .ok (.aload_n 2, 1) := by decide +kernel
theorem dL_law_1033 : decode cL_law 1033 = .ok (.aload_n 0, 1) := by decide +kernel
theorem dL_law_1034 : decode cL_law 1034 = .ok (.iload_n 3, 1) := by decide +kernel
theorem dL_law_1035 : decode cL_law 1035 = .ok (.iconst 1, 1) := by decide +kernel
theorem dL_law_1036 : decode cL_law 1036 = .ok (.iadd, 1) := by decide +kernel
theorem dL_law_1037 : decode cL_law 1037 = .ok (.iaload, 1) := by decide +kernel
theorem dL_law_1038 : decode cL_law 1038 = .ok (.aload_n 0, 1) := by decide +kernel
theorem dL_law_1039 : decode cL_law 1039 = .ok (.iload_n 3, 1) := by decide +kernel
theorem dL_law_1040 : decode cL_law 1040 = .ok (.iconst 2, 1) := by decide +kernel
theorem dL_law_1041 : decode cL_law 1041 = .ok (.iadd, 1) := by decide +kernel
theorem dL_law_1042 : decode cL_law 1042 = .ok (.iaload, 1) := by decide +kernel
theorem dL_law_1043 : decode cL_law 1043 = .ok (.invokevirtual 121, 3) := by decide +kernel
theorem dL_law_1046 : decode cL_law 1046 = .ok (.if_icmp .eq 150, 3) := by decide +kernel
theorem dL_law_1049 : decode cL_law 1049 = .ok (.iconst 0, 1) := by decide +kernel
theorem dL_law_1050 : decode cL_law 1050 = .ok (.ireturn, 1) := by decide +kernel
theorem dL_law_1051 : decode cL_law 1051 = .ok (.aload_n 1, 1) := by decide +kernel
theorem dL_law_1052 : decode cL_law 1052 = .ok (.aload_n 0, 1) := by decide +kernel
theorem dL_law_1053 : decode cL_law 1053 = .ok (.iload_n 3, 1) := by decide +kernel
theorem dL_law_1054 : decode cL_law 1054 = .ok (.iconst 1, 1) := by decide +kernel
theorem dL_law_1055 : decode cL_law 1055 = .ok (.iadd, 1) := by decide +kernel
theorem dL_law_1056 : decode cL_law 1056 = .ok (.iaload, 1) := by decide +kernel
theorem dL_law_1057 : decode cL_law 1057 = .ok (.invokevirtual 122, 3) := by decide +kernel
theorem dL_law_1060 : decode cL_law 1060 = .ok (.aload_n 2, 1) := by decide +kernel
theorem dL_law_1061 : decode cL_law 1061 = .ok (.aload_n 0, 1) := by decide +kernel
theorem dL_law_1062 : decode cL_law 1062 = .ok (.iload_n 3, 1) := by decide +kernel
theorem dL_law_1063 : decode cL_law 1063 = .ok (.iconst 1, 1) := by decide +kernel
theorem dL_law_1064 : decode cL_law 1064 = .ok (.iadd, 1) := by decide +kernel
theorem dL_law_1065 : decode cL_law 1065 = .ok (.iaload, 1) := by decide +kernel
theorem dL_law_1066 : decode cL_law 1066 = .ok (.invokevirtual 125, 3) := by decide +kernel
theorem dL_law_1069 : decode cL_law 1069 = .ok (.if_icmp .eq 127, 3) := by decide +kernel
theorem dL_law_1072 : decode cL_law 1072 = .ok (.iconst 0, 1) := by decide +kernel
theorem dL_law_1073 : decode cL_law 1073 = .ok (.ireturn, 1) := by decide +kernel
theorem dL_law_1074 : decode cL_law 1074 = .ok (.aload_n 1, 1) := by decide +kernel
theorem dL_law_1075 : decode cL_law 1075 = .ok (.aload_n 0, 1) := by decide +kernel
theorem dL_law_1076 : decode cL_law 1076 = .ok (.iload_n 3, 1) := by decide +kernel
theorem dL_law_1077 : decode cL_law 1077 = .ok (.iconst 1, 1) := by decide +kernel
theorem dL_law_1078 : decode cL_law 1078 = .ok (.iadd, 1) := by decide +kernel
theorem dL_law_1079 : decode cL_law 1079 = .ok (.iaload, 1) := by decide +kernel
theorem dL_law_1080 : decode cL_law 1080 = .ok (.aload_n 0, 1) := by decide +kernel
theorem dL_law_1081 : decode cL_law 1081 = .ok (.iload_n 3, 1) := by decide +kernel
theorem dL_law_1082 : decode cL_law 1082 = .ok (.iconst 2, 1) := by decide +kernel
theorem dL_law_1083 : decode cL_law 1083 = .ok (.iadd, 1) := by decide +kernel
theorem dL_law_1084 : decode cL_law 1084 = .ok (.iaload, 1) := by decide +kernel
theorem dL_law_1085 : decode cL_law 1085 = .ok (.invokevirtual 126, 3) := by decide +kernel
theorem dL_law_1088 : decode cL_law 1088 = .ok (.aload_n 2, 1) := by decide +kernel
theorem dL_law_1089 : decode cL_law 1089 = .ok (.aload_n 0, 1) := by decide +kernel
theorem dL_law_1090 : decode cL_law 1090 = .ok (.iload_n 3, 1) := by decide +kernel
theorem dL_law_1091 : decode cL_law 1091 = .ok (.iconst 1, 1) := by decide +kernel
theorem dL_law_1092 : decode cL_law 1092 = .ok (.iadd, 1) := by decide +kernel
theorem dL_law_1093 : decode cL_law 1093 = .ok (.iaload, 1) := by decide +kernel
theorem dL_law_1094 : decode cL_law 1094 = .ok (.aload_n 0, 1) := by decide +kernel
theorem dL_law_1095 : decode cL_law 1095 = .ok (.iload_n 3, 1) := by decide +kernel
theorem dL_law_1096 : decode cL_law 1096 = .ok (.iconst 2, 1) := by decide +kernel
theorem dL_law_1097 : decode cL_law 1097 = .ok (.iadd, 1) := by decide +kernel
theorem dL_law_1098 : decode cL_law 1098 = .ok (.iaload, 1) := by decide +kernel
theorem dL_law_1099 : decode cL_law 1099 = .ok (.invokevirtual 129, 3) := by decide +kernel
theorem dL_law_1102 : decode cL_law 1102 = .ok (.if_icmp .eq 94, 3) := by decide +kernel
theorem dL_law_1105 : decode cL_law 1105 = .ok (.iconst 0, 1) := by decide +kernel
theorem dL_law_1106 : decode cL_law 1106 = .ok (.ireturn, 1) := by decide +kernel
theorem dL_law_1107 : decode cL_law 1107 = .ok (.aload_n 1, 1) := by decide +kernel
theorem dL_law_1108 : decode cL_law 1108 = .ok (.aload_n 0, 1) := by decide +kernel
theorem dL_law_1109 : decode cL_law 1109 = .ok (.iload_n 3, 1) := by decide +kernel
theorem dL_law_1110 : decode cL_law 1110 = .ok (.iconst 1, 1) := by decide +kernel
theorem dL_law_1111 : decode cL_law 1111 = .ok (.iadd, 1) := by decide +kernel
theorem dL_law_1112 : decode cL_law 1112 = .ok (.iaload, 1) := by decide +kernel
theorem dL_law_1113 : decode cL_law 1113 = .ok (.aload_n 0, 1) := by decide +kernel
theorem dL_law_1114 : decode cL_law 1114 = .ok (.iload_n 3, 1) := by decide +kernel
theorem dL_law_1115 : decode cL_law 1115 = .ok (.iconst 2, 1) := by decide +kernel
theorem dL_law_1116 : decode cL_law 1116 = .ok (.iadd, 1) := by decide +kernel
theorem dL_law_1117 : decode cL_law 1117 = .ok (.iaload, 1) := by decide +kernel
theorem dL_law_1118 : decode cL_law 1118 = .ok (.invokevirtual 130, 3) := by decide +kernel
theorem dL_law_1121 : decode cL_law 1121 = .ok (.aload_n 2, 1) := by decide +kernel
theorem dL_law_1122 : decode cL_law 1122 = .ok (.aload_n 0, 1) := by decide +kernel
theorem dL_law_1123 : decode cL_law 1123 = .ok (.iload_n 3, 1) := by decide +kernel
theorem dL_law_1124 : decode cL_law 1124 = .ok (.iconst 1, 1) := by decide +kernel
theorem dL_law_1125 : decode cL_law 1125 = .ok (.iadd, 1) := by decide +kernel
theorem dL_law_1126 : decode cL_law 1126 = .ok (.iaload, 1) := by decide +kernel
theorem dL_law_1127 : decode cL_law 1127 = .ok (.aload_n 0, 1) := by decide +kernel
theorem dL_law_1128 : decode cL_law 1128 = .ok (.iload_n 3, 1) := by decide +kernel
theorem dL_law_1129 : decode cL_law 1129 = .ok (.iconst 2, 1) := by decide +kernel
theorem dL_law_1130 : decode cL_law 1130 = .ok (.iadd, 1) := by decide +kernel
theorem dL_law_1131 : decode cL_law 1131 = .ok (.iaload, 1) := by decide +kernel
theorem dL_law_1132 : decode cL_law 1132 = .ok (.invokevirtual 133, 3) := by decide +kernel
theorem dL_law_1135 : decode cL_law 1135 = .ok (.if_icmp .eq 61, 3) := by decide +kernel
theorem dL_law_1138 : decode cL_law 1138 = .ok (.iconst 0, 1) := by decide +kernel
theorem dL_law_1139 : decode cL_law 1139 = .ok (.ireturn, 1) := by decide +kernel
theorem dL_law_1140 : decode cL_law 1140 = .ok (.aload_n 1, 1) := by decide +kernel
theorem dL_law_1141 : decode cL_law 1141 = .ok (.aload_n 0, 1) := by decide +kernel
theorem dL_law_1142 : decode cL_law 1142 = .ok (.iload_n 3, 1) := by decide +kernel
theorem dL_law_1143 : decode cL_law 1143 = .ok (.iconst 1, 1) := by decide +kernel
theorem dL_law_1144 : decode cL_law 1144 = .ok (.iadd, 1) := by decide +kernel
theorem dL_law_1145 : decode cL_law 1145 = .ok (.iaload, 1) := by decide +kernel
theorem dL_law_1146 : decode cL_law 1146 = .ok (.aload_n 0, 1) := by decide +kernel
theorem dL_law_1147 : decode cL_law 1147 = .ok (.iload_n 3, 1) := by decide +kernel
theorem dL_law_1148 : decode cL_law 1148 = .ok (.iconst 2, 1) := by decide +kernel
theorem dL_law_1149 : decode cL_law 1149 = .ok (.iadd, 1) := by decide +kernel
theorem dL_law_1150 : decode cL_law 1150 = .ok (.iaload, 1) := by decide +kernel
theorem dL_law_1151 : decode cL_law 1151 = .ok (.invokevirtual 134, 3) := by decide +kernel
theorem dL_law_1154 : decode cL_law 1154 = .ok (.aload_n 2, 1) := by decide +kernel
theorem dL_law_1155 : decode cL_law 1155 = .ok (.aload_n 0, 1) := by decide +kernel
theorem dL_law_1156 : decode cL_law 1156 = .ok (.iload_n 3, 1) := by decide +kernel
theorem dL_law_1157 : decode cL_law 1157 = .ok (.iconst 1, 1) := by decide +kernel
theorem dL_law_1158 : decode cL_law 1158 = .ok (.iadd, 1) := by decide +kernel
theorem dL_law_1159 : decode cL_law 1159 = .ok (.iaload, 1) := by decide +kernel
theorem dL_law_1160 : decode cL_law 1160 = .ok (.aload_n 0, 1) := by decide +kernel
theorem dL_law_1161 : decode cL_law 1161 = .ok (.iload_n 3, 1) := by decide +kernel
theorem dL_law_1162 : decode cL_law 1162 = .ok (.iconst 2, 1) := by decide +kernel
theorem dL_law_1163 : decode cL_law 1163 = .ok (.iadd, 1) := by decide +kernel
theorem dL_law_1164 : decode cL_law 1164 = .ok (.iaload, 1) := by decide +kernel
theorem dL_law_1165 : decode cL_law 1165 = .ok (.invokevirtual 137, 3) := by decide +kernel
theorem dL_law_1168 : decode cL_law 1168 = .ok (.if_icmp .eq 28, 3) := by decide +kernel
theorem dL_law_1171 : decode cL_law 1171 = .ok (.iconst 0, 1) := by decide +kernel
theorem dL_law_1172 : decode cL_law 1172 = .ok (.ireturn, 1) := by decide +kernel
theorem dL_law_1173 : decode cL_law 1173 = .ok (.aload_n 1, 1) := by decide +kernel
theorem dL_law_1174 : decode cL_law 1174 = .ok (.aload_n 0, 1) := by decide +kernel
theorem dL_law_1175 : decode cL_law 1175 = .ok (.iload_n 3, 1) := by decide +kernel
theorem dL_law_1176 : decode cL_law 1176 = .ok (.iconst 1, 1) := by decide +kernel
theorem dL_law_1177 : decode cL_law 1177 = .ok (.iadd, 1) := by decide +kernel
theorem dL_law_1178 : decode cL_law 1178 = .ok (.iaload, 1) := by decide +kernel
theorem dL_law_1179 : decode cL_law 1179 = .ok (.invokevirtual 138, 3) := by decide +kernel
theorem dL_law_1182 : decode cL_law 1182 = .ok (.aload_n 2, 1) := by decide +kernel
theorem dL_law_1183 : decode cL_law 1183 = .ok (.aload_n 0, 1) := by decide +kernel
theorem dL_law_1184 : decode cL_law 1184 = .ok (.iload_n 3, 1) := by decide +kernel
theorem dL_law_1185 : decode cL_law 1185 = .ok (.iconst 1, 1) := by decide +kernel
theorem dL_law_1186 : decode cL_law 1186 = .ok (.iadd, 1) := by decide +kernel
theorem dL_law_1187 : decode cL_law 1187 = .ok (.iaload, 1) := by decide +kernel
theorem dL_law_1188 : decode cL_law 1188 = .ok (.invokevirtual 141, 3) := by decide +kernel
theorem dL_law_1191 : decode cL_law 1191 = .ok (.if_icmp .eq 5, 3) := by decide +kernel
theorem dL_law_1194 : decode cL_law 1194 = .ok (.iconst 0, 1) := by decide +kernel
theorem dL_law_1195 : decode cL_law 1195 = .ok (.ireturn, 1) := by decide +kernel
theorem dL_law_1196 : decode cL_law 1196 = .ok (.iinc 3 6, 3) := by decide +kernel
theorem dL_law_1199 : decode cL_law 1199 = .ok (.goto (-1181), 3) := by decide +kernel
theorem dL_law_1202 : decode cL_law 1202 = .ok (.iconst 1, 1) := by decide +kernel
theorem dL_law_1203 : decode cL_law 1203 = .ok (.ireturn, 1) := by decide +kernel
end
section
/-! THE GHOST MEMORY: every cell that the law makes, by its number in the order of making (0 is the script); its shape, and what it holds by place -/
abbrev xM : Type := (Nat → Nat × Nat) × (Nat → Nat → Int32) × (Nat → Nat → Int64) × (Nat → Nat → Option Nat) × Nat × Nat
def mT (μ : xM) : Nat → Nat × Nat := μ.1
def mI (μ : xM) : Nat → Nat → Int32 := μ.2.1
def mJ (μ : xM) : Nat → Nat → Int64 := μ.2.2.1
def mR (μ : xM) : Nat → Nat → Option Nat := μ.2.2.2.1
def mN (μ : xM) : Nat := μ.2.2.2.2.1
def mS (μ : xM) : Nat := μ.2.2.2.2.2
def up2 {α : Type} (f : Nat → Nat → α) (a k : Nat) (v : α) : Nat → Nat → α := fun b j => if b = a ∧ j = k then v else f b j
def sI (μ : xM) (a k : Nat) (v : Int32) : xM := (mT μ, up2 (mI μ) a k v, mJ μ, mR μ, mN μ, mS μ)
def sJ (μ : xM) (a k : Nat) (v : Int64) : xM := (mT μ, mI μ, up2 (mJ μ) a k v, mR μ, mN μ, mS μ)
def sR (μ : xM) (a k : Nat) (v : Option Nat) : xM := (mT μ, mI μ, mJ μ, up2 (mR μ) a k v, mN μ, mS μ)
def sNew (μ : xM) (c n w : Nat) : xM := (fun b => if b = mN μ then (c, n) else mT μ b, fun b j => if b = mN μ then 0 else mI μ b j, fun b j => if b = mN μ then 0 else mJ μ b j, fun b j => if b = mN μ then none else mR μ b j, mN μ + 1, mS μ + w)
section MEMS
variable (μ : xM) (a k c n w : Nat) (x : Int32) (y : Int64) (r : Option Nat)
theorem mT_sI : mT (sI μ a k x) = mT μ := rfl
theorem mJ_sI : mJ (sI μ a k x) = mJ μ := rfl
theorem mR_sI : mR (sI μ a k x) = mR μ := rfl
theorem mN_sI : mN (sI μ a k x) = mN μ := rfl
theorem mS_sI : mS (sI μ a k x) = mS μ := rfl
theorem mI_sI : mI (sI μ a k x) = up2 (mI μ) a k x := rfl
theorem mT_sJ : mT (sJ μ a k y) = mT μ := rfl
theorem mI_sJ : mI (sJ μ a k y) = mI μ := rfl
theorem mR_sJ : mR (sJ μ a k y) = mR μ := rfl
theorem mN_sJ : mN (sJ μ a k y) = mN μ := rfl
theorem mS_sJ : mS (sJ μ a k y) = mS μ := rfl
theorem mJ_sJ : mJ (sJ μ a k y) = up2 (mJ μ) a k y := rfl
theorem mT_sR : mT (sR μ a k r) = mT μ := rfl
theorem mI_sR : mI (sR μ a k r) = mI μ := rfl
theorem mJ_sR : mJ (sR μ a k r) = mJ μ := rfl
theorem mN_sR : mN (sR μ a k r) = mN μ := rfl
theorem mS_sR : mS (sR μ a k r) = mS μ := rfl
theorem mR_sR : mR (sR μ a k r) = up2 (mR μ) a k r := rfl
theorem mT_sNew : mT (sNew μ c n w) = fun b => if b = mN μ then (c, n) else mT μ b := rfl
theorem mI_sNew : mI (sNew μ c n w) = fun b j => if b = mN μ then 0 else mI μ b j := rfl
theorem mJ_sNew : mJ (sNew μ c n w) = fun b j => if b = mN μ then 0 else mJ μ b j := rfl
theorem mR_sNew : mR (sNew μ c n w) = fun b j => if b = mN μ then none else mR μ b j := rfl
theorem mN_sNew : mN (sNew μ c n w) = mN μ + 1 := rfl
theorem mS_sNew : mS (sNew μ c n w) = mS μ + w := rfl
end MEMS
theorem up2_s {α : Type} (f : Nat → Nat → α) (a k : Nat) (v : α) : up2 f a k v a k = v := if_pos ⟨rfl, rfl⟩
theorem up2_a {α : Type} (f : Nat → Nat → α) {a k b j : Nat} (v : α) (h : b ≠ a) : up2 f a k v b j = f b j := if_neg (fun q => h q.1)
theorem up2_k {α : Type} (f : Nat → Nat → α) {a k b j : Nat} (v : α) (h : j ≠ k) : up2 f a k v b j = f b j := if_neg (fun q => h q.2)
/-! the classes by number -/
def xC : Nat → String := fun c => match c with
  | 0 => RX0
  | 1 => RX1
  | 2 => RX2
  | 3 => RX3
  | 4 => RX4
  | _ => RX5
def xT : Nat → u_T := fun c => match c with
  | 0 => TX0
  | 1 => TX1
  | 2 => TX2
  | 3 => TX3
  | 4 => TX4
  | _ => TX5
def xnf : Nat → Nat := fun c => match c with
  | 0 => 9
  | 1 => 3
  | 2 => 6
  | 3 => 5
  | 4 => 11
  | _ => 26
def xty : Nat → Nat → FieldType := fun c => match c with
  | 0 => tyX0
  | 1 => tyX1
  | 2 => tyX2
  | 3 => tyX3
  | 4 => tyX4
  | _ => tyX5
/-- how a field is held: 0 ints and booleans, 1 longs, 2 references -/
def xfk (t : FieldType) : Nat := match t with
  | .int => 0
  | .boolean => 0
  | .long => 1
  | _ => 2
def xft (c k : Nat) : Nat := xfk (xty c k)
def xtbl : List Cond := lw_tbl.filter goodWord
theorem xtbl_of {w : Cond} (h : w ∈ lw_tbl) (g : goodWord w = true) : w ∈ xtbl := List.mem_filter.mpr ⟨h, g⟩
theorem xtbl_in {w : Cond} (h : w ∈ xtbl) : w ∈ lw_tbl := (List.mem_filter.mp h).1
theorem xtbl_good : GoodIn xtbl xtbl := fun w h => ⟨h, good_of_word (List.mem_filter.mp h).2⟩
theorem goodWord_lay (C : String) (T : u_T) (k : Nat) : goodWord (u_lay C T k) = true := by
  unfold u_lay
  split <;> rfl
theorem xin_of {C : String} {T : u_T} {N : Nat} (h : ∀ w ∈ u_ws C T N, w ∈ lw_tbl) : ∀ w ∈ u_ws C T N, w ∈ xtbl := by
  intro w hw
  refine xtbl_of (h w hw) ?_
  obtain ⟨k, -, rfl⟩ := List.mem_map.mp hw
  exact goodWord_lay C T k
theorem xcl : ∀ c, c < 6 → vwCl[c]? = some (xC c, xT c, xnf c) ∧ (∀ w ∈ u_ws (xC c) (xT c) (xnf c), w ∈ xtbl) ∧ (∀ k, k < xnf c → parseFieldDescriptor (xT c k).2.2.1 = some (xty c k)) ∧ (∀ a, a < xnf c → ∀ b, b < xnf c → a ≠ b → (xT c a).2.1 ≠ (xT c b).2.1) := by
  intro c hc
  match c, hc with
  | 0, _ => exact ⟨rfl, xin_of inX0, tyX0_ok, nmX0⟩
  | 1, _ => exact ⟨rfl, xin_of inX1, tyX1_ok, nmX1⟩
  | 2, _ => exact ⟨rfl, xin_of inX2, tyX2_ok, nmX2⟩
  | 3, _ => exact ⟨rfl, xin_of inX3, tyX3_ok, nmX3⟩
  | 4, _ => exact ⟨rfl, xin_of inX4, tyX4_ok, nmX4⟩
  | 5, _ => exact ⟨rfl, xin_of inX5, tyX5_ok, nmX5⟩
/-! where the ghost memory lies: the classes' numbers, the arrays' classes, the script's cell, the first cell of the law's own -/
abbrev xg : Type := va_G × (Nat → ClassId) × Nat × Nat
def xb (g : xg) : Nat := g.2.2.1
def xbase (g : xg) : Nat := g.2.2.2
def xa (g : xg) (a : Nat) : Nat := if a = 0 then xb g else xbase g + (a - 1)
def xv (g : xg) (v : Value) : Value := match v with
  | .ref a => .ref (xa g a)
  | w => w
def xat : Nat → FieldType := fun i => match i with
  | 0 => .int
  | 1 => .long
  | 2 => .boolean
  | 3 => .object RX0
  | 4 => .object RX2
  | 5 => .object RX3
  | _ => .array .int
def xtys (g : xg) : List (ClassId × FieldType) := [(g.2.1 0, xat 0), (g.2.1 1, xat 1), (g.2.1 2, xat 2), (g.2.1 3, xat 3), (g.2.1 4, xat 4), (g.2.1 5, xat 5), (g.2.1 6, xat 6)]
theorem xtys_at (g : xg) : ∀ i, i < 7 → (xtys g)[i]? = some (g.2.1 i, xat i) := by
  intro i hi
  match i, hi with
  | 0, _ => rfl
  | 1, _ => rfl
  | 2, _ => rfl
  | 3, _ => rfl
  | 4, _ => rfl
  | 5, _ => rfl
  | 6, _ => rfl
def xfv (g : xg) (μ : xM) (a c k : Nat) : Value := match xft c k with
  | 0 => .int (mI μ a k)
  | 1 => .long (mJ μ a k)
  | _ => va_rf ((mR μ a k).map (xa g))
/-- a cell of shape (c, n): 0 .. 5 an object of class c; 6 int[], 7 long[], 8 boolean[], 9 .. 12 arrays of references -/
def xe (g : xg) (μ : xM) (a : Nat) : va_E :=
  if (mT μ a).1 < 6 then .inr ((mT μ a).1, (List.range (xnf (mT μ a).1)).map (xfv g μ a (mT μ a).1))
  else if (mT μ a).1 = 7 then .inl (g.2.1 1, (mT μ a).2, .inr (.inl (mJ μ a)))
  else if (mT μ a).1 = 6 ∨ (mT μ a).1 = 8 then .inl (g.2.1 ((mT μ a).1 - 6), (mT μ a).2, .inl (mI μ a))
  else .inl (g.2.1 ((mT μ a).1 - 6), (mT μ a).2, .inr (.inr (.inr (.inr (fun j => (mR μ a j).map (xa g))))))
def Rep (g : xg) (μ : xM) (H : Heap) : Prop := 1 ≤ mN μ ∧ H.size = xbase g + (mN μ - 1) ∧ (∀ a, (mT μ a).1 < 13 → 1 ≤ a ∧ a < mN μ) ∧ (∀ a, 1 ≤ a → a < mN μ → (mT μ a).1 < 13) ∧ ∀ a, 1 ≤ a → a < mN μ → va_at g.1 vwCl (xa g a, xe g μ a) H
theorem xe_obj {g : xg} {μ : xM} {a c n : Nat} (h : mT μ a = (c, n)) (hc : c < 6) : xe g μ a = .inr (c, (List.range (xnf c)).map (xfv g μ a c)) := by
  unfold xe
  rw [h]
  exact if_pos hc
theorem xe_int {g : xg} {μ : xM} {a n : Nat} (h : mT μ a = (6, n)) : xe g μ a = .inl (g.2.1 0, n, .inl (mI μ a)) := by
  unfold xe
  rw [h]
  rfl
theorem xe_long {g : xg} {μ : xM} {a n : Nat} (h : mT μ a = (7, n)) : xe g μ a = .inl (g.2.1 1, n, .inr (.inl (mJ μ a))) := by
  unfold xe
  rw [h]
  rfl
theorem xe_bool {g : xg} {μ : xM} {a n : Nat} (h : mT μ a = (8, n)) : xe g μ a = .inl (g.2.1 2, n, .inl (mI μ a)) := by
  unfold xe
  rw [h]
  rfl
theorem xe_ref {g : xg} {μ : xM} {a c n : Nat} (h : mT μ a = (c, n)) (hc : 9 ≤ c) : xe g μ a = .inl (g.2.1 (c - 6), n, .inr (.inr (.inr (.inr (fun j => (mR μ a j).map (xa g)))))) := by
  unfold xe
  rw [h]
  show (if c < 6 then _ else if c = 7 then _ else if c = 6 ∨ c = 8 then _ else _) = _
  rw [if_neg (by omega), if_neg (by omega), if_neg (by omega)]
theorem xfv_get (g : xg) (μ : xM) (a c k : Nat) (hk : k < xnf c) : ((List.range (xnf c)).map (xfv g μ a c))[k]? = some (xfv g μ a c k) := by
  simp [hk]
theorem xfv_I {g : xg} {μ : xM} {a c k : Nat} (h : xft c k = 0) : xfv g μ a c k = .int (mI μ a k) := by unfold xfv; simp only [h]
theorem xfv_J {g : xg} {μ : xM} {a c k : Nat} (h : xft c k = 1) : xfv g μ a c k = .long (mJ μ a k) := by unfold xfv; simp only [h]
theorem xfv_R {g : xg} {μ : xM} {a c k : Nat} (h : xft c k = 2) : xfv g μ a c k = va_rf ((mR μ a k).map (xa g)) := by unfold xfv; simp only [h]
theorem xa_inj {g : xg} {a b : Nat} (ha : 1 ≤ a) (hb : 1 ≤ b) (h : xa g a = xa g b) : a = b := by
  unfold xa at h
  rw [if_neg (by omega), if_neg (by omega)] at h
  omega
theorem xa_ge {g : xg} {a : Nat} (ha : 1 ≤ a) : xbase g ≤ xa g a := by
  unfold xa
  rw [if_neg (by omega)]
  omega
theorem xa_lt {g : xg} {μ : xM} {H : Heap} (h : Rep g μ H) {a : Nat} (h1 : 1 ≤ a) (h2 : a < mN μ) : xa g a < H.size := by
  unfold xa
  rw [if_neg (by omega), h.2.1]
  omega
theorem xa_new {g : xg} {μ : xM} {H : Heap} (h : Rep g μ H) : xa g (mN μ) = H.size := by
  have := h.1
  unfold xa
  rw [if_neg (by omega), h.2.1]
theorem Rep.at {g : xg} {μ : xM} {H : Heap} (h : Rep g μ H) {a : Nat} (hc : (mT μ a).1 < 13) : va_at g.1 vwCl (xa g a, xe g μ a) H := h.2.2.2.2 a (h.2.2.1 a hc).1 (h.2.2.1 a hc).2
theorem Rep.one {g : xg} {μ : xM} {H : Heap} (h : Rep g μ H) {a : Nat} (hc : (mT μ a).1 < 13) : va_P g.1 vwCl [(xa g a, xe g μ a)] H := by
  intro k q hk
  have h0 : k < 1 := (List.getElem?_eq_some_iff.mp hk).1
  rw [show k = 0 by omega] at hk
  cases hk
  exact h.at hc
/-- one cell is written -/
theorem Rep.set {g : xg} {μ μ1 : xM} {H H1 : Heap} {a : Nat} (h : Rep g μ H) (hc : (mT μ a).1 < 13) (eT : mT μ1 = mT μ) (eN : mN μ1 = mN μ) (z : H1.size = H.size) (oq : ∀ q : Nat, q ≠ xa g a → H1[q]? = H[q]?)
    (he : va_at g.1 vwCl (xa g a, xe g μ1 a) H1) (hb : ∀ b, b ≠ a → xe g μ1 b = xe g μ b) : Rep g μ1 H1 := by
  obtain ⟨h1, h2, h3, h4, h5⟩ := id h
  refine ⟨by rw [eN]; exact h1, by rw [eN, z]; exact h2, by rw [eT, eN]; exact h3, by rw [eT, eN]; exact h4, fun b b1 b2 => ?_⟩
  rw [eN] at b2
  by_cases e : b = a
  · rw [e]; exact he
  · rw [hb b e]
    exact (h5 b b1 b2).kept (oq _ (fun q => e (xa_inj b1 (h3 a hc).1 q)))
theorem xe_sI {g : xg} {μ : xM} {a k : Nat} {x : Int32} {b : Nat} (h : b ≠ a) : xe g (sI μ a k x) b = xe g μ b := by
  have e : mI (sI μ a k x) b = mI μ b := by funext j; rw [mI_sI, up2_a _ _ h]
  unfold xe
  rw [mT_sI, mJ_sI, mR_sI, e]
  have e2 : xfv g (sI μ a k x) b = xfv g μ b := by
    funext c j
    unfold xfv
    rw [mJ_sI, mR_sI, e]
  rw [e2]
theorem xe_sJ {g : xg} {μ : xM} {a k : Nat} {x : Int64} {b : Nat} (h : b ≠ a) : xe g (sJ μ a k x) b = xe g μ b := by
  have e : mJ (sJ μ a k x) b = mJ μ b := by funext j; rw [mJ_sJ, up2_a _ _ h]
  unfold xe
  rw [mT_sJ, mI_sJ, mR_sJ, e]
  have e2 : xfv g (sJ μ a k x) b = xfv g μ b := by
    funext c j
    unfold xfv
    rw [mI_sJ, mR_sJ, e]
  rw [e2]
theorem xe_sR {g : xg} {μ : xM} {a k : Nat} {x : Option Nat} {b : Nat} (h : b ≠ a) : xe g (sR μ a k x) b = xe g μ b := by
  have e : mR (sR μ a k x) b = mR μ b := by funext j; rw [mR_sR, up2_a _ _ h]
  unfold xe
  rw [mT_sR, mI_sR, mJ_sR, e]
  have e2 : xfv g (sR μ a k x) b = xfv g μ b := by
    funext c j
    unfold xfv
    rw [mI_sR, mJ_sR, e]
  rw [e2]
theorem xe_sNew {g : xg} {μ : xM} {c n w b : Nat} (h : b ≠ mN μ) : xe g (sNew μ c n w) b = xe g μ b := by
  have e : mR (sNew μ c n w) b = mR μ b := by funext j; exact if_neg h
  have e1 : mI (sNew μ c n w) b = mI μ b := by funext j; exact if_neg h
  have e3 : mJ (sNew μ c n w) b = mJ μ b := by funext j; exact if_neg h
  have e4 : mT (sNew μ c n w) b = mT μ b := if_neg h
  unfold xe
  rw [e4, e, e1, e3]
  have e2 : xfv g (sNew μ c n w) b = xfv g μ b := by
    funext c j
    unfold xfv
    rw [e, e1, e3]
  rw [e2]
/-- one cell is made -/
theorem Rep.push {g : xg} {μ : xM} {H H1 : Heap} {c n w : Nat} (h : Rep g μ H) (hc : c < 13) (z : H1.size = H.size + 1) (oq : ∀ q : Nat, q < H.size → H1[q]? = H[q]?)
    (he : va_at g.1 vwCl (H.size, xe g (sNew μ c n w) (mN μ)) H1) : Rep g (sNew μ c n w) H1 := by
  obtain ⟨h1, h2, h3, h4, h5⟩ := id h
  refine ⟨by rw [mN_sNew]; omega, by rw [mN_sNew, z, h2]; omega, fun b hb => ?_, fun b b1 b2 => ?_, fun b b1 b2 => ?_⟩
  · rw [mN_sNew]
    by_cases e : b = mN μ
    · omega
    · rw [show mT (sNew μ c n w) b = mT μ b from if_neg e] at hb
      have := h3 b hb
      omega
  · rw [mN_sNew] at b2
    by_cases e : b = mN μ
    · rw [show mT (sNew μ c n w) b = (c, n) from if_pos e]; exact hc
    · rw [show mT (sNew μ c n w) b = mT μ b from if_neg e]
      exact h4 b b1 (by omega)
  · rw [mN_sNew] at b2
    by_cases e : b = mN μ
    · rw [e, xa_new h]; exact he
    · rw [xe_sNew e]
      exact (h5 b b1 (by omega)).kept (oq _ (xa_lt h b1 (by omega)))
theorem xfv_set_I {g : xg} {μ : xM} {a c k : Nat} {x : Int32} (h : xft c k = 0) (j : Nat) : xfv g (sI μ a k x) a c j = updV (xfv g μ a c) k (.int x) j := by
  by_cases e : j = k
  · subst e
    rw [xfv_I h, mI_sI, up2_s]
    simp [updV]
  · simp only [updV, if_neg e]
    unfold xfv
    rw [mJ_sI, mR_sI, mI_sI, up2_k _ _ e]
theorem xfv_set_J {g : xg} {μ : xM} {a c k : Nat} {x : Int64} (h : xft c k = 1) (j : Nat) : xfv g (sJ μ a k x) a c j = updV (xfv g μ a c) k (.long x) j := by
  by_cases e : j = k
  · subst e
    rw [xfv_J h, mJ_sJ, up2_s]
    simp [updV]
  · simp only [updV, if_neg e]
    unfold xfv
    rw [mI_sJ, mR_sJ, mJ_sJ, up2_k _ _ e]
theorem xfv_set_R {g : xg} {μ : xM} {a c k : Nat} {x : Option Nat} (h : xft c k = 2) (j : Nat) : xfv g (sR μ a k x) a c j = updV (xfv g μ a c) k (va_rf (x.map (xa g))) j := by
  by_cases e : j = k
  · subst e
    rw [xfv_R h, mR_sR, up2_s]
    simp [updV]
  · simp only [updV, if_neg e]
    unfold xfv
    rw [mI_sR, mJ_sR, mR_sR, up2_k _ _ e]
end
section
/-! THE WALK OVER THE GHOST MEMORY: X k sc pc lv st μ Q: method k, at pc, with the locals lv, the operands st and the memory μ, comes to its end with Q of its answer and its memory; Mt k as μ Q: the same of a call -/
def xnest : List (String × Nat × MethodName × String) := [("PatchBay", 48, yX1_init, "PatchBay"), ("PatchBay$Tape", 30, yX4_isPlain, "PatchBay"), ("PatchBay$Channel", 41, yX4_isPlain, "PatchBay"), ("PatchBay$Tape", 41, yX4_takes, "PatchBay"), ("PatchBay$Tape", 49, yX4_fitted, "PatchBay")]
def xK (g : xg) (U : State) : Prop := va_K g.1 vwCl (xtys g) U ∧ (va_AO RX0 U ∧ va_AO RX2 U ∧ va_AO RX3 U ∧ (Cond.arrayOver (.array .int)).before #[] U = true) ∧ ∀ q ∈ xnest, va_Nw (.methodLinkNest q.1 q.2.1 q.2.2.1 q.2.2.2) U
theorem xK.warm {g : xg} {s U : State} (h : xK g s) (hW : s.WarmedH U.vm) : xK g U :=
  ⟨va_K.moved hW.alike h.1, ⟨va_AO.moved hW.alike h.2.1.1, va_AO.moved hW.alike h.2.1.2.1, va_AO.moved hW.alike h.2.1.2.2.1, over_moved hW.alike h.2.1.2.2.2⟩, fun q hq => va_Nw.warmM hW (h.2.2 q hq)⟩
theorem xK.same {g : xg} {s U : State} (h : xK g s) (e : s.vm = U.vm) : xK g U :=
  ⟨va_K.moved (e ▸ Vm.Alike.refl s.vm) h.1, ⟨va_AO.moved (e ▸ Vm.Alike.refl s.vm) h.2.1.1, va_AO.moved (e ▸ Vm.Alike.refl s.vm) h.2.1.2.1, va_AO.moved (e ▸ Vm.Alike.refl s.vm) h.2.1.2.2.1, over_moved (e ▸ Vm.Alike.refl s.vm) h.2.1.2.2.2⟩, fun q hq => va_Nw.same rfl e (h.2.2 q hq)⟩
/-- a method: its name, bytes, locals, answer, frames and words of locals below it -/
abbrev xk : Type := MethodName × ByteArray × Nat × Option FieldType × Nat × Nat
def xws (k : xk) : List Cond := Cond.code k.1 k.2.1 k.2.2.1 k.2.2.2.1 :: xtbl
def xPc (g : xg) (μ : xM) (as : List Value) : Array Value → State → Prop := fun v U => v = (as.map (xv g)).toArray ∧ Rep g μ U.heap ∧ xK g U
def xQc (g : xg) (μ : xM) (r : Option Value) : Array Value → State → Outcome → State → Prop := fun _ st o t => o = .returned (r.map (xv g)) ∧ Rep g μ t.heap ∧ ∀ q : Nat, q < xbase g → t.heap[q]? = st.heap[q]?
def xrm (k : xk) (c n : Nat) : Room := { frames := k.2.2.2.2.1, cells := c, slots := n, locals := k.2.2.2.2.2 }
def Ev (k : xk) (as : List Value) (μ : xM) (r : Option Value) (μ' : xM) : Prop :=
  (mN μ ≤ mN μ' ∧ mS μ ≤ mS μ') ∧ ∀ (l : Launch) (g : xg), Met l k.1 (xws k) (xrm k (mN μ' - mN μ) (mS μ' - mS μ)) (xPc g μ as) (xQc g μ' r) (mN μ' - mN μ) (mS μ' - mS μ) (fun q => xbase g ≤ q)
def Mt (k : xk) (as : List Value) (μ : xM) (Q : Option Value → xM → Prop) : Prop := ∃ r μ', Ev k as μ r μ' ∧ Q r μ'
/-- the script -/
abbrev xsc : Type := Option (Nat × (Nat → Int32))
def xS (k : xk) (sc : xsc) (g : xg) (p : Program) (R : Room) (s : State) (m : MethodId) (args : Array Value) (meth : Method) (c : Code) : Prop :=
  p.tables.exec = Jvm.exec ∧ c.code = k.2.1 ∧ c.maxLocals = k.2.2.1 ∧ s.vm.findClass k.1.cls = some m.cls ∧ (∀ w ∈ xtbl, w.before args s = true) ∧ meth.name = k.1.name ∧ xK g s ∧ k.2.2.2.2.1 ≤ R.frames ∧ k.2.2.2.2.2 ≤ R.locals ∧ xbase g ≤ s.heap.size ∧ ∀ (L : Nat) (xs : Nat → Int32), sc = some (L, xs) → va_X (xb g) L xs s s.heap ∧ xb g < xbase g
def xlv (g : xg) (n : Nat) (lv : Nat → Option Value) (ls : Array Slot) : Prop := ls.size = n ∧ lv_wf ls ∧ ∀ (i : Nat) (v : Value), lv i = some v → ls[i]? = some (.val (xv g v))
def xH (g : xg) (s : State) (μ : xM) (H : Heap) (locs : List Loc) : Prop := Rep g μ H ∧ (∀ q : Nat, q < xbase g → H[q]? = s.heap[q]?) ∧ ∀ q ∈ locs, xbase g ≤ q.base
def xret (ret : Option FieldType) : Instr := match ret with
  | none => .return_
  | some .long => .lreturn
  | some (.object _) => .areturn
  | some (.array _) => .areturn
  | _ => .ireturn
def EvX (k : xk) (sc : xsc) (pc : Nat) (lv : Nat → Option Value) (st : List Value) (μ : xM) (r : Option Value) (μ' : xM) : Prop :=
  (mN μ ≤ mN μ' ∧ mS μ ≤ mS μ') ∧ ∀ (p : Program) (l : Launch) (e : Env) (R : Room) (s : State) (m : MethodId) (args : Array Value) (below : List Frame) (meth : Method) (c : Code) (g : xg), xS k sc g p R s m args meth c →
    ∀ (H : Heap) (locs : List Loc) (cells slots : Nat) (ls : Array Slot) (Z : State → Prop), xH g s μ H locs → cells + (mN μ' - mN μ) ≤ R.cells → slots + (mS μ' - mS μ) ≤ R.slots → xlv g k.2.2.1 lv ls →
      (∀ (H' : Heap) (locs' : List Loc) (pc' : Nat) (ls' : Array Slot), xH g s μ' H' locs' → decode k.2.1 pc' = .ok (xret k.2.2.2.1, 1) → W p l e R s m args below meth c H' locs' (cells + (mN μ' - mN μ)) (slots + (mS μ' - mS μ)) Z (F0 m pc' ls' (r.map (xv g)).toList)) →
      W p l e R s m args below meth c H locs cells slots Z (F0 m pc ls (st.map (xv g)))
def X (k : xk) (sc : xsc) (pc : Nat) (lv : Nat → Option Value) (st : List Value) (μ : xM) (Q : Option Value → xM → Prop) : Prop := ∃ r μ', EvX k sc pc lv st μ r μ' ∧ Q r μ'
/-- one step -/
theorem X.stp {k : xk} {sc : xsc} {pc pc1 : Nat} {lv lv1 : Nat → Option Value} {st st1 : List Value} {μ μ1 : xM} {Q : Option Value → xM → Prop} (hm : mN μ ≤ mN μ1 ∧ mS μ ≤ mS μ1)
    (h : ∀ (p : Program) (l : Launch) (e : Env) (R : Room) (s : State) (m : MethodId) (args : Array Value) (below : List Frame) (meth : Method) (c : Code) (g : xg), xS k sc g p R s m args meth c →
      ∀ (H : Heap) (locs : List Loc) (cells slots : Nat) (ls : Array Slot) (Z : State → Prop), xH g s μ H locs → cells + (mN μ1 - mN μ) ≤ R.cells → slots + (mS μ1 - mS μ) ≤ R.slots → xlv g k.2.2.1 lv ls →
        (∀ (H' : Heap) (locs' : List Loc) (ls' : Array Slot), xH g s μ1 H' locs' → xlv g k.2.2.1 lv1 ls' → W p l e R s m args below meth c H' locs' (cells + (mN μ1 - mN μ)) (slots + (mS μ1 - mS μ)) Z (F0 m pc1 ls' (st1.map (xv g)))) →
        W p l e R s m args below meth c H locs cells slots Z (F0 m pc ls (st.map (xv g))))
    (kk : X k sc pc1 lv1 st1 μ1 Q) : X k sc pc lv st μ Q := by
  obtain ⟨r, μ', ⟨⟨e1, e2⟩, hw⟩, hq⟩ := kk
  refine ⟨r, μ', ⟨⟨Nat.le_trans hm.1 e1, Nat.le_trans hm.2 e2⟩, fun p l e R s m args below meth c g hS H locs cells slots ls Z hH hc hs hl hr => ?_⟩, hq⟩
  have a1 : cells + (mN μ' - mN μ) = cells + (mN μ1 - mN μ) + (mN μ' - mN μ1) := by omega
  have a2 : slots + (mS μ' - mS μ) = slots + (mS μ1 - mS μ) + (mS μ' - mS μ1) := by omega
  refine h p l e R s m args below meth c g hS H locs cells slots ls Z hH (by omega) (by omega) hl (fun H' locs' ls' hH' hl' => ?_)
  refine hw p l e R s m args below meth c g hS H' locs' _ _ ls' Z hH' (by omega) (by omega) hl' (fun H2 locs2 pc2 ls2 hH2 hd => ?_)
  rw [← a1, ← a2]
  exact hr H2 locs2 pc2 ls2 hH2 hd
/-- one step that leaves the memory -/
theorem X.pure {k : xk} {sc : xsc} {pc pc1 : Nat} {lv lv1 : Nat → Option Value} {st st1 : List Value} {μ : xM} {Q : Option Value → xM → Prop}
    (h : ∀ (p : Program) (l : Launch) (e : Env) (R : Room) (s : State) (m : MethodId) (args : Array Value) (below : List Frame) (meth : Method) (c : Code) (g : xg), xS k sc g p R s m args meth c →
      ∀ (H : Heap) (locs : List Loc) (cells slots : Nat) (ls : Array Slot) (Z : State → Prop), xH g s μ H locs → xlv g k.2.2.1 lv ls →
        (∀ (ls' : Array Slot), xlv g k.2.2.1 lv1 ls' → W p l e R s m args below meth c H locs cells slots Z (F0 m pc1 ls' (st1.map (xv g)))) →
        W p l e R s m args below meth c H locs cells slots Z (F0 m pc ls (st.map (xv g))))
    (kk : X k sc pc1 lv1 st1 μ Q) : X k sc pc lv st μ Q := by
  refine X.stp ⟨Nat.le_refl _, Nat.le_refl _⟩ (fun p l e R s m args below meth c g hS H locs cells slots ls Z hH hc hs hl hr => ?_) kk
  refine h p l e R s m args below meth c g hS H locs cells slots ls Z hH hl (fun ls' hl' => ?_)
  have w := hr H locs ls' hH hl'
  rw [Nat.sub_self, Nat.sub_self] at w
  exact w
theorem X.mono {k : xk} {sc : xsc} {pc : Nat} {lv : Nat → Option Value} {st : List Value} {μ : xM} {Q Q' : Option Value → xM → Prop} (h : X k sc pc lv st μ Q) (hq : ∀ r μ', Q r μ' → Q' r μ') : X k sc pc lv st μ Q' := by
  obtain ⟨r, μ', h1, h2⟩ := h
  exact ⟨r, μ', h1, hq _ _ h2⟩
theorem Mt.mono {k : xk} {as : List Value} {μ : xM} {Q Q' : Option Value → xM → Prop} (h : Mt k as μ Q) (hq : ∀ r μ', Q r μ' → Q' r μ') : Mt k as μ Q' := by
  obtain ⟨r, μ', h1, h2⟩ := h
  exact ⟨r, μ', h1, hq _ _ h2⟩
/-- fewer locals -/
theorem X.sub {k : xk} {sc : xsc} {pc : Nat} {lv lv1 : Nat → Option Value} {st : List Value} {μ : xM} {Q : Option Value → xM → Prop} (hl : ∀ i v, lv1 i = some v → lv i = some v) (h : X k sc pc lv1 st μ Q) : X k sc pc lv st μ Q :=
  X.pure (fun p l e R s m args below meth c g hS H locs cells slots ls Z hH hls kk => kk ls ⟨hls.1, hls.2.1, fun i v q => hls.2.2 i v (hl i v q)⟩) h
/-! locals -/
def xl (l : List (Nat × Value)) : Nat → Option Value := fun i => match l with
  | [] => none
  | q :: r => if i = q.1 then some q.2 else xl r i
def xok (l : List (Nat × Value)) (lv : Nat → Option Value) : Prop := match l with
  | [] => True
  | q :: r => lv q.1 = some q.2 ∧ xok r lv
theorem xok_sub {lv : Nat → Option Value} : ∀ (l : List (Nat × Value)), xok l lv → ∀ i v, xl l i = some v → lv i = some v
  | [], _, i, v, h => by simp [xl] at h
  | q :: r, h, i, v, hv => by
    unfold xl at hv
    by_cases e : i = q.1
    · rw [if_pos e] at hv
      rw [e, ← Option.some.inj hv]
      exact h.1
    · rw [if_neg e] at hv
      exact xok_sub r h.2 i v hv
theorem X.at {k : xk} {sc : xsc} {pc : Nat} {lv : Nat → Option Value} {st : List Value} {μ : xM} {Q : Option Value → xM → Prop} (l : List (Nat × Value)) (hl : xok l lv) (h : X k sc pc (xl l) st μ Q) : X k sc pc lv st μ Q := X.sub (xok_sub l hl) h
def up1 (i : Nat) (v : Value) (lv : Nat → Option Value) : Nat → Option Value := fun j => if j = i then some v else match lv j with
  | none => none
  | some w => if j + 1 = i ∧ w.category = 2 then none else some w
def upw (i : Nat) (v : Value) (lv : Nat → Option Value) : Nat → Option Value := fun j => if j = i then some v else if j = i + 1 then none else match lv j with
  | none => none
  | some w => if j + 1 = i ∧ w.category = 2 then none else some w
theorem xcat (g : xg) (v : Value) : (xv g v).category = v.category := by cases v <;> rfl
theorem xlist {g : xg} {n : Nat} {lv : Nat → Option Value} {ls : Array Slot} (h : xlv g n lv ls) : lv_has ls n ((List.range n).filterMap fun i => (lv i).map fun v => (i, xv g v)) := by
  obtain ⟨hs, hw, hl⟩ := h
  refine ⟨hs, hw, fun q hq => ?_⟩
  obtain ⟨i, -, hi⟩ := List.mem_filterMap.mp hq
  cases hv : lv i with
  | none => rw [hv] at hi; cases hi
  | some v => rw [hv] at hi; cases hi; exact hl i v hv
theorem xlist_mem {g : xg} {n : Nat} {lv : Nat → Option Value} {ls : Array Slot} (h : xlv g n lv ls) {j : Nat} {w : Value} (hv : lv j = some w) : (j, xv g w) ∈ ((List.range n).filterMap fun i => (lv i).map fun v => (i, xv g v)) := by
  refine List.mem_filterMap.mpr ⟨j, List.mem_range.mpr ?_, by rw [hv]; rfl⟩
  have := lv_lt (h.2.2 j w hv)
  rw [h.1] at this
  exact this
theorem xstore1 {g : xg} {n i : Nat} {lv : Nat → Option Value} {ls : Array Slot} {v : Value} (h : xlv g n lv ls) (hi : i < n) (hc : v.category = 1) : ∃ ls', storeLocals ls i (xv g v) = some ls' ∧ xlv g n (up1 i v lv) ls' := by
  obtain ⟨ls', e, h2⟩ := lv_store1 (v := xv g v) (xlist h) hi (by rw [xcat]; exact hc)
  refine ⟨ls', e, h2.1, h2.2.1, fun j w hj => ?_⟩
  unfold up1 at hj
  by_cases e1 : j = i
  · rw [if_pos e1] at hj
    rw [e1, ← Option.some.inj hj]
    exact h2.2.2 (i, xv g v) List.mem_cons_self
  · rw [if_neg e1] at hj
    cases hv : lv j with
    | none => rw [hv] at hj; cases hj
    | some u =>
      rw [hv] at hj
      dsimp only at hj
      by_cases e2 : j + 1 = i ∧ u.category = 2
      · rw [if_pos e2] at hj; cases hj
      · rw [if_neg e2] at hj
        cases hj
        refine h2.2.2 (j, xv g w) (List.mem_cons_of_mem _ (List.mem_filter.mpr ⟨xlist_mem h hv, ?_⟩))
        simp only [Bool.and_eq_true, Bool.not_eq_true', beq_eq_false_iff_ne, Bool.and_eq_false_iff, beq_iff_eq]
        refine ⟨e1, ?_⟩
        by_cases e3 : j + 1 = i
        · right; rw [xcat]; exact fun h4 => e2 ⟨e3, h4⟩
        · left; exact e3
theorem xstore2 {g : xg} {n i : Nat} {lv : Nat → Option Value} {ls : Array Slot} {v : Value} (h : xlv g n lv ls) (hi : i + 1 < n) (hc : v.category = 2) : ∃ ls', storeLocals ls i (xv g v) = some ls' ∧ xlv g n (upw i v lv) ls' := by
  obtain ⟨ls', e, h2⟩ := lv_store2 (v := xv g v) (xlist h) hi (by rw [xcat]; exact hc)
  refine ⟨ls', e, h2.1, h2.2.1, fun j w hj => ?_⟩
  unfold upw at hj
  by_cases e1 : j = i
  · rw [if_pos e1] at hj
    rw [e1, ← Option.some.inj hj]
    exact h2.2.2 (i, xv g v) List.mem_cons_self
  · rw [if_neg e1] at hj
    by_cases e0 : j = i + 1
    · rw [if_pos e0] at hj; cases hj
    · rw [if_neg e0] at hj
      cases hv : lv j with
      | none => rw [hv] at hj; cases hj
      | some u =>
        rw [hv] at hj
        dsimp only at hj
        by_cases e2 : j + 1 = i ∧ u.category = 2
        · rw [if_pos e2] at hj; cases hj
        · rw [if_neg e2] at hj
          cases hj
          refine h2.2.2 (j, xv g w) (List.mem_cons_of_mem _ (List.mem_filter.mpr ⟨xlist_mem h hv, ?_⟩))
          simp only [Bool.and_eq_true, Bool.not_eq_true', beq_eq_false_iff_ne, Bool.and_eq_false_iff, beq_iff_eq]
          refine ⟨e1, e0, ?_⟩
          by_cases e3 : j + 1 = i
          · right; rw [xcat]; exact fun h4 => e2 ⟨e3, h4⟩
          · left; exact e3
/-! a method's start and end -/
def xrok (ret : Option FieldType) (r : Option Value) : Prop := match ret, r with
  | none, none => True
  | some .int, some (.int _) => True
  | some .boolean, some (.int v) => v = 0 ∨ v = 1
  | some .long, some (.long _) => True
  | some (.object _), some .null => True
  | some (.object _), some (.ref _) => True
  | _, _ => False
theorem xargs_map (g : xg) : ∀ (as : List Value) (n : Nat), lv_args n (as.map (xv g)) = (lv_args n as).map (fun q => (q.1, xv g q.2))
  | [], n => rfl
  | v :: as, n => by
    show _ = _
    simp only [List.map_cons, lv_args, xcat, xargs_map g as]
theorem xl_mem : ∀ (l : List (Nat × Value)) (i : Nat) (v : Value), xl l i = some v → (i, v) ∈ l
  | [], i, v, h => by simp [xl] at h
  | q :: r, i, v, h => by
    unfold xl at h
    by_cases e : i = q.1
    · rw [if_pos e] at h
      rw [e, ← Option.some.inj h]
      exact List.mem_cons_self
    · rw [if_neg e] at h
      exact List.mem_cons_of_mem _ (xl_mem r i v h)
theorem xsl_map (g : xg) : ∀ (as : List Value), (lg_sl (as.map (xv g))).length = (lg_sl as).length
  | [] => rfl
  | v :: as => by
    have ih := xsl_map g as
    unfold lg_sl at ih ⊢
    simp only [List.map_cons, List.flatMap_cons, List.length_append, ih, xcat]
    split <;> rfl
theorem Mt.enter {k : xk} {as : List Value} {μ : xM} {Q : Option Value → xM → Prop} (hk : plainName k.1.cls = true) (hsl : (lg_sl as).length ≤ k.2.2.1)
    (h : X k none 0 (xl (lv_args 0 as)) [] μ (fun r μ' => xrok k.2.2.2.1 r ∧ Q r μ')) : Mt k as μ Q := by
  obtain ⟨r, μ', ⟨hm, hw⟩, hok, hq⟩ := h
  refine ⟨r, μ', ⟨hm, fun l g => ?_⟩, hq⟩
  refine Met.ofW (cc := k.2.1) (maxL := k.2.2.1) (ret := k.2.2.2.1) hk rfl ?_
  intro p e s m args below meth c s₁ B hml hv
  obtain ⟨rfl, hR, hKs⟩ := hv
  have hr := B.returns
  have hx := B.exec
  have hb := B.bytes
  have hts := atoms_spec (ws := xws k) B.pre
  have hlocks := B.notSynchronized
  rw [lg_entry_eq]
  have hbase : xbase g ≤ s.heap.size := by rw [hR.2.1]; omega
  have hS : xS k none g p (headSpec (xws k) (xrm k (mN μ' - mN μ) (mS μ' - mS μ))).room s m (as.map (xv g)).toArray meth c :=
    ⟨hx, hb, hml, findClass_of_methodNamed B.named, fun w hw => hts w (List.mem_cons_of_mem _ hw), (name_of_methodNamed B.named B.method).1, hKs, Nat.le_refl _, Nat.le_refl _, hbase, fun L xs h => by cases h⟩
  have hent := lv_entry (as.map (xv g)) (n := k.2.2.1) (by rw [xsl_map]; exact hsl)
  refine hw p l e _ s m _ below meth c g hS s.heap [] 0 0 _ _ ⟨hR, fun _ _ => rfl, fun q hq => by cases hq⟩ (by rw [Nat.zero_add]; exact Nat.le_refl _) (by rw [Nat.zero_add]; exact Nat.le_refl _) ⟨hent.1, hent.2.1, fun i v hi => ?_⟩ (fun H' locs' pc' ls' hH' hd => ?_)
  · refine hent.2.2 (i, xv g v) ?_
    rw [xargs_map]
    exact List.mem_map.mpr ⟨(i, v), xl_mem _ i v hi, rfl⟩
  · rw [Nat.zero_add, Nat.zero_add]
    generalize hret : k.2.2.2.1 = ret at hr hd hok
    have hQ : ∀ t : State, t.heap = H' → s.WarmedH t.vm → xQc g μ' r (as.map (xv g)).toArray s (.returned (r.map (xv g))) t := fun t ht _ => ⟨rfl, by rw [ht]; exact hH'.1, fun q hq => by rw [ht]; exact hH'.2.1 q hq⟩
    have hf : ∀ q ∈ locs', (fun q => xbase g ≤ q) q.base := hH'.2.2
    cases ret with
    | none =>
      cases r with
      | some v => exact hok.elim
      | none => exact W.vret hx hb hr hQ hf hd
    | some ty =>
      cases r with
      | none => cases ty <;> exact hok.elim
      | some v =>
        cases ty with
        | int =>
          cases v with
          | int v => exact W.iret hx hb hr hQ hf hd
          | _ => exact hok.elim
        | boolean =>
          cases v with
          | int v => exact W.zret hx hb hr (by rcases hok with rfl | rfl <;> rfl) hQ hf hd
          | _ => exact hok.elim
        | long =>
          cases v with
          | long v => exact W.lret hx hb hr hQ hf hd
          | _ => exact hok.elim
        | object n =>
          cases v with
          | null => exact W.aret hx hb hr (Or.inl ⟨n, rfl⟩) (Or.inl rfl) hQ hf hd
          | ref a => exact W.aret hx hb hr (Or.inl ⟨n, rfl⟩) (Or.inr ⟨_, rfl⟩) hQ hf hd
          | _ => exact hok.elim
        | _ => cases v <;> exact hok.elim
theorem X.ret {k : xk} {sc : xsc} {pc : Nat} {lv : Nat → Option Value} {v : Value} {μ : xM} {Q : Option Value → xM → Prop} (d : decode k.2.1 pc = .ok (xret k.2.2.2.1, 1)) (h : Q (some v) μ) : X k sc pc lv [v] μ Q := by
  refine ⟨some v, μ, ⟨⟨Nat.le_refl _, Nat.le_refl _⟩, fun p l e R s m args below meth c g hS H locs cells slots ls Z hH hc hs hl hr => ?_⟩, h⟩
  have w := hr H locs pc ls hH d
  rw [Nat.sub_self, Nat.sub_self] at w
  exact w
theorem X.retv {k : xk} {sc : xsc} {pc : Nat} {lv : Nat → Option Value} {μ : xM} {Q : Option Value → xM → Prop} (d : decode k.2.1 pc = .ok (xret k.2.2.2.1, 1)) (h : Q none μ) : X k sc pc lv [] μ Q := by
  refine ⟨none, μ, ⟨⟨Nat.le_refl _, Nat.le_refl _⟩, fun p l e R s m args below meth c g hS H locs cells slots ls Z hH hc hs hl hr => ?_⟩, h⟩
  have w := hr H locs pc ls hH d
  rw [Nat.sub_self, Nat.sub_self] at w
  exact w
end
section
/-! one rule an instruction (laid by wip/whole/mkrules.py) -/
theorem X.iconst {k : xk} {sc : xsc} {pc : Nat} {lv : Nat → Option Value} {st : List Value} {μ : xM} {Q : Option Value → xM → Prop} {n : Int} {v : Int32} (d : decode k.2.1 pc = .ok (.iconst n, 1)) (hv : Int32.ofInt n = v) (kk : X k sc (pc + 1) lv (.int v :: st) μ Q) : X k sc pc lv st μ Q := by
  refine X.pure (fun p l e R s m args below meth c g hS H locs cells slots ls Z hH hl kk => ?_) kk
  exact lv_iconst hS.1 hS.2.1 d hv (kk ls hl)
theorem X.bipush {k : xk} {sc : xsc} {pc : Nat} {lv : Nat → Option Value} {st : List Value} {μ : xM} {Q : Option Value → xM → Prop} {n : Int} {v : Int32} (d : decode k.2.1 pc = .ok (.bipush n, 2)) (hv : (Int8.ofInt n).toInt32 = v) (kk : X k sc (pc + 2) lv (.int v :: st) μ Q) : X k sc pc lv st μ Q := by
  refine X.pure (fun p l e R s m args below meth c g hS H locs cells slots ls Z hH hl kk => ?_) kk
  exact lv_bipush hS.1 hS.2.1 d hv (kk ls hl)
theorem X.sipush {k : xk} {sc : xsc} {pc : Nat} {lv : Nat → Option Value} {st : List Value} {μ : xM} {Q : Option Value → xM → Prop} {n : Int} {v : Int32} (d : decode k.2.1 pc = .ok (.sipush n, 3)) (hv : (Int16.ofInt n).toInt32 = v) (kk : X k sc (pc + 3) lv (.int v :: st) μ Q) : X k sc pc lv st μ Q := by
  refine X.pure (fun p l e R s m args below meth c g hS H locs cells slots ls Z hH hl kk => ?_) kk
  exact lv_sipush hS.1 hS.2.1 d hv (kk ls hl)
theorem X.lconst {k : xk} {sc : xsc} {pc : Nat} {lv : Nat → Option Value} {st : List Value} {μ : xM} {Q : Option Value → xM → Prop} {n : Fin 2} {v : Int64} (d : decode k.2.1 pc = .ok (.lconst n, 1)) (hv : Int64.ofNat (n : Nat) = v) (kk : X k sc (pc + 1) lv (.long v :: st) μ Q) : X k sc pc lv st μ Q := by
  refine X.pure (fun p l e R s m args below meth c g hS H locs cells slots ls Z hH hl kk => ?_) kk
  exact lv_lconst hS.1 hS.2.1 d hv (kk ls hl)
theorem X.null {k : xk} {sc : xsc} {pc : Nat} {lv : Nat → Option Value} {st : List Value} {μ : xM} {Q : Option Value → xM → Prop}  (d : decode k.2.1 pc = .ok (.aconst_null, 1)) (kk : X k sc (pc + 1) lv (.null :: st) μ Q) : X k sc pc lv st μ Q := by
  refine X.pure (fun p l e R s m args below meth c g hS H locs cells slots ls Z hH hl kk => ?_) kk
  exact lv_null hS.1 hS.2.1 d (kk ls hl)
theorem X.ldc {k : xk} {sc : xsc} {pc : Nat} {lv : Nat → Option Value} {st : List Value} {μ : xM} {Q : Option Value → xM → Prop} {i : Nat} {v : Int32} (d : decode k.2.1 pc = .ok (.ldc i, 2)) (w : Cond.constant k.1.cls i v ∈ xtbl) (kk : X k sc (pc + 2) lv (.int v :: st) μ Q) : X k sc pc lv st μ Q := by
  refine X.pure (fun p l e R s m args below meth c g hS H locs cells slots ls Z hH hl kk => ?_) kk
  exact lv_ldc hS.1 hS.2.1 hS.2.2.2.1 (hS.2.2.2.2.1 _ w) d (kk ls hl)
theorem X.ldc2 {k : xk} {sc : xsc} {pc : Nat} {lv : Nat → Option Value} {st : List Value} {μ : xM} {Q : Option Value → xM → Prop} {i : Nat} {v : Int64} (d : decode k.2.1 pc = .ok (.ldc2_w i, 3)) (w : Cond.constantLong k.1.cls i v ∈ xtbl) (kk : X k sc (pc + 3) lv (.long v :: st) μ Q) : X k sc pc lv st μ Q := by
  refine X.pure (fun p l e R s m args below meth c g hS H locs cells slots ls Z hH hl kk => ?_) kk
  exact lv_ldc2 hS.1 hS.2.1 hS.2.2.2.1 (hS.2.2.2.2.1 _ w) d (kk ls hl)
theorem X.iload_n {k : xk} {sc : xsc} {pc : Nat} {lv : Nat → Option Value} {st : List Value} {μ : xM} {Q : Option Value → xM → Prop} {n : Fin 4} {x : Int32} (d : decode k.2.1 pc = .ok (.iload_n n, 1)) (h : lv (n : Nat) = some (.int x)) (kk : X k sc (pc + 1) lv (.int x :: st) μ Q) : X k sc pc lv st μ Q := by
  refine X.pure (fun p l e R s m args below meth c g hS H locs cells slots ls Z hH hl kk => ?_) kk
  exact lv_iload_n hS.1 hS.2.1 d rfl (hl.2.2 _ _ h) (kk ls hl)
theorem X.iload {k : xk} {sc : xsc} {pc : Nat} {lv : Nat → Option Value} {st : List Value} {μ : xM} {Q : Option Value → xM → Prop} {n : Nat} {x : Int32} (d : decode k.2.1 pc = .ok (.iload n, 2)) (h : lv n = some (.int x)) (kk : X k sc (pc + 2) lv (.int x :: st) μ Q) : X k sc pc lv st μ Q := by
  refine X.pure (fun p l e R s m args below meth c g hS H locs cells slots ls Z hH hl kk => ?_) kk
  exact lv_iload hS.1 hS.2.1 d (hl.2.2 _ _ h) (kk ls hl)
theorem X.lload_n {k : xk} {sc : xsc} {pc : Nat} {lv : Nat → Option Value} {st : List Value} {μ : xM} {Q : Option Value → xM → Prop} {n : Fin 4} {x : Int64} (d : decode k.2.1 pc = .ok (.lload_n n, 1)) (h : lv (n : Nat) = some (.long x)) (kk : X k sc (pc + 1) lv (.long x :: st) μ Q) : X k sc pc lv st μ Q := by
  refine X.pure (fun p l e R s m args below meth c g hS H locs cells slots ls Z hH hl kk => ?_) kk
  exact lv_lload_n hS.1 hS.2.1 d rfl (hl.2.2 _ _ h) (kk ls hl)
theorem X.lload {k : xk} {sc : xsc} {pc : Nat} {lv : Nat → Option Value} {st : List Value} {μ : xM} {Q : Option Value → xM → Prop} {n : Nat} {x : Int64} (d : decode k.2.1 pc = .ok (.lload n, 2)) (h : lv n = some (.long x)) (kk : X k sc (pc + 2) lv (.long x :: st) μ Q) : X k sc pc lv st μ Q := by
  refine X.pure (fun p l e R s m args below meth c g hS H locs cells slots ls Z hH hl kk => ?_) kk
  exact lv_lload hS.1 hS.2.1 d (hl.2.2 _ _ h) (kk ls hl)
theorem X.aload_n {k : xk} {sc : xsc} {pc : Nat} {lv : Nat → Option Value} {st : List Value} {μ : xM} {Q : Option Value → xM → Prop} {n : Fin 4} {x : Nat} (d : decode k.2.1 pc = .ok (.aload_n n, 1)) (h : lv (n : Nat) = some (.ref x)) (kk : X k sc (pc + 1) lv (.ref x :: st) μ Q) : X k sc pc lv st μ Q := by
  refine X.pure (fun p l e R s m args below meth c g hS H locs cells slots ls Z hH hl kk => ?_) kk
  exact lv_aload_n hS.1 hS.2.1 d rfl (hl.2.2 _ _ h) (kk ls hl)
theorem X.aload {k : xk} {sc : xsc} {pc : Nat} {lv : Nat → Option Value} {st : List Value} {μ : xM} {Q : Option Value → xM → Prop} {n : Nat} {x : Nat} (d : decode k.2.1 pc = .ok (.aload n, 2)) (h : lv n = some (.ref x)) (kk : X k sc (pc + 2) lv (.ref x :: st) μ Q) : X k sc pc lv st μ Q := by
  refine X.pure (fun p l e R s m args below meth c g hS H locs cells slots ls Z hH hl kk => ?_) kk
  exact lv_aload hS.1 hS.2.1 d (hl.2.2 _ _ h) (kk ls hl)
theorem X.aload_nN {k : xk} {sc : xsc} {pc : Nat} {lv : Nat → Option Value} {st : List Value} {μ : xM} {Q : Option Value → xM → Prop} {n : Fin 4} (d : decode k.2.1 pc = .ok (.aload_n n, 1)) (h : lv (n : Nat) = some .null) (kk : X k sc (pc + 1) lv (.null :: st) μ Q) : X k sc pc lv st μ Q := by
  refine X.pure (fun p l e R s m args below meth c g hS H locs cells slots ls Z hH hl kk => ?_) kk
  exact lv_aload_nN hS.1 hS.2.1 d rfl (hl.2.2 _ _ h) (kk ls hl)
theorem X.aloadN {k : xk} {sc : xsc} {pc : Nat} {lv : Nat → Option Value} {st : List Value} {μ : xM} {Q : Option Value → xM → Prop} {n : Nat} (d : decode k.2.1 pc = .ok (.aload n, 2)) (h : lv n = some .null) (kk : X k sc (pc + 2) lv (.null :: st) μ Q) : X k sc pc lv st μ Q := by
  refine X.pure (fun p l e R s m args below meth c g hS H locs cells slots ls Z hH hl kk => ?_) kk
  exact lv_aloadN hS.1 hS.2.1 d (hl.2.2 _ _ h) (kk ls hl)
theorem X.istore_n {k : xk} {sc : xsc} {pc : Nat} {lv : Nat → Option Value} {st : List Value} {μ : xM} {Q : Option Value → xM → Prop} {n : Fin 4} {x : Int32} (d : decode k.2.1 pc = .ok (.istore_n n, 1)) (hn : (n : Nat) < k.2.2.1) (kk : X k sc (pc + 1) (up1 (n : Nat) (.int x) lv) st μ Q) : X k sc pc lv (.int x :: st) μ Q := by
  refine X.pure (fun p l e R s m args below meth c g hS H locs cells slots ls Z hH hl kk => ?_) kk
  obtain ⟨ls', e', h'⟩ := xstore1 (v := .int x) hl hn rfl
  intro T hT X
  obtain ⟨t, a, b⟩ := kk ls' h' T hT X
  refine ⟨t, ?_, b⟩
  have hexec := hS.1
  have hb := hS.2.1
  have e2 : storeLocals ls (n : Nat) (.int x) = some ls' := e'
  show Steps p.tables e below (T.setTop (F0 m pc ls (.int x :: st.map (xv g)))) t
  jvm_step X.here [X.here.top, ↓top_set X.here.top, hexec, hb, d, e2]
  first | exact a | exact ⟨rfl, a⟩
theorem X.istore {k : xk} {sc : xsc} {pc : Nat} {lv : Nat → Option Value} {st : List Value} {μ : xM} {Q : Option Value → xM → Prop} {n : Nat} {x : Int32} (d : decode k.2.1 pc = .ok (.istore n, 2)) (hn : (n : Nat) < k.2.2.1) (kk : X k sc (pc + 2) (up1 (n : Nat) (.int x) lv) st μ Q) : X k sc pc lv (.int x :: st) μ Q := by
  refine X.pure (fun p l e R s m args below meth c g hS H locs cells slots ls Z hH hl kk => ?_) kk
  obtain ⟨ls', e', h'⟩ := xstore1 (v := .int x) hl hn rfl
  intro T hT X
  obtain ⟨t, a, b⟩ := kk ls' h' T hT X
  refine ⟨t, ?_, b⟩
  have hexec := hS.1
  have hb := hS.2.1
  have e2 : storeLocals ls (n : Nat) (.int x) = some ls' := e'
  show Steps p.tables e below (T.setTop (F0 m pc ls (.int x :: st.map (xv g)))) t
  jvm_step X.here [X.here.top, ↓top_set X.here.top, hexec, hb, d, e2]
  first | exact a | exact ⟨rfl, a⟩
theorem X.lstore_n {k : xk} {sc : xsc} {pc : Nat} {lv : Nat → Option Value} {st : List Value} {μ : xM} {Q : Option Value → xM → Prop} {n : Fin 4} {x : Int64} (d : decode k.2.1 pc = .ok (.lstore_n n, 1)) (hn : (n : Nat) + 1 < k.2.2.1) (kk : X k sc (pc + 1) (upw (n : Nat) (.long x) lv) st μ Q) : X k sc pc lv (.long x :: st) μ Q := by
  refine X.pure (fun p l e R s m args below meth c g hS H locs cells slots ls Z hH hl kk => ?_) kk
  obtain ⟨ls', e', h'⟩ := xstore2 (v := .long x) hl hn rfl
  intro T hT X
  obtain ⟨t, a, b⟩ := kk ls' h' T hT X
  refine ⟨t, ?_, b⟩
  have hexec := hS.1
  have hb := hS.2.1
  have e2 : storeLocals ls (n : Nat) (.long x) = some ls' := e'
  show Steps p.tables e below (T.setTop (F0 m pc ls (.long x :: st.map (xv g)))) t
  jvm_step X.here [X.here.top, ↓top_set X.here.top, hexec, hb, d, e2]
  first | exact a | exact ⟨rfl, a⟩
theorem X.lstore {k : xk} {sc : xsc} {pc : Nat} {lv : Nat → Option Value} {st : List Value} {μ : xM} {Q : Option Value → xM → Prop} {n : Nat} {x : Int64} (d : decode k.2.1 pc = .ok (.lstore n, 2)) (hn : (n : Nat) + 1 < k.2.2.1) (kk : X k sc (pc + 2) (upw (n : Nat) (.long x) lv) st μ Q) : X k sc pc lv (.long x :: st) μ Q := by
  refine X.pure (fun p l e R s m args below meth c g hS H locs cells slots ls Z hH hl kk => ?_) kk
  obtain ⟨ls', e', h'⟩ := xstore2 (v := .long x) hl hn rfl
  intro T hT X
  obtain ⟨t, a, b⟩ := kk ls' h' T hT X
  refine ⟨t, ?_, b⟩
  have hexec := hS.1
  have hb := hS.2.1
  have e2 : storeLocals ls (n : Nat) (.long x) = some ls' := e'
  show Steps p.tables e below (T.setTop (F0 m pc ls (.long x :: st.map (xv g)))) t
  jvm_step X.here [X.here.top, ↓top_set X.here.top, hexec, hb, d, e2]
  first | exact a | exact ⟨rfl, a⟩
theorem X.astore_n {k : xk} {sc : xsc} {pc : Nat} {lv : Nat → Option Value} {st : List Value} {μ : xM} {Q : Option Value → xM → Prop} {n : Fin 4} {x : Nat} (d : decode k.2.1 pc = .ok (.astore_n n, 1)) (hn : (n : Nat) < k.2.2.1) (kk : X k sc (pc + 1) (up1 (n : Nat) (.ref x) lv) st μ Q) : X k sc pc lv (.ref x :: st) μ Q := by
  refine X.pure (fun p l e R s m args below meth c g hS H locs cells slots ls Z hH hl kk => ?_) kk
  obtain ⟨ls', e', h'⟩ := xstore1 (v := .ref x) hl hn rfl
  intro T hT X
  obtain ⟨t, a, b⟩ := kk ls' h' T hT X
  refine ⟨t, ?_, b⟩
  have hexec := hS.1
  have hb := hS.2.1
  have e2 : storeLocals ls (n : Nat) (.ref (xa g x)) = some ls' := e'
  show Steps p.tables e below (T.setTop (F0 m pc ls (.ref (xa g x) :: st.map (xv g)))) t
  jvm_step X.here [X.here.top, ↓top_set X.here.top, hexec, hb, d, e2]
  first | exact a | exact ⟨rfl, a⟩
theorem X.astore {k : xk} {sc : xsc} {pc : Nat} {lv : Nat → Option Value} {st : List Value} {μ : xM} {Q : Option Value → xM → Prop} {n : Nat} {x : Nat} (d : decode k.2.1 pc = .ok (.astore n, 2)) (hn : (n : Nat) < k.2.2.1) (kk : X k sc (pc + 2) (up1 (n : Nat) (.ref x) lv) st μ Q) : X k sc pc lv (.ref x :: st) μ Q := by
  refine X.pure (fun p l e R s m args below meth c g hS H locs cells slots ls Z hH hl kk => ?_) kk
  obtain ⟨ls', e', h'⟩ := xstore1 (v := .ref x) hl hn rfl
  intro T hT X
  obtain ⟨t, a, b⟩ := kk ls' h' T hT X
  refine ⟨t, ?_, b⟩
  have hexec := hS.1
  have hb := hS.2.1
  have e2 : storeLocals ls (n : Nat) (.ref (xa g x)) = some ls' := e'
  show Steps p.tables e below (T.setTop (F0 m pc ls (.ref (xa g x) :: st.map (xv g)))) t
  jvm_step X.here [X.here.top, ↓top_set X.here.top, hexec, hb, d, e2]
  first | exact a | exact ⟨rfl, a⟩
theorem X.astore_nN {k : xk} {sc : xsc} {pc : Nat} {lv : Nat → Option Value} {st : List Value} {μ : xM} {Q : Option Value → xM → Prop} {n : Fin 4} (d : decode k.2.1 pc = .ok (.astore_n n, 1)) (hn : (n : Nat) < k.2.2.1) (kk : X k sc (pc + 1) (up1 (n : Nat) .null lv) st μ Q) : X k sc pc lv (.null :: st) μ Q := by
  refine X.pure (fun p l e R s m args below meth c g hS H locs cells slots ls Z hH hl kk => ?_) kk
  obtain ⟨ls', e', h'⟩ := xstore1 (v := .null) hl hn rfl
  intro T hT X
  obtain ⟨t, a, b⟩ := kk ls' h' T hT X
  refine ⟨t, ?_, b⟩
  have hexec := hS.1
  have hb := hS.2.1
  have e2 : storeLocals ls (n : Nat) .null = some ls' := e'
  show Steps p.tables e below (T.setTop (F0 m pc ls (.null :: st.map (xv g)))) t
  jvm_step X.here [X.here.top, ↓top_set X.here.top, hexec, hb, d, e2]
  first | exact a | exact ⟨rfl, a⟩
theorem X.astoreN {k : xk} {sc : xsc} {pc : Nat} {lv : Nat → Option Value} {st : List Value} {μ : xM} {Q : Option Value → xM → Prop} {n : Nat} (d : decode k.2.1 pc = .ok (.astore n, 2)) (hn : (n : Nat) < k.2.2.1) (kk : X k sc (pc + 2) (up1 (n : Nat) .null lv) st μ Q) : X k sc pc lv (.null :: st) μ Q := by
  refine X.pure (fun p l e R s m args below meth c g hS H locs cells slots ls Z hH hl kk => ?_) kk
  obtain ⟨ls', e', h'⟩ := xstore1 (v := .null) hl hn rfl
  intro T hT X
  obtain ⟨t, a, b⟩ := kk ls' h' T hT X
  refine ⟨t, ?_, b⟩
  have hexec := hS.1
  have hb := hS.2.1
  have e2 : storeLocals ls (n : Nat) .null = some ls' := e'
  show Steps p.tables e below (T.setTop (F0 m pc ls (.null :: st.map (xv g)))) t
  jvm_step X.here [X.here.top, ↓top_set X.here.top, hexec, hb, d, e2]
  first | exact a | exact ⟨rfl, a⟩
theorem X.iinc {k : xk} {sc : xsc} {pc : Nat} {lv : Nat → Option Value} {st : List Value} {μ : xM} {Q : Option Value → xM → Prop} {i : Nat} {n : Int} {x v : Int32} (d : decode k.2.1 pc = .ok (.iinc i n, 3)) (h : lv i = some (.int x)) (hv : x + Int32.ofInt n = v) (hn : i < k.2.2.1) (kk : X k sc (pc + 3) (up1 i (.int v) lv) st μ Q) : X k sc pc lv st μ Q := by
  refine X.pure (fun p l e R s m args below meth c g hS H locs cells slots ls Z hH hl kk => ?_) kk
  obtain ⟨ls', e', h'⟩ := xstore1 (v := .int v) hl hn rfl
  have hx := hl.2.2 i _ h
  intro T hT X
  obtain ⟨t, a, b⟩ := kk ls' h' T hT X
  refine ⟨t, ?_, b⟩
  have hexec := hS.1
  have hb := hS.2.1
  subst hv
  have e2 : storeLocals ls i (.int (x + Int32.ofInt n)) = some ls' := e'
  have hx2 : ls[i]? = some (.val (.int x)) := hx
  jvm_step X.here [X.here.top, ↓top_set X.here.top, hexec, hb, d, hx2, e2]
  exact a
theorem X.iadd {k : xk} {sc : xsc} {pc : Nat} {lv : Nat → Option Value} {st : List Value} {μ : xM} {Q : Option Value → xM → Prop} {x y : Int32} (d : decode k.2.1 pc = .ok (.iadd, 1)) (kk : X k sc (pc + 1) lv (.int (x + y) :: st) μ Q) : X k sc pc lv (.int y :: .int x :: st) μ Q := by
  refine X.pure (fun p l e R s m args below meth c g hS H locs cells slots ls Z hH hl kk => ?_) kk
  exact lv_iadd hS.1 hS.2.1 d (kk ls hl)
theorem X.isub {k : xk} {sc : xsc} {pc : Nat} {lv : Nat → Option Value} {st : List Value} {μ : xM} {Q : Option Value → xM → Prop} {x y : Int32} (d : decode k.2.1 pc = .ok (.isub, 1)) (kk : X k sc (pc + 1) lv (.int (x - y) :: st) μ Q) : X k sc pc lv (.int y :: .int x :: st) μ Q := by
  refine X.pure (fun p l e R s m args below meth c g hS H locs cells slots ls Z hH hl kk => ?_) kk
  exact lv_isub hS.1 hS.2.1 d (kk ls hl)
theorem X.imul {k : xk} {sc : xsc} {pc : Nat} {lv : Nat → Option Value} {st : List Value} {μ : xM} {Q : Option Value → xM → Prop} {x y : Int32} (d : decode k.2.1 pc = .ok (.imul, 1)) (kk : X k sc (pc + 1) lv (.int (x * y) :: st) μ Q) : X k sc pc lv (.int y :: .int x :: st) μ Q := by
  refine X.pure (fun p l e R s m args below meth c g hS H locs cells slots ls Z hH hl kk => ?_) kk
  exact lv_imul hS.1 hS.2.1 d (kk ls hl)
theorem X.iand {k : xk} {sc : xsc} {pc : Nat} {lv : Nat → Option Value} {st : List Value} {μ : xM} {Q : Option Value → xM → Prop} {x y : Int32} (d : decode k.2.1 pc = .ok (.iand, 1)) (kk : X k sc (pc + 1) lv (.int (x &&& y) :: st) μ Q) : X k sc pc lv (.int y :: .int x :: st) μ Q := by
  refine X.pure (fun p l e R s m args below meth c g hS H locs cells slots ls Z hH hl kk => ?_) kk
  exact lv_iand hS.1 hS.2.1 d (kk ls hl)
theorem X.ior {k : xk} {sc : xsc} {pc : Nat} {lv : Nat → Option Value} {st : List Value} {μ : xM} {Q : Option Value → xM → Prop} {x y : Int32} (d : decode k.2.1 pc = .ok (.ior, 1)) (kk : X k sc (pc + 1) lv (.int (x ||| y) :: st) μ Q) : X k sc pc lv (.int y :: .int x :: st) μ Q := by
  refine X.pure (fun p l e R s m args below meth c g hS H locs cells slots ls Z hH hl kk => ?_) kk
  exact lv_ior hS.1 hS.2.1 d (kk ls hl)
theorem X.ixor {k : xk} {sc : xsc} {pc : Nat} {lv : Nat → Option Value} {st : List Value} {μ : xM} {Q : Option Value → xM → Prop} {x y : Int32} (d : decode k.2.1 pc = .ok (.ixor, 1)) (kk : X k sc (pc + 1) lv (.int (x ^^^ y) :: st) μ Q) : X k sc pc lv (.int y :: .int x :: st) μ Q := by
  refine X.pure (fun p l e R s m args below meth c g hS H locs cells slots ls Z hH hl kk => ?_) kk
  exact lv_ixor hS.1 hS.2.1 d (kk ls hl)
theorem X.ladd {k : xk} {sc : xsc} {pc : Nat} {lv : Nat → Option Value} {st : List Value} {μ : xM} {Q : Option Value → xM → Prop} {x y : Int64} (d : decode k.2.1 pc = .ok (.ladd, 1)) (kk : X k sc (pc + 1) lv (.long (x + y) :: st) μ Q) : X k sc pc lv (.long y :: .long x :: st) μ Q := by
  refine X.pure (fun p l e R s m args below meth c g hS H locs cells slots ls Z hH hl kk => ?_) kk
  exact lv_ladd hS.1 hS.2.1 d (kk ls hl)
theorem X.lsub {k : xk} {sc : xsc} {pc : Nat} {lv : Nat → Option Value} {st : List Value} {μ : xM} {Q : Option Value → xM → Prop} {x y : Int64} (d : decode k.2.1 pc = .ok (.lsub, 1)) (kk : X k sc (pc + 1) lv (.long (x - y) :: st) μ Q) : X k sc pc lv (.long y :: .long x :: st) μ Q := by
  refine X.pure (fun p l e R s m args below meth c g hS H locs cells slots ls Z hH hl kk => ?_) kk
  exact lv_lsub hS.1 hS.2.1 d (kk ls hl)
theorem X.land {k : xk} {sc : xsc} {pc : Nat} {lv : Nat → Option Value} {st : List Value} {μ : xM} {Q : Option Value → xM → Prop} {x y : Int64} (d : decode k.2.1 pc = .ok (.land, 1)) (kk : X k sc (pc + 1) lv (.long (x &&& y) :: st) μ Q) : X k sc pc lv (.long y :: .long x :: st) μ Q := by
  refine X.pure (fun p l e R s m args below meth c g hS H locs cells slots ls Z hH hl kk => ?_) kk
  exact lv_land hS.1 hS.2.1 d (kk ls hl)
theorem X.lor {k : xk} {sc : xsc} {pc : Nat} {lv : Nat → Option Value} {st : List Value} {μ : xM} {Q : Option Value → xM → Prop} {x y : Int64} (d : decode k.2.1 pc = .ok (.lor, 1)) (kk : X k sc (pc + 1) lv (.long (x ||| y) :: st) μ Q) : X k sc pc lv (.long y :: .long x :: st) μ Q := by
  refine X.pure (fun p l e R s m args below meth c g hS H locs cells slots ls Z hH hl kk => ?_) kk
  exact lv_lor hS.1 hS.2.1 d (kk ls hl)
theorem X.irem {k : xk} {sc : xsc} {pc : Nat} {lv : Nat → Option Value} {st : List Value} {μ : xM} {Q : Option Value → xM → Prop} {x y : Int32} (d : decode k.2.1 pc = .ok (.irem, 1)) (hne : ¬ y = 0) (kk : X k sc (pc + 1) lv (.int (x - (x / y) * y) :: st) μ Q) : X k sc pc lv (.int y :: .int x :: st) μ Q := by
  refine X.pure (fun p l e R s m args below meth c g hS H locs cells slots ls Z hH hl kk => ?_) kk
  exact lv_irem hS.1 hS.2.1 d hne (kk ls hl)
theorem X.ineg {k : xk} {sc : xsc} {pc : Nat} {lv : Nat → Option Value} {st : List Value} {μ : xM} {Q : Option Value → xM → Prop} {x : Int32} (d : decode k.2.1 pc = .ok (.ineg, 1)) (kk : X k sc (pc + 1) lv (.int (-x) :: st) μ Q) : X k sc pc lv (.int x :: st) μ Q := by
  refine X.pure (fun p l e R s m args below meth c g hS H locs cells slots ls Z hH hl kk => ?_) kk
  exact lv_ineg hS.1 hS.2.1 d (kk ls hl)
theorem X.lneg {k : xk} {sc : xsc} {pc : Nat} {lv : Nat → Option Value} {st : List Value} {μ : xM} {Q : Option Value → xM → Prop} {x : Int64} (d : decode k.2.1 pc = .ok (.lneg, 1)) (kk : X k sc (pc + 1) lv (.long (-x) :: st) μ Q) : X k sc pc lv (.long x :: st) μ Q := by
  refine X.pure (fun p l e R s m args below meth c g hS H locs cells slots ls Z hH hl kk => ?_) kk
  exact lv_lneg hS.1 hS.2.1 d (kk ls hl)
theorem X.i2l {k : xk} {sc : xsc} {pc : Nat} {lv : Nat → Option Value} {st : List Value} {μ : xM} {Q : Option Value → xM → Prop} {x : Int32} (d : decode k.2.1 pc = .ok (.i2l, 1)) (kk : X k sc (pc + 1) lv (.long x.toInt64 :: st) μ Q) : X k sc pc lv (.int x :: st) μ Q := by
  refine X.pure (fun p l e R s m args below meth c g hS H locs cells slots ls Z hH hl kk => ?_) kk
  exact lv_i2l hS.1 hS.2.1 d rfl (kk ls hl)
theorem X.l2i {k : xk} {sc : xsc} {pc : Nat} {lv : Nat → Option Value} {st : List Value} {μ : xM} {Q : Option Value → xM → Prop} {x : Int64} (d : decode k.2.1 pc = .ok (.l2i, 1)) (kk : X k sc (pc + 1) lv (.int x.toInt32 :: st) μ Q) : X k sc pc lv (.long x :: st) μ Q := by
  refine X.pure (fun p l e R s m args below meth c g hS H locs cells slots ls Z hH hl kk => ?_) kk
  exact lv_l2i hS.1 hS.2.1 d rfl (kk ls hl)
theorem X.i2b {k : xk} {sc : xsc} {pc : Nat} {lv : Nat → Option Value} {st : List Value} {μ : xM} {Q : Option Value → xM → Prop} {x : Int32} (d : decode k.2.1 pc = .ok (.i2b, 1)) (kk : X k sc (pc + 1) lv (.int x.toInt8.toInt32 :: st) μ Q) : X k sc pc lv (.int x :: st) μ Q := by
  refine X.pure (fun p l e R s m args below meth c g hS H locs cells slots ls Z hH hl kk => ?_) kk
  exact lv_i2b hS.1 hS.2.1 d rfl (kk ls hl)
theorem X.i2s {k : xk} {sc : xsc} {pc : Nat} {lv : Nat → Option Value} {st : List Value} {μ : xM} {Q : Option Value → xM → Prop} {x : Int32} (d : decode k.2.1 pc = .ok (.i2s, 1)) (kk : X k sc (pc + 1) lv (.int x.toInt16.toInt32 :: st) μ Q) : X k sc pc lv (.int x :: st) μ Q := by
  refine X.pure (fun p l e R s m args below meth c g hS H locs cells slots ls Z hH hl kk => ?_) kk
  exact lv_i2s hS.1 hS.2.1 d rfl (kk ls hl)
theorem X.i2c {k : xk} {sc : xsc} {pc : Nat} {lv : Nat → Option Value} {st : List Value} {μ : xM} {Q : Option Value → xM → Prop} {x : Int32} (d : decode k.2.1 pc = .ok (.i2c, 1)) (kk : X k sc (pc + 1) lv (.int (x.toUInt32 % 65536).toInt32 :: st) μ Q) : X k sc pc lv (.int x :: st) μ Q := by
  refine X.pure (fun p l e R s m args below meth c g hS H locs cells slots ls Z hH hl kk => ?_) kk
  exact lv_i2c hS.1 hS.2.1 d rfl (kk ls hl)
theorem X.lushr {k : xk} {sc : xsc} {pc : Nat} {lv : Nat → Option Value} {st : List Value} {μ : xM} {Q : Option Value → xM → Prop} {x : Int64} {y : Int32} (d : decode k.2.1 pc = .ok (.lushr, 1)) (kk : X k sc (pc + 1) lv (.long (x.toUInt64 >>> (y.toInt64.toUInt64 &&& Int64.toUInt64 63)).toInt64 :: st) μ Q) : X k sc pc lv (.int y :: .long x :: st) μ Q := by
  refine X.pure (fun p l e R s m args below meth c g hS H locs cells slots ls Z hH hl kk => ?_) kk
  exact lv_lushr hS.1 hS.2.1 d rfl (kk ls hl)
theorem X.lshl {k : xk} {sc : xsc} {pc : Nat} {lv : Nat → Option Value} {st : List Value} {μ : xM} {Q : Option Value → xM → Prop} {x : Int64} {y : Int32} (d : decode k.2.1 pc = .ok (.lshl, 1)) (kk : X k sc (pc + 1) lv (.long (x <<< (y.toInt64 &&& 63)) :: st) μ Q) : X k sc pc lv (.int y :: .long x :: st) μ Q := by
  refine X.pure (fun p l e R s m args below meth c g hS H locs cells slots ls Z hH hl kk => ?_) kk
  exact lv_lshl hS.1 hS.2.1 d rfl (kk ls hl)
theorem X.l2f {k : xk} {sc : xsc} {pc : Nat} {lv : Nat → Option Value} {st : List Value} {μ : xM} {Q : Option Value → xM → Prop} {x : Int64} (d : decode k.2.1 pc = .ok (.l2f, 1)) (kk : X k sc (pc + 1) lv (.float (FP.l2f x) :: st) μ Q) : X k sc pc lv (.long x :: st) μ Q := by
  refine X.pure (fun p l e R s m args below meth c g hS H locs cells slots ls Z hH hl kk => ?_) kk
  exact lv_l2f hS.1 hS.2.1 d (kk ls hl)
theorem X.f2l {k : xk} {sc : xsc} {pc : Nat} {lv : Nat → Option Value} {st : List Value} {μ : xM} {Q : Option Value → xM → Prop} {x : UInt32} (d : decode k.2.1 pc = .ok (.f2l, 1)) (kk : X k sc (pc + 1) lv (.long (FP.f2l x) :: st) μ Q) : X k sc pc lv (.float x :: st) μ Q := by
  refine X.pure (fun p l e R s m args below meth c g hS H locs cells slots ls Z hH hl kk => ?_) kk
  exact lv_f2l hS.1 hS.2.1 d (kk ls hl)
theorem X.l2d {k : xk} {sc : xsc} {pc : Nat} {lv : Nat → Option Value} {st : List Value} {μ : xM} {Q : Option Value → xM → Prop} {x : Int64} (d : decode k.2.1 pc = .ok (.l2d, 1)) (kk : X k sc (pc + 1) lv (.double (FP.l2d x) :: st) μ Q) : X k sc pc lv (.long x :: st) μ Q := by
  refine X.pure (fun p l e R s m args below meth c g hS H locs cells slots ls Z hH hl kk => ?_) kk
  exact lv_l2d hS.1 hS.2.1 d (kk ls hl)
theorem X.d2l {k : xk} {sc : xsc} {pc : Nat} {lv : Nat → Option Value} {st : List Value} {μ : xM} {Q : Option Value → xM → Prop} {x : UInt64} (d : decode k.2.1 pc = .ok (.d2l, 1)) (kk : X k sc (pc + 1) lv (.long (FP.d2l x) :: st) μ Q) : X k sc pc lv (.double x :: st) μ Q := by
  refine X.pure (fun p l e R s m args below meth c g hS H locs cells slots ls Z hH hl kk => ?_) kk
  exact lv_d2l hS.1 hS.2.1 d (kk ls hl)
theorem X.lcmp {k : xk} {sc : xsc} {pc : Nat} {lv : Nat → Option Value} {st : List Value} {μ : xM} {Q : Option Value → xM → Prop} {x y : Int64} (d : decode k.2.1 pc = .ok (.lcmp, 1)) (kk : X k sc (pc + 1) lv (.int (lg_cmp x y) :: st) μ Q) : X k sc pc lv (.long y :: .long x :: st) μ Q := by
  refine X.pure (fun p l e R s m args below meth c g hS H locs cells slots ls Z hH hl kk => ?_) kk
  exact W.lcmp hS.1 hS.2.1 d (kk ls hl)
theorem X.dupI {k : xk} {sc : xsc} {pc : Nat} {lv : Nat → Option Value} {st : List Value} {μ : xM} {Q : Option Value → xM → Prop} {x : Int32} (d : decode k.2.1 pc = .ok (.dup, 1)) (kk : X k sc (pc + 1) lv (.int x :: .int x :: st) μ Q) : X k sc pc lv (.int x :: st) μ Q := by
  refine X.pure (fun p l e R s m args below meth c g hS H locs cells slots ls Z hH hl kk => ?_) kk
  exact lv_dup (va := xv g (.int x)) hS.1 hS.2.1 d rfl (kk ls hl)
theorem X.dup {k : xk} {sc : xsc} {pc : Nat} {lv : Nat → Option Value} {st : List Value} {μ : xM} {Q : Option Value → xM → Prop} {x : Nat} (d : decode k.2.1 pc = .ok (.dup, 1)) (kk : X k sc (pc + 1) lv (.ref x :: .ref x :: st) μ Q) : X k sc pc lv (.ref x :: st) μ Q := by
  refine X.pure (fun p l e R s m args below meth c g hS H locs cells slots ls Z hH hl kk => ?_) kk
  exact lv_dup (va := xv g (.ref x)) hS.1 hS.2.1 d rfl (kk ls hl)
theorem X.dup2 {k : xk} {sc : xsc} {pc : Nat} {lv : Nat → Option Value} {st : List Value} {μ : xM} {Q : Option Value → xM → Prop} {a : Nat} {j : Int32} (d : decode k.2.1 pc = .ok (.dup2, 1)) (kk : X k sc (pc + 1) lv (.int j :: .ref a :: .int j :: .ref a :: st) μ Q) : X k sc pc lv (.int j :: .ref a :: st) μ Q := by
  refine X.pure (fun p l e R s m args below meth c g hS H locs cells slots ls Z hH hl kk => ?_) kk
  exact lv_dup2_11 (va := .int j) (vb := .ref (xa g a)) hS.1 hS.2.1 d rfl rfl (kk ls hl)
theorem X.pop {k : xk} {sc : xsc} {pc : Nat} {lv : Nat → Option Value} {st : List Value} {μ : xM} {Q : Option Value → xM → Prop} {x : Int32} (d : decode k.2.1 pc = .ok (.pop, 1)) (kk : X k sc (pc + 1) lv st μ Q) : X k sc pc lv (.int x :: st) μ Q := by
  refine X.pure (fun p l e R s m args below meth c g hS H locs cells slots ls Z hH hl kk => ?_) kk
  exact lv_pop (va := .int x) hS.1 hS.2.1 d rfl (kk ls hl)
theorem X.goto {k : xk} {sc : xsc} {pc : Nat} {lv : Nat → Option Value} {st : List Value} {μ : xM} {Q : Option Value → xM → Prop} {off : Int} {tgt : Nat} (d : decode k.2.1 pc = .ok (.goto off, 3)) (ht : (pc : Int) + off = (tgt : Int)) (kk : X k sc (tgt) lv st μ Q) : X k sc pc lv st μ Q := by
  refine X.pure (fun p l e R s m args below meth c g hS H locs cells slots ls Z hH hl kk => ?_) kk
  exact lv_goto hS.1 hS.2.1 d ht (kk ls hl)
theorem X.if_eq_t {k : xk} {sc : xsc} {pc : Nat} {lv : Nat → Option Value} {st : List Value} {μ : xM} {Q : Option Value → xM → Prop} {x : Int32} {off : Int} {tgt : Nat} (d : decode k.2.1 pc = .ok (.ifCond .eq off, 3)) (ht : (pc : Int) + off = (tgt : Int)) (h : (x = 0)) (kk : X k sc (tgt) lv st μ Q) : X k sc pc lv (.int x :: st) μ Q := by
  refine X.pure (fun p l e R s m args below meth c g hS H locs cells slots ls Z hH hl kk => ?_) kk
  exact lv_if_eq hS.1 hS.2.1 d ht (fun _ => kk ls hl) (fun q => absurd h q)
theorem X.if_eq_f {k : xk} {sc : xsc} {pc : Nat} {lv : Nat → Option Value} {st : List Value} {μ : xM} {Q : Option Value → xM → Prop} {x : Int32} {off : Int} {tgt : Nat} (d : decode k.2.1 pc = .ok (.ifCond .eq off, 3)) (ht : (pc : Int) + off = (tgt : Int)) (h : ¬ (x = 0)) (kk : X k sc (pc + 3) lv st μ Q) : X k sc pc lv (.int x :: st) μ Q := by
  refine X.pure (fun p l e R s m args below meth c g hS H locs cells slots ls Z hH hl kk => ?_) kk
  exact lv_if_eq hS.1 hS.2.1 d ht (fun q => absurd q h) (fun _ => kk ls hl)
theorem X.if_eq {k : xk} {sc : xsc} {pc : Nat} {lv : Nat → Option Value} {st : List Value} {μ : xM} {Q : Option Value → xM → Prop} {x : Int32} {off : Int} {tgt : Nat} (d : decode k.2.1 pc = .ok (.ifCond .eq off, 3)) (ht : (pc : Int) + off = (tgt : Int)) (kt : (x = 0) → X k sc tgt lv st μ Q) (kf : ¬ (x = 0) → X k sc (pc + 3) lv st μ Q) : X k sc pc lv (.int x :: st) μ Q := by
  by_cases h : (x = 0)
  · exact X.if_eq_t d ht h (kt h)
  · exact X.if_eq_f d ht h (kf h)
theorem X.icmp_eq_t {k : xk} {sc : xsc} {pc : Nat} {lv : Nat → Option Value} {st : List Value} {μ : xM} {Q : Option Value → xM → Prop} {x y : Int32} {off : Int} {tgt : Nat} (d : decode k.2.1 pc = .ok (.if_icmp .eq off, 3)) (ht : (pc : Int) + off = (tgt : Int)) (h : (x = y)) (kk : X k sc (tgt) lv st μ Q) : X k sc pc lv (.int y :: .int x :: st) μ Q := by
  refine X.pure (fun p l e R s m args below meth c g hS H locs cells slots ls Z hH hl kk => ?_) kk
  exact lv_icmp_eq hS.1 hS.2.1 d ht (fun _ => kk ls hl) (fun q => absurd h q)
theorem X.icmp_eq_f {k : xk} {sc : xsc} {pc : Nat} {lv : Nat → Option Value} {st : List Value} {μ : xM} {Q : Option Value → xM → Prop} {x y : Int32} {off : Int} {tgt : Nat} (d : decode k.2.1 pc = .ok (.if_icmp .eq off, 3)) (ht : (pc : Int) + off = (tgt : Int)) (h : ¬ (x = y)) (kk : X k sc (pc + 3) lv st μ Q) : X k sc pc lv (.int y :: .int x :: st) μ Q := by
  refine X.pure (fun p l e R s m args below meth c g hS H locs cells slots ls Z hH hl kk => ?_) kk
  exact lv_icmp_eq hS.1 hS.2.1 d ht (fun q => absurd q h) (fun _ => kk ls hl)
theorem X.icmp_eq {k : xk} {sc : xsc} {pc : Nat} {lv : Nat → Option Value} {st : List Value} {μ : xM} {Q : Option Value → xM → Prop} {x y : Int32} {off : Int} {tgt : Nat} (d : decode k.2.1 pc = .ok (.if_icmp .eq off, 3)) (ht : (pc : Int) + off = (tgt : Int)) (kt : (x = y) → X k sc tgt lv st μ Q) (kf : ¬ (x = y) → X k sc (pc + 3) lv st μ Q) : X k sc pc lv (.int y :: .int x :: st) μ Q := by
  by_cases h : (x = y)
  · exact X.icmp_eq_t d ht h (kt h)
  · exact X.icmp_eq_f d ht h (kf h)
theorem X.if_ne_t {k : xk} {sc : xsc} {pc : Nat} {lv : Nat → Option Value} {st : List Value} {μ : xM} {Q : Option Value → xM → Prop} {x : Int32} {off : Int} {tgt : Nat} (d : decode k.2.1 pc = .ok (.ifCond .ne off, 3)) (ht : (pc : Int) + off = (tgt : Int)) (h : (¬ x = 0)) (kk : X k sc (tgt) lv st μ Q) : X k sc pc lv (.int x :: st) μ Q := by
  refine X.pure (fun p l e R s m args below meth c g hS H locs cells slots ls Z hH hl kk => ?_) kk
  exact lv_if_ne hS.1 hS.2.1 d ht (fun _ => kk ls hl) (fun q => absurd q h)
theorem X.if_ne_f {k : xk} {sc : xsc} {pc : Nat} {lv : Nat → Option Value} {st : List Value} {μ : xM} {Q : Option Value → xM → Prop} {x : Int32} {off : Int} {tgt : Nat} (d : decode k.2.1 pc = .ok (.ifCond .ne off, 3)) (ht : (pc : Int) + off = (tgt : Int)) (h : (x = 0)) (kk : X k sc (pc + 3) lv st μ Q) : X k sc pc lv (.int x :: st) μ Q := by
  refine X.pure (fun p l e R s m args below meth c g hS H locs cells slots ls Z hH hl kk => ?_) kk
  exact lv_if_ne hS.1 hS.2.1 d ht (fun q => absurd h q) (fun _ => kk ls hl)
theorem X.if_ne {k : xk} {sc : xsc} {pc : Nat} {lv : Nat → Option Value} {st : List Value} {μ : xM} {Q : Option Value → xM → Prop} {x : Int32} {off : Int} {tgt : Nat} (d : decode k.2.1 pc = .ok (.ifCond .ne off, 3)) (ht : (pc : Int) + off = (tgt : Int)) (kt : (¬ x = 0) → X k sc tgt lv st μ Q) (kf : (x = 0) → X k sc (pc + 3) lv st μ Q) : X k sc pc lv (.int x :: st) μ Q := by
  by_cases h : (x = 0)
  · exact X.if_ne_f d ht h (kf h)
  · exact X.if_ne_t d ht h (kt h)
theorem X.icmp_ne_t {k : xk} {sc : xsc} {pc : Nat} {lv : Nat → Option Value} {st : List Value} {μ : xM} {Q : Option Value → xM → Prop} {x y : Int32} {off : Int} {tgt : Nat} (d : decode k.2.1 pc = .ok (.if_icmp .ne off, 3)) (ht : (pc : Int) + off = (tgt : Int)) (h : (¬ x = y)) (kk : X k sc (tgt) lv st μ Q) : X k sc pc lv (.int y :: .int x :: st) μ Q := by
  refine X.pure (fun p l e R s m args below meth c g hS H locs cells slots ls Z hH hl kk => ?_) kk
  exact lv_icmp_ne hS.1 hS.2.1 d ht (fun _ => kk ls hl) (fun q => absurd q h)
theorem X.icmp_ne_f {k : xk} {sc : xsc} {pc : Nat} {lv : Nat → Option Value} {st : List Value} {μ : xM} {Q : Option Value → xM → Prop} {x y : Int32} {off : Int} {tgt : Nat} (d : decode k.2.1 pc = .ok (.if_icmp .ne off, 3)) (ht : (pc : Int) + off = (tgt : Int)) (h : (x = y)) (kk : X k sc (pc + 3) lv st μ Q) : X k sc pc lv (.int y :: .int x :: st) μ Q := by
  refine X.pure (fun p l e R s m args below meth c g hS H locs cells slots ls Z hH hl kk => ?_) kk
  exact lv_icmp_ne hS.1 hS.2.1 d ht (fun q => absurd h q) (fun _ => kk ls hl)
theorem X.icmp_ne {k : xk} {sc : xsc} {pc : Nat} {lv : Nat → Option Value} {st : List Value} {μ : xM} {Q : Option Value → xM → Prop} {x y : Int32} {off : Int} {tgt : Nat} (d : decode k.2.1 pc = .ok (.if_icmp .ne off, 3)) (ht : (pc : Int) + off = (tgt : Int)) (kt : (¬ x = y) → X k sc tgt lv st μ Q) (kf : (x = y) → X k sc (pc + 3) lv st μ Q) : X k sc pc lv (.int y :: .int x :: st) μ Q := by
  by_cases h : (x = y)
  · exact X.icmp_ne_f d ht h (kf h)
  · exact X.icmp_ne_t d ht h (kt h)
theorem X.if_lt_t {k : xk} {sc : xsc} {pc : Nat} {lv : Nat → Option Value} {st : List Value} {μ : xM} {Q : Option Value → xM → Prop} {x : Int32} {off : Int} {tgt : Nat} (d : decode k.2.1 pc = .ok (.ifCond .lt off, 3)) (ht : (pc : Int) + off = (tgt : Int)) (h : (x < 0)) (kk : X k sc (tgt) lv st μ Q) : X k sc pc lv (.int x :: st) μ Q := by
  refine X.pure (fun p l e R s m args below meth c g hS H locs cells slots ls Z hH hl kk => ?_) kk
  exact lv_if_lt hS.1 hS.2.1 d ht (fun _ => kk ls hl) (fun q => absurd h q)
theorem X.if_lt_f {k : xk} {sc : xsc} {pc : Nat} {lv : Nat → Option Value} {st : List Value} {μ : xM} {Q : Option Value → xM → Prop} {x : Int32} {off : Int} {tgt : Nat} (d : decode k.2.1 pc = .ok (.ifCond .lt off, 3)) (ht : (pc : Int) + off = (tgt : Int)) (h : ¬ (x < 0)) (kk : X k sc (pc + 3) lv st μ Q) : X k sc pc lv (.int x :: st) μ Q := by
  refine X.pure (fun p l e R s m args below meth c g hS H locs cells slots ls Z hH hl kk => ?_) kk
  exact lv_if_lt hS.1 hS.2.1 d ht (fun q => absurd q h) (fun _ => kk ls hl)
theorem X.if_lt {k : xk} {sc : xsc} {pc : Nat} {lv : Nat → Option Value} {st : List Value} {μ : xM} {Q : Option Value → xM → Prop} {x : Int32} {off : Int} {tgt : Nat} (d : decode k.2.1 pc = .ok (.ifCond .lt off, 3)) (ht : (pc : Int) + off = (tgt : Int)) (kt : (x < 0) → X k sc tgt lv st μ Q) (kf : ¬ (x < 0) → X k sc (pc + 3) lv st μ Q) : X k sc pc lv (.int x :: st) μ Q := by
  by_cases h : (x < 0)
  · exact X.if_lt_t d ht h (kt h)
  · exact X.if_lt_f d ht h (kf h)
theorem X.icmp_lt_t {k : xk} {sc : xsc} {pc : Nat} {lv : Nat → Option Value} {st : List Value} {μ : xM} {Q : Option Value → xM → Prop} {x y : Int32} {off : Int} {tgt : Nat} (d : decode k.2.1 pc = .ok (.if_icmp .lt off, 3)) (ht : (pc : Int) + off = (tgt : Int)) (h : (x < y)) (kk : X k sc (tgt) lv st μ Q) : X k sc pc lv (.int y :: .int x :: st) μ Q := by
  refine X.pure (fun p l e R s m args below meth c g hS H locs cells slots ls Z hH hl kk => ?_) kk
  exact lv_icmp_lt hS.1 hS.2.1 d ht (fun _ => kk ls hl) (fun q => absurd h q)
theorem X.icmp_lt_f {k : xk} {sc : xsc} {pc : Nat} {lv : Nat → Option Value} {st : List Value} {μ : xM} {Q : Option Value → xM → Prop} {x y : Int32} {off : Int} {tgt : Nat} (d : decode k.2.1 pc = .ok (.if_icmp .lt off, 3)) (ht : (pc : Int) + off = (tgt : Int)) (h : ¬ (x < y)) (kk : X k sc (pc + 3) lv st μ Q) : X k sc pc lv (.int y :: .int x :: st) μ Q := by
  refine X.pure (fun p l e R s m args below meth c g hS H locs cells slots ls Z hH hl kk => ?_) kk
  exact lv_icmp_lt hS.1 hS.2.1 d ht (fun q => absurd q h) (fun _ => kk ls hl)
theorem X.icmp_lt {k : xk} {sc : xsc} {pc : Nat} {lv : Nat → Option Value} {st : List Value} {μ : xM} {Q : Option Value → xM → Prop} {x y : Int32} {off : Int} {tgt : Nat} (d : decode k.2.1 pc = .ok (.if_icmp .lt off, 3)) (ht : (pc : Int) + off = (tgt : Int)) (kt : (x < y) → X k sc tgt lv st μ Q) (kf : ¬ (x < y) → X k sc (pc + 3) lv st μ Q) : X k sc pc lv (.int y :: .int x :: st) μ Q := by
  by_cases h : (x < y)
  · exact X.icmp_lt_t d ht h (kt h)
  · exact X.icmp_lt_f d ht h (kf h)
theorem X.if_ge_t {k : xk} {sc : xsc} {pc : Nat} {lv : Nat → Option Value} {st : List Value} {μ : xM} {Q : Option Value → xM → Prop} {x : Int32} {off : Int} {tgt : Nat} (d : decode k.2.1 pc = .ok (.ifCond .ge off, 3)) (ht : (pc : Int) + off = (tgt : Int)) (h : (0 ≤ x)) (kk : X k sc (tgt) lv st μ Q) : X k sc pc lv (.int x :: st) μ Q := by
  refine X.pure (fun p l e R s m args below meth c g hS H locs cells slots ls Z hH hl kk => ?_) kk
  exact lv_if_ge hS.1 hS.2.1 d ht (fun _ => kk ls hl) (fun q => absurd h q)
theorem X.if_ge_f {k : xk} {sc : xsc} {pc : Nat} {lv : Nat → Option Value} {st : List Value} {μ : xM} {Q : Option Value → xM → Prop} {x : Int32} {off : Int} {tgt : Nat} (d : decode k.2.1 pc = .ok (.ifCond .ge off, 3)) (ht : (pc : Int) + off = (tgt : Int)) (h : ¬ (0 ≤ x)) (kk : X k sc (pc + 3) lv st μ Q) : X k sc pc lv (.int x :: st) μ Q := by
  refine X.pure (fun p l e R s m args below meth c g hS H locs cells slots ls Z hH hl kk => ?_) kk
  exact lv_if_ge hS.1 hS.2.1 d ht (fun q => absurd q h) (fun _ => kk ls hl)
theorem X.if_ge {k : xk} {sc : xsc} {pc : Nat} {lv : Nat → Option Value} {st : List Value} {μ : xM} {Q : Option Value → xM → Prop} {x : Int32} {off : Int} {tgt : Nat} (d : decode k.2.1 pc = .ok (.ifCond .ge off, 3)) (ht : (pc : Int) + off = (tgt : Int)) (kt : (0 ≤ x) → X k sc tgt lv st μ Q) (kf : ¬ (0 ≤ x) → X k sc (pc + 3) lv st μ Q) : X k sc pc lv (.int x :: st) μ Q := by
  by_cases h : (0 ≤ x)
  · exact X.if_ge_t d ht h (kt h)
  · exact X.if_ge_f d ht h (kf h)
theorem X.icmp_ge_t {k : xk} {sc : xsc} {pc : Nat} {lv : Nat → Option Value} {st : List Value} {μ : xM} {Q : Option Value → xM → Prop} {x y : Int32} {off : Int} {tgt : Nat} (d : decode k.2.1 pc = .ok (.if_icmp .ge off, 3)) (ht : (pc : Int) + off = (tgt : Int)) (h : (y ≤ x)) (kk : X k sc (tgt) lv st μ Q) : X k sc pc lv (.int y :: .int x :: st) μ Q := by
  refine X.pure (fun p l e R s m args below meth c g hS H locs cells slots ls Z hH hl kk => ?_) kk
  exact lv_icmp_ge hS.1 hS.2.1 d ht (fun _ => kk ls hl) (fun q => absurd h q)
theorem X.icmp_ge_f {k : xk} {sc : xsc} {pc : Nat} {lv : Nat → Option Value} {st : List Value} {μ : xM} {Q : Option Value → xM → Prop} {x y : Int32} {off : Int} {tgt : Nat} (d : decode k.2.1 pc = .ok (.if_icmp .ge off, 3)) (ht : (pc : Int) + off = (tgt : Int)) (h : ¬ (y ≤ x)) (kk : X k sc (pc + 3) lv st μ Q) : X k sc pc lv (.int y :: .int x :: st) μ Q := by
  refine X.pure (fun p l e R s m args below meth c g hS H locs cells slots ls Z hH hl kk => ?_) kk
  exact lv_icmp_ge hS.1 hS.2.1 d ht (fun q => absurd q h) (fun _ => kk ls hl)
theorem X.icmp_ge {k : xk} {sc : xsc} {pc : Nat} {lv : Nat → Option Value} {st : List Value} {μ : xM} {Q : Option Value → xM → Prop} {x y : Int32} {off : Int} {tgt : Nat} (d : decode k.2.1 pc = .ok (.if_icmp .ge off, 3)) (ht : (pc : Int) + off = (tgt : Int)) (kt : (y ≤ x) → X k sc tgt lv st μ Q) (kf : ¬ (y ≤ x) → X k sc (pc + 3) lv st μ Q) : X k sc pc lv (.int y :: .int x :: st) μ Q := by
  by_cases h : (y ≤ x)
  · exact X.icmp_ge_t d ht h (kt h)
  · exact X.icmp_ge_f d ht h (kf h)
theorem X.if_gt_t {k : xk} {sc : xsc} {pc : Nat} {lv : Nat → Option Value} {st : List Value} {μ : xM} {Q : Option Value → xM → Prop} {x : Int32} {off : Int} {tgt : Nat} (d : decode k.2.1 pc = .ok (.ifCond .gt off, 3)) (ht : (pc : Int) + off = (tgt : Int)) (h : (0 < x)) (kk : X k sc (tgt) lv st μ Q) : X k sc pc lv (.int x :: st) μ Q := by
  refine X.pure (fun p l e R s m args below meth c g hS H locs cells slots ls Z hH hl kk => ?_) kk
  exact lv_if_gt hS.1 hS.2.1 d ht (fun _ => kk ls hl) (fun q => absurd h q)
theorem X.if_gt_f {k : xk} {sc : xsc} {pc : Nat} {lv : Nat → Option Value} {st : List Value} {μ : xM} {Q : Option Value → xM → Prop} {x : Int32} {off : Int} {tgt : Nat} (d : decode k.2.1 pc = .ok (.ifCond .gt off, 3)) (ht : (pc : Int) + off = (tgt : Int)) (h : ¬ (0 < x)) (kk : X k sc (pc + 3) lv st μ Q) : X k sc pc lv (.int x :: st) μ Q := by
  refine X.pure (fun p l e R s m args below meth c g hS H locs cells slots ls Z hH hl kk => ?_) kk
  exact lv_if_gt hS.1 hS.2.1 d ht (fun q => absurd q h) (fun _ => kk ls hl)
theorem X.if_gt {k : xk} {sc : xsc} {pc : Nat} {lv : Nat → Option Value} {st : List Value} {μ : xM} {Q : Option Value → xM → Prop} {x : Int32} {off : Int} {tgt : Nat} (d : decode k.2.1 pc = .ok (.ifCond .gt off, 3)) (ht : (pc : Int) + off = (tgt : Int)) (kt : (0 < x) → X k sc tgt lv st μ Q) (kf : ¬ (0 < x) → X k sc (pc + 3) lv st μ Q) : X k sc pc lv (.int x :: st) μ Q := by
  by_cases h : (0 < x)
  · exact X.if_gt_t d ht h (kt h)
  · exact X.if_gt_f d ht h (kf h)
theorem X.icmp_gt_t {k : xk} {sc : xsc} {pc : Nat} {lv : Nat → Option Value} {st : List Value} {μ : xM} {Q : Option Value → xM → Prop} {x y : Int32} {off : Int} {tgt : Nat} (d : decode k.2.1 pc = .ok (.if_icmp .gt off, 3)) (ht : (pc : Int) + off = (tgt : Int)) (h : (y < x)) (kk : X k sc (tgt) lv st μ Q) : X k sc pc lv (.int y :: .int x :: st) μ Q := by
  refine X.pure (fun p l e R s m args below meth c g hS H locs cells slots ls Z hH hl kk => ?_) kk
  exact lv_icmp_gt hS.1 hS.2.1 d ht (fun _ => kk ls hl) (fun q => absurd h q)
theorem X.icmp_gt_f {k : xk} {sc : xsc} {pc : Nat} {lv : Nat → Option Value} {st : List Value} {μ : xM} {Q : Option Value → xM → Prop} {x y : Int32} {off : Int} {tgt : Nat} (d : decode k.2.1 pc = .ok (.if_icmp .gt off, 3)) (ht : (pc : Int) + off = (tgt : Int)) (h : ¬ (y < x)) (kk : X k sc (pc + 3) lv st μ Q) : X k sc pc lv (.int y :: .int x :: st) μ Q := by
  refine X.pure (fun p l e R s m args below meth c g hS H locs cells slots ls Z hH hl kk => ?_) kk
  exact lv_icmp_gt hS.1 hS.2.1 d ht (fun q => absurd q h) (fun _ => kk ls hl)
theorem X.icmp_gt {k : xk} {sc : xsc} {pc : Nat} {lv : Nat → Option Value} {st : List Value} {μ : xM} {Q : Option Value → xM → Prop} {x y : Int32} {off : Int} {tgt : Nat} (d : decode k.2.1 pc = .ok (.if_icmp .gt off, 3)) (ht : (pc : Int) + off = (tgt : Int)) (kt : (y < x) → X k sc tgt lv st μ Q) (kf : ¬ (y < x) → X k sc (pc + 3) lv st μ Q) : X k sc pc lv (.int y :: .int x :: st) μ Q := by
  by_cases h : (y < x)
  · exact X.icmp_gt_t d ht h (kt h)
  · exact X.icmp_gt_f d ht h (kf h)
theorem X.if_le_t {k : xk} {sc : xsc} {pc : Nat} {lv : Nat → Option Value} {st : List Value} {μ : xM} {Q : Option Value → xM → Prop} {x : Int32} {off : Int} {tgt : Nat} (d : decode k.2.1 pc = .ok (.ifCond .le off, 3)) (ht : (pc : Int) + off = (tgt : Int)) (h : (x ≤ 0)) (kk : X k sc (tgt) lv st μ Q) : X k sc pc lv (.int x :: st) μ Q := by
  refine X.pure (fun p l e R s m args below meth c g hS H locs cells slots ls Z hH hl kk => ?_) kk
  exact lv_if_le hS.1 hS.2.1 d ht (fun _ => kk ls hl) (fun q => absurd h q)
theorem X.if_le_f {k : xk} {sc : xsc} {pc : Nat} {lv : Nat → Option Value} {st : List Value} {μ : xM} {Q : Option Value → xM → Prop} {x : Int32} {off : Int} {tgt : Nat} (d : decode k.2.1 pc = .ok (.ifCond .le off, 3)) (ht : (pc : Int) + off = (tgt : Int)) (h : ¬ (x ≤ 0)) (kk : X k sc (pc + 3) lv st μ Q) : X k sc pc lv (.int x :: st) μ Q := by
  refine X.pure (fun p l e R s m args below meth c g hS H locs cells slots ls Z hH hl kk => ?_) kk
  exact lv_if_le hS.1 hS.2.1 d ht (fun q => absurd q h) (fun _ => kk ls hl)
theorem X.if_le {k : xk} {sc : xsc} {pc : Nat} {lv : Nat → Option Value} {st : List Value} {μ : xM} {Q : Option Value → xM → Prop} {x : Int32} {off : Int} {tgt : Nat} (d : decode k.2.1 pc = .ok (.ifCond .le off, 3)) (ht : (pc : Int) + off = (tgt : Int)) (kt : (x ≤ 0) → X k sc tgt lv st μ Q) (kf : ¬ (x ≤ 0) → X k sc (pc + 3) lv st μ Q) : X k sc pc lv (.int x :: st) μ Q := by
  by_cases h : (x ≤ 0)
  · exact X.if_le_t d ht h (kt h)
  · exact X.if_le_f d ht h (kf h)
theorem X.icmp_le_t {k : xk} {sc : xsc} {pc : Nat} {lv : Nat → Option Value} {st : List Value} {μ : xM} {Q : Option Value → xM → Prop} {x y : Int32} {off : Int} {tgt : Nat} (d : decode k.2.1 pc = .ok (.if_icmp .le off, 3)) (ht : (pc : Int) + off = (tgt : Int)) (h : (x ≤ y)) (kk : X k sc (tgt) lv st μ Q) : X k sc pc lv (.int y :: .int x :: st) μ Q := by
  refine X.pure (fun p l e R s m args below meth c g hS H locs cells slots ls Z hH hl kk => ?_) kk
  exact lv_icmp_le hS.1 hS.2.1 d ht (fun _ => kk ls hl) (fun q => absurd h q)
theorem X.icmp_le_f {k : xk} {sc : xsc} {pc : Nat} {lv : Nat → Option Value} {st : List Value} {μ : xM} {Q : Option Value → xM → Prop} {x y : Int32} {off : Int} {tgt : Nat} (d : decode k.2.1 pc = .ok (.if_icmp .le off, 3)) (ht : (pc : Int) + off = (tgt : Int)) (h : ¬ (x ≤ y)) (kk : X k sc (pc + 3) lv st μ Q) : X k sc pc lv (.int y :: .int x :: st) μ Q := by
  refine X.pure (fun p l e R s m args below meth c g hS H locs cells slots ls Z hH hl kk => ?_) kk
  exact lv_icmp_le hS.1 hS.2.1 d ht (fun q => absurd q h) (fun _ => kk ls hl)
theorem X.icmp_le {k : xk} {sc : xsc} {pc : Nat} {lv : Nat → Option Value} {st : List Value} {μ : xM} {Q : Option Value → xM → Prop} {x y : Int32} {off : Int} {tgt : Nat} (d : decode k.2.1 pc = .ok (.if_icmp .le off, 3)) (ht : (pc : Int) + off = (tgt : Int)) (kt : (x ≤ y) → X k sc tgt lv st μ Q) (kf : ¬ (x ≤ y) → X k sc (pc + 3) lv st μ Q) : X k sc pc lv (.int y :: .int x :: st) μ Q := by
  by_cases h : (x ≤ y)
  · exact X.icmp_le_t d ht h (kt h)
  · exact X.icmp_le_f d ht h (kf h)
theorem X.ifnull_r {k : xk} {sc : xsc} {pc : Nat} {lv : Nat → Option Value} {st : List Value} {μ : xM} {Q : Option Value → xM → Prop} {a : Nat} {off : Int} (d : decode k.2.1 pc = .ok (.ifnull off, 3)) (kk : X k sc (pc + 3) lv st μ Q) : X k sc pc lv (.ref a :: st) μ Q := by
  refine X.pure (fun p l e R s m args below meth c g hS H locs cells slots ls Z hH hl kk => ?_) kk
  exact lv_ifnull hS.1 hS.2.1 d (kk ls hl)
theorem X.ifnull_n {k : xk} {sc : xsc} {pc : Nat} {lv : Nat → Option Value} {st : List Value} {μ : xM} {Q : Option Value → xM → Prop} {off : Int} {tgt : Nat} (d : decode k.2.1 pc = .ok (.ifnull off, 3)) (ht : (pc : Int) + off = (tgt : Int)) (kk : X k sc (tgt) lv st μ Q) : X k sc pc lv (.null :: st) μ Q := by
  refine X.pure (fun p l e R s m args below meth c g hS H locs cells slots ls Z hH hl kk => ?_) kk
  exact lv_ifnullN hS.1 hS.2.1 d ht (kk ls hl)
theorem X.ifnonnull_r {k : xk} {sc : xsc} {pc : Nat} {lv : Nat → Option Value} {st : List Value} {μ : xM} {Q : Option Value → xM → Prop} {a : Nat} {off : Int} {tgt : Nat} (d : decode k.2.1 pc = .ok (.ifnonnull off, 3)) (ht : (pc : Int) + off = (tgt : Int)) (kk : X k sc (tgt) lv st μ Q) : X k sc pc lv (.ref a :: st) μ Q := by
  refine X.pure (fun p l e R s m args below meth c g hS H locs cells slots ls Z hH hl kk => ?_) kk
  exact lv_ifnonnull hS.1 hS.2.1 d ht (kk ls hl)
theorem X.ifnonnull_n {k : xk} {sc : xsc} {pc : Nat} {lv : Nat → Option Value} {st : List Value} {μ : xM} {Q : Option Value → xM → Prop} {off : Int} (d : decode k.2.1 pc = .ok (.ifnonnull off, 3)) (kk : X k sc (pc + 3) lv st μ Q) : X k sc pc lv (.null :: st) μ Q := by
  refine X.pure (fun p l e R s m args below meth c g hS H locs cells slots ls Z hH hl kk => ?_) kk
  exact lv_ifnonnullN hS.1 hS.2.1 d (kk ls hl)
theorem X.tabOut {k : xk} {sc : xsc} {pc : Nat} {lv : Nat → Option Value} {st : List Value} {μ : xM} {Q : Option Value → xM → Prop} {dflt lo hi : Int} {offs : Array Int} {len : Nat} {x : Int32} {tgt : Nat} (d : decode k.2.1 pc = .ok (.tableswitch dflt lo hi offs, len)) (h : x.toInt < lo ∨ hi < x.toInt) (ht : (pc : Int) + dflt = (tgt : Int)) (kk : X k sc (tgt) lv st μ Q) : X k sc pc lv (.int x :: st) μ Q := by
  refine X.pure (fun p l e R s m args below meth c g hS H locs cells slots ls Z hH hl kk => ?_) kk
  exact lv_tableOut hS.1 hS.2.1 d h ht (kk ls hl)
theorem X.tabIn {k : xk} {sc : xsc} {pc : Nat} {lv : Nat → Option Value} {st : List Value} {μ : xM} {Q : Option Value → xM → Prop} {dflt lo hi : Int} {offs : Array Int} {len : Nat} {x : Int32} {off : Int} {tgt : Nat} (d : decode k.2.1 pc = .ok (.tableswitch dflt lo hi offs, len)) (h1 : ¬ x.toInt < lo) (h2 : ¬ hi < x.toInt) (ho : offs[(x.toInt - lo).toNat]? = some off) (ht : (pc : Int) + off = (tgt : Int)) (kk : X k sc (tgt) lv st μ Q) : X k sc pc lv (.int x :: st) μ Q := by
  refine X.pure (fun p l e R s m args below meth c g hS H locs cells slots ls Z hH hl kk => ?_) kk
  exact lv_tableIn hS.1 hS.2.1 d h1 h2 ho ht (kk ls hl)
end
section
/-! fields, arrays, calls -/
section XH
variable {k : xk} {sc : xsc} {pc : Nat} {lv : Nat → Option Value} {st : List Value} {μ : xM} {Q : Option Value → xM → Prop} {a c n kf idx : Nat}
theorem X.getI (d : decode k.2.1 pc = .ok (.getfield idx, 3)) (hT : mT μ a = (c, n)) (hc : c < 6) (hk : kf < xnf c) (hf : xft c kf = 0) (w : Cond.fieldLink k.1.cls idx (xT c kf).1 (xT c kf).2.1 (xT c kf).2.2.1 ∈ xtbl)
    (kk : X k sc (pc + 3) lv (.int (mI μ a kf) :: st) μ Q) : X k sc pc lv (.ref a :: st) μ Q := by
  refine X.pure (fun p l e R s m args below meth c0 g hS H locs cells slots ls Z hH hl kk => ?_) kk
  obtain ⟨hcl, hin, hty, hnm⟩ := xcl c hc
  exact va_get (D := g.1) (cl := vwCl) (tys := xtys g) (ws := [(xa g a, xe g μ a)]) hS.1 hS.2.1 hS.2.2.2.2.1 hin hS.2.2.2.1 hS.2.2.2.2.2.2.1.1 (hH.1.one (by rw [hT]; show c < 13; omega)) 0 (fs := (List.range (xnf c)).map (xfv g μ a c)) (by rw [xe_obj hT hc]; rfl) hcl kf hk (hS.2.2.2.2.1 _ w) (fun _ h9 => h9) (v := .int (mI μ a kf)) (by rw [xfv_get _ _ _ _ _ hk, xfv_I hf]) d (kk ls hl)
theorem X.getJ (d : decode k.2.1 pc = .ok (.getfield idx, 3)) (hT : mT μ a = (c, n)) (hc : c < 6) (hk : kf < xnf c) (hf : xft c kf = 1) (w : Cond.fieldLink k.1.cls idx (xT c kf).1 (xT c kf).2.1 (xT c kf).2.2.1 ∈ xtbl)
    (kk : X k sc (pc + 3) lv (.long (mJ μ a kf) :: st) μ Q) : X k sc pc lv (.ref a :: st) μ Q := by
  refine X.pure (fun p l e R s m args below meth c0 g hS H locs cells slots ls Z hH hl kk => ?_) kk
  obtain ⟨hcl, hin, hty, hnm⟩ := xcl c hc
  exact va_get (D := g.1) (cl := vwCl) (tys := xtys g) (ws := [(xa g a, xe g μ a)]) hS.1 hS.2.1 hS.2.2.2.2.1 hin hS.2.2.2.1 hS.2.2.2.2.2.2.1.1 (hH.1.one (by rw [hT]; show c < 13; omega)) 0 (fs := (List.range (xnf c)).map (xfv g μ a c)) (by rw [xe_obj hT hc]; rfl) hcl kf hk (hS.2.2.2.2.1 _ w) (fun _ h9 => h9) (v := .long (mJ μ a kf)) (by rw [xfv_get _ _ _ _ _ hk, xfv_J hf]) d (kk ls hl)
theorem X.getR {b : Nat} (d : decode k.2.1 pc = .ok (.getfield idx, 3)) (hT : mT μ a = (c, n)) (hc : c < 6) (hk : kf < xnf c) (hf : xft c kf = 2) (w : Cond.fieldLink k.1.cls idx (xT c kf).1 (xT c kf).2.1 (xT c kf).2.2.1 ∈ xtbl) (hr : mR μ a kf = some b)
    (kk : X k sc (pc + 3) lv (.ref b :: st) μ Q) : X k sc pc lv (.ref a :: st) μ Q := by
  refine X.pure (fun p l e R s m args below meth c0 g hS H locs cells slots ls Z hH hl kk => ?_) kk
  obtain ⟨hcl, hin, hty, hnm⟩ := xcl c hc
  exact va_get (D := g.1) (cl := vwCl) (tys := xtys g) (ws := [(xa g a, xe g μ a)]) hS.1 hS.2.1 hS.2.2.2.2.1 hin hS.2.2.2.1 hS.2.2.2.2.2.2.1.1 (hH.1.one (by rw [hT]; show c < 13; omega)) 0 (fs := (List.range (xnf c)).map (xfv g μ a c)) (by rw [xe_obj hT hc]; rfl) hcl kf hk (hS.2.2.2.2.1 _ w) (fun _ h9 => h9) (v := .ref (xa g b)) (by rw [xfv_get _ _ _ _ _ hk, xfv_R hf, hr]; rfl) d (kk ls hl)
theorem X.getN (d : decode k.2.1 pc = .ok (.getfield idx, 3)) (hT : mT μ a = (c, n)) (hc : c < 6) (hk : kf < xnf c) (hf : xft c kf = 2) (w : Cond.fieldLink k.1.cls idx (xT c kf).1 (xT c kf).2.1 (xT c kf).2.2.1 ∈ xtbl) (hr : mR μ a kf = none)
    (kk : X k sc (pc + 3) lv (.null :: st) μ Q) : X k sc pc lv (.ref a :: st) μ Q := by
  refine X.pure (fun p l e R s m args below meth c0 g hS H locs cells slots ls Z hH hl kk => ?_) kk
  obtain ⟨hcl, hin, hty, hnm⟩ := xcl c hc
  exact va_get (D := g.1) (cl := vwCl) (tys := xtys g) (ws := [(xa g a, xe g μ a)]) hS.1 hS.2.1 hS.2.2.2.2.1 hin hS.2.2.2.1 hS.2.2.2.2.2.2.1.1 (hH.1.one (by rw [hT]; show c < 13; omega)) 0 (fs := (List.range (xnf c)).map (xfv g μ a c)) (by rw [xe_obj hT hc]; rfl) hcl kf hk (hS.2.2.2.2.1 _ w) (fun _ h9 => h9) (v := .null) (by rw [xfv_get _ _ _ _ _ hk, xfv_R hf, hr]; rfl) d (kk ls hl)
/-- what a putfield may write -/
def xfin (k : xk) (c kf : Nat) : Prop := (xT c kf).2.2.2 = false ∨ ((xT c kf).2.2.2 = true ∧ k.1.name = "<init>" ∧ (xT c kf).1 = k.1.cls)
end XH
section XHW
variable {p : Program} {l : Launch} {e : Env} {R : Room} {s : State} {m : MethodId} {args : Array Value} {below : List Frame} {meth : Method} {c0 : Code} {H : Heap} {locs : List Loc} {cells slots : Nat} {Z : State → Prop}
variable {pc : Nat} {ls : Array Slot} {rest : List Value} {k : xk} {sc : xsc} {g : xg} {μ : xM} {a c n kf idx : Nat}
theorem xfr {H1 : Heap} (hH : xH g s μ H locs) (ha : 1 ≤ a) (oq : ∀ q : Nat, q ≠ xa g a → H1[q]? = H[q]?) : ∀ q : Nat, q < xbase g → H1[q]? = s.heap[q]? := by
  intro q hq
  have := xa_ge (g := g) ha
  rw [oq q (by omega)]
  exact hH.2.1 q hq
theorem xlc {i : Nat} (hH : xH g s μ H locs) (ha : 1 ≤ a) : ∀ q ∈ locs ++ [(⟨xa g a, i⟩ : Loc)], xbase g ≤ q.base := by
  intro q hq
  rcases List.mem_append.mp hq with h | h
  · exact hH.2.2 q h
  · rw [List.mem_singleton.mp h]
    exact xa_ge ha
theorem xput {v : Value} (hS : xS k sc g p R s m args meth c0) (hH : xH g s μ H locs) (d : decode k.2.1 pc = .ok (.putfield idx, 3)) (hT : mT μ a = (c, n)) (hc : c < 6) (hk : kf < xnf c) (hfin : xfin k c kf) (hn : narrow (xty c kf) v = v) (hfit : fits (xty c kf) v = true)
    (w : Cond.fieldLink k.1.cls idx (xT c kf).1 (xT c kf).2.1 (xT c kf).2.2.1 ∈ xtbl)
    (kk : ∀ (H1 : Heap) (locs1 : List Loc), H1.size = H.size → (∀ q : Nat, q ≠ xa g a → H1[q]? = H[q]?) → t_OB (xa g a) (g.1.1 c) (xnf c) (g.1.2 c) H1 (updV (xfv g μ a c) kf v) → (∀ q ∈ locs1, xbase g ≤ q.base) → (∀ q : Nat, q < xbase g → H1[q]? = s.heap[q]?) →
      W p l e R s m args below meth c0 H1 locs1 cells slots Z (F0 m (pc + 3) ls rest)) : W p l e R s m args below meth c0 H locs cells slots Z (F0 m pc ls (v :: .ref (xa g a) :: rest)) := by
  obtain ⟨hcl, hin, hty, hnm⟩ := xcl c hc
  have hK : va_K g.1 vwCl (xtys g) s := hS.2.2.2.2.2.2.1.1
  have hts := hS.2.2.2.2.1
  have hap := va_apart (own := k.1.cls) hts hin (xty c) hty hnm hK hcl
  have h13 : (mT μ a).1 < 13 := by rw [hT]; show c < 13; omega
  have hat := hH.1.at h13
  rw [xe_obj hT hc] at hat
  obtain ⟨r, h1, cell, q1, q2, q3, q4⟩ := hat
  have hr : r = (xC c, xT c, xnf c) := Option.some.inj (h1.symm.trans hcl)
  subst hr
  obtain ⟨hSl, hfc, kC, hkC, hkind⟩ := hK.1 c _ hcl
  obtain ⟨cf, kf', fi, f, hi, hsl⟩ := hSl kf hk
  have ha1 := (hH.1.2.2.1 a h13).1
  have hlay := hts _ (hin _ (u_in_lay hk))
  unfold u_lay at hlay
  have hst := (u_facts hfc hkC (u_lays hts hin hk) hi).1
  have hob : ∀ H' : Heap, H'[xa g a]? = some (cell.setSlot f.slot v) → t_OB (xa g a) (g.1.1 c) (xnf c) (g.1.2 c) H' (updV (xfv g μ a c) kf v) := by
    intro H' e1
    rw [hsl] at e1
    refine t_OB.to (V := updV (vp_V ((List.range (xnf c)).map (xfv g μ a c))) kf v) ⟨_, e1, q2, q3, t_set q4 hap hk v⟩ (fun j hj => ?_)
    unfold updV
    by_cases e : j = kf
    · rw [if_pos e, if_pos e]
    · rw [if_neg e, if_neg e]
      unfold vp_V
      rw [List.getD_eq_getElem?_getD, xfv_get _ _ _ _ _ hj]
      rfl
  rcases hfin with hf | ⟨hf, hini, hdecl⟩
  · rw [if_neg (by rw [hf]; decide)] at hlay
    have h6 := u_store hfc hkC hkind hlay hi (hty kf hk) hn hfit
    exact W.putK hS.1 hS.2.1 (f := f) ⟨hS.2.2.2.1, hts _ w, ⟨_, _, _, hi⟩, hst⟩ (by rw [q2]; exact h6) q1 q3 (by rw [hsl]; exact k2_hasslot (q4 kf hk)) rfl rfl d fun H' e1 e2 e3 => kk H' _ e2 e3 (hob H' e1) (xlc hH ha1) (xfr hH ha1 e3)
  · rw [if_pos hf] at hlay
    have hcf : m.cls = cf := by
      obtain ⟨_, _, c', _, _, _, -, -, hf', -, -, -, hown2, -⟩ := Cond.laysFinal_spec hlay
      have e1 : c' = cf := by have := hi.symm.trans hf'; simp at this; exact this.1.symm
      rw [hdecl] at hown2
      rw [← e1]; exact Option.some.inj (hS.2.2.2.1.symm.trans hown2)
    have h6 := u_fits hfc hkC hkind (Or.inr hlay) hi (hty kf hk) hn hfit
    exact W.putFinK hS.1 hS.2.1 hS.2.2.2.1 (hts _ w) hi hst hcf (hS.2.2.2.2.2.1.trans hini) (by rw [q2]; exact h6) q1 q3 (by rw [hsl]; exact k2_hasslot (q4 kf hk)) rfl rfl d fun H' e1 e2 e3 => kk H' _ e2 e3 (hob H' e1) (xlc hH ha1) (xfr hH ha1 e3)
theorem xobj {μ1 : xM} {H1 : Heap} {kf : Nat} {v : Value} (hT : mT μ1 a = (c, n)) (hc : c < 6) (h : t_OB (xa g a) (g.1.1 c) (xnf c) (g.1.2 c) H1 (updV (xfv g μ a c) kf v)) (hv : ∀ j, xfv g μ1 a c j = updV (xfv g μ a c) kf v j) : va_at g.1 vwCl (xa g a, xe g μ1 a) H1 := by
  rw [xe_obj hT hc]
  refine ⟨_, (xcl c hc).1, h.to (fun j hj => ?_)⟩
  rw [← hv j]
  unfold vp_V
  rw [List.getD_eq_getElem?_getD, xfv_get _ _ _ _ _ hj]
  rfl
end XHW
section XH2
variable {k : xk} {sc : xsc} {pc : Nat} {lv : Nat → Option Value} {st : List Value} {μ : xM} {Q : Option Value → xM → Prop} {a c n kf idx : Nat}
theorem X.putI {x : Int32} (d : decode k.2.1 pc = .ok (.putfield idx, 3)) (hT : mT μ a = (c, n)) (hc : c < 6) (hk : kf < xnf c) (hf : xft c kf = 0) (hfin : xfin k c kf) (hn : narrow (xty c kf) (.int x) = .int x ∧ fits (xty c kf) (.int x) = true)
    (w : Cond.fieldLink k.1.cls idx (xT c kf).1 (xT c kf).2.1 (xT c kf).2.2.1 ∈ xtbl) (kk : X k sc (pc + 3) lv st (sI μ a kf x) Q) : X k sc pc lv (.int x :: .ref a :: st) μ Q := by
  refine X.stp (μ1 := sI μ a kf x) ⟨Nat.le_refl _, Nat.le_refl _⟩ (fun p l e R s m args below meth c0 g hS H locs cells slots ls Z hH hcl hsl hl kk => ?_) kk
  rw [mN_sI, mS_sI, Nat.sub_self, Nat.sub_self] at kk
  refine xput hS hH d hT hc hk hfin hn.1 hn.2 w (fun H1 locs1 e1 e2 e3 e4 e5 => kk H1 locs1 ls ⟨?_, e5, e4⟩ hl)
  exact hH.1.set (by rw [hT]; show c < 13; omega) rfl rfl e1 e2 (xobj (by rw [mT_sI]; exact hT) hc e3 (fun j => xfv_set_I hf j)) (fun b hb => xe_sI hb)
theorem X.putJ {x : Int64} (d : decode k.2.1 pc = .ok (.putfield idx, 3)) (hT : mT μ a = (c, n)) (hc : c < 6) (hk : kf < xnf c) (hf : xft c kf = 1) (hfin : xfin k c kf) (hn : narrow (xty c kf) (.long x) = .long x ∧ fits (xty c kf) (.long x) = true)
    (w : Cond.fieldLink k.1.cls idx (xT c kf).1 (xT c kf).2.1 (xT c kf).2.2.1 ∈ xtbl) (kk : X k sc (pc + 3) lv st (sJ μ a kf x) Q) : X k sc pc lv (.long x :: .ref a :: st) μ Q := by
  refine X.stp (μ1 := sJ μ a kf x) ⟨Nat.le_refl _, Nat.le_refl _⟩ (fun p l e R s m args below meth c0 g hS H locs cells slots ls Z hH hcl hsl hl kk => ?_) kk
  rw [mN_sJ, mS_sJ, Nat.sub_self, Nat.sub_self] at kk
  refine xput hS hH d hT hc hk hfin hn.1 hn.2 w (fun H1 locs1 e1 e2 e3 e4 e5 => kk H1 locs1 ls ⟨?_, e5, e4⟩ hl)
  exact hH.1.set (by rw [hT]; show c < 13; omega) rfl rfl e1 e2 (xobj (by rw [mT_sJ]; exact hT) hc e3 (fun j => xfv_set_J hf j)) (fun b hb => xe_sJ hb)
theorem X.putR {b : Nat} (d : decode k.2.1 pc = .ok (.putfield idx, 3)) (hT : mT μ a = (c, n)) (hc : c < 6) (hk : kf < xnf c) (hf : xft c kf = 2) (hfin : xfin k c kf) (hn : ∀ b : Nat, narrow (xty c kf) (.ref b) = .ref b ∧ fits (xty c kf) (.ref b) = true)
    (w : Cond.fieldLink k.1.cls idx (xT c kf).1 (xT c kf).2.1 (xT c kf).2.2.1 ∈ xtbl) (kk : X k sc (pc + 3) lv st (sR μ a kf (some b)) Q) : X k sc pc lv (.ref b :: .ref a :: st) μ Q := by
  refine X.stp (μ1 := sR μ a kf (some b)) ⟨Nat.le_refl _, Nat.le_refl _⟩ (fun p l e R s m args below meth c0 g hS H locs cells slots ls Z hH hcl hsl hl kk => ?_) kk
  rw [mN_sR, mS_sR, Nat.sub_self, Nat.sub_self] at kk
  refine xput (v := .ref (xa g b)) hS hH d hT hc hk hfin (hn _).1 (hn _).2 w (fun H1 locs1 e1 e2 e3 e4 e5 => kk H1 locs1 ls ⟨?_, e5, e4⟩ hl)
  exact hH.1.set (by rw [hT]; show c < 13; omega) rfl rfl e1 e2 (xobj (by rw [mT_sR]; exact hT) hc e3 (fun j => xfv_set_R hf j)) (fun b hb => xe_sR hb)
theorem X.putN (d : decode k.2.1 pc = .ok (.putfield idx, 3)) (hT : mT μ a = (c, n)) (hc : c < 6) (hk : kf < xnf c) (hf : xft c kf = 2) (hfin : xfin k c kf) (hn : narrow (xty c kf) .null = .null ∧ fits (xty c kf) .null = true)
    (w : Cond.fieldLink k.1.cls idx (xT c kf).1 (xT c kf).2.1 (xT c kf).2.2.1 ∈ xtbl) (kk : X k sc (pc + 3) lv st (sR μ a kf none) Q) : X k sc pc lv (.null :: .ref a :: st) μ Q := by
  refine X.stp (μ1 := sR μ a kf none) ⟨Nat.le_refl _, Nat.le_refl _⟩ (fun p l e R s m args below meth c0 g hS H locs cells slots ls Z hH hcl hsl hl kk => ?_) kk
  rw [mN_sR, mS_sR, Nat.sub_self, Nat.sub_self] at kk
  refine xput (v := .null) hS hH d hT hc hk hfin hn.1 hn.2 w (fun H1 locs1 e1 e2 e3 e4 e5 => kk H1 locs1 ls ⟨?_, e5, e4⟩ hl)
  exact hH.1.set (by rw [hT]; show c < 13; omega) rfl rfl e1 e2 (xobj (by rw [mT_sR]; exact hT) hc e3 (fun j => xfv_set_R hf j)) (fun b hb => xe_sR hb)
end XH2
end
section
/-! arrays; new cells -/
theorem xup_I (μ : xM) (a i : Nat) (x : Int32) : (fun j => Value.int (mI (sI μ a i x) a j)) = updV (fun j => .int (mI μ a j)) i (.int x) := by
  funext j
  unfold updV
  by_cases e : j = i
  · rw [if_pos e, e, mI_sI, up2_s]
  · rw [if_neg e, mI_sI, up2_k _ _ e]
theorem xup_J (μ : xM) (a i : Nat) (x : Int64) : (fun j => Value.long (mJ (sJ μ a i x) a j)) = updV (fun j => .long (mJ μ a j)) i (.long x) := by
  funext j
  unfold updV
  by_cases e : j = i
  · rw [if_pos e, e, mJ_sJ, up2_s]
  · rw [if_neg e, mJ_sJ, up2_k _ _ e]
theorem xup_R (g : xg) (μ : xM) (a i : Nat) (x : Option Nat) : (fun j => va_rf ((mR (sR μ a i x) a j).map (xa g))) = updV (fun j => va_rf ((mR μ a j).map (xa g))) i (va_rf (x.map (xa g))) := by
  funext j
  unfold updV
  by_cases e : j = i
  · rw [if_pos e, e, mR_sR, up2_s]
  · rw [if_neg e, mR_sR, up2_k _ _ e]
theorem xin_nI {i n : Nat} (hi : i < n) (hn : n < 2 ^ 31) : ¬ (nI i < 0 ∨ n ≤ (nI i).toNatClampNeg) := nI_in hi hn
section XA
variable {k : xk} {sc : xsc} {pc : Nat} {lv : Nat → Option Value} {st : List Value} {μ : xM} {Q : Option Value → xM → Prop} {a c n i : Nat} {j : Int32}
theorem X.iald (d : decode k.2.1 pc = .ok (.iaload, 1)) (hT : mT μ a = (6, n)) (hj : j = nI i) (hi : i < n) (hn : n < 2 ^ 31) (kk : X k sc (pc + 1) lv (.int (mI μ a i) :: st) μ Q) : X k sc pc lv (.int j :: .ref a :: st) μ Q := by
  subst hj
  refine X.pure (fun p l e R s m args below meth c0 g hS H locs cells slots ls Z hH hl kk => ?_) kk
  have h13 : (mT μ a).1 < 13 := by rw [hT]; show 6 < 13; omega
  have := va_iald (i := nI i) (a := xa g a) (rest := st.map (xv g)) (f := mI μ a) (n := n) hS.1 hS.2.1 hS.2.2.2.2.2.2.1.1 (hH.1.one h13) 0 0 (by rw [xe_int hT]; rfl) (xtys_at g 0 (by decide)) (vp_in_nI hi hn) d (by rw [nI_clamp (by omega)]; exact kk ls hl)
  exact this
theorem X.zald (d : decode k.2.1 pc = .ok (.baload, 1)) (hT : mT μ a = (8, n)) (hj : j = nI i) (hi : i < n) (hn : n < 2 ^ 31) (kk : X k sc (pc + 1) lv (.int (mI μ a i) :: st) μ Q) : X k sc pc lv (.int j :: .ref a :: st) μ Q := by
  subst hj
  refine X.pure (fun p l e R s m args below meth c0 g hS H locs cells slots ls Z hH hl kk => ?_) kk
  have h13 : (mT μ a).1 < 13 := by rw [hT]; show 8 < 13; omega
  have := va_zald (i := nI i) (a := xa g a) (rest := st.map (xv g)) (f := mI μ a) (n := n) hS.1 hS.2.1 hS.2.2.2.2.2.2.1.1 (hH.1.one h13) 0 2 (by rw [xe_bool hT]; rfl) (xtys_at g 2 (by decide)) (vp_in_nI hi hn) d (by rw [nI_clamp (by omega)]; exact kk ls hl)
  exact this
theorem X.lald (d : decode k.2.1 pc = .ok (.laload, 1)) (hT : mT μ a = (7, n)) (hj : j = nI i) (hi : i < n) (hn : n < 2 ^ 31) (kk : X k sc (pc + 1) lv (.long (mJ μ a i) :: st) μ Q) : X k sc pc lv (.int j :: .ref a :: st) μ Q := by
  subst hj
  refine X.pure (fun p l e R s m args below meth c0 g hS H locs cells slots ls Z hH hl kk => ?_) kk
  have h13 : (mT μ a).1 < 13 := by rw [hT]; show 7 < 13; omega
  have := va_lald (i := nI i) (a := xa g a) (rest := st.map (xv g)) (f := mJ μ a) (n := n) hS.1 hS.2.1 hS.2.2.2.2.2.2.1.1 (hH.1.one h13) 0 1 (by rw [xe_long hT]; rfl) (xtys_at g 1 (by decide)) (vp_in_nI hi hn) d (by rw [nI_clamp (by omega)]; exact kk ls hl)
  exact this
theorem xat_ref {c : Nat} (h9 : 9 ≤ c) (hc : c < 13) : (xat (c - 6)).isReference = true := by
  have : c = 9 ∨ c = 10 ∨ c = 11 ∨ c = 12 := by omega
  rcases this with rfl | rfl | rfl | rfl <;> rfl
theorem xaald {p : Program} {l : Launch} {e : Env} {R : Room} {s : State} {m : MethodId} {args : Array Value} {below : List Frame} {meth : Method} {c0 : Code} {H : Heap} {locs : List Loc} {cells slots : Nat} {Z : State → Prop} {ls : Array Slot} {rest : List Value} {g : xg}
    (hS : xS k sc g p R s m args meth c0) (hH : xH g s μ H locs) (d : decode k.2.1 pc = .ok (.aaload, 1)) (hT : mT μ a = (c, n)) (h9 : 9 ≤ c) (hc : c < 13) (hi : i < n) (hn : n < 2 ^ 31)
    (kk : W p l e R s m args below meth c0 H locs cells slots Z (F0 m (pc + 1) ls (va_rf ((mR μ a i).map (xa g)) :: rest))) : W p l e R s m args below meth c0 H locs cells slots Z (F0 m pc ls (.int (nI i) :: .ref (xa g a) :: rest)) := by
  have h13 : (mT μ a).1 < 13 := by rw [hT]; exact hc
  have hat := hH.1.at h13
  rw [xe_ref hT h9] at hat
  have hK := hS.2.2.2.2.2.2.1.1.2 (c - 6) _ (xtys_at g (c - 6) (by omega))
  refine W.aald (v := va_rf ((mR μ a i).map (xa g))) (ty := xat (c - 6)) hS.1 hS.2.1 hat (hK.1 n (fun j => va_rf ((mR μ a j).map (xa g)))) (xat_ref h9 hc) (fun q => by cases q) (by show ¬ (_ < 0 ∨ (arrV _ _ _).slots.size ≤ _); rw [arrV_size]; exact xin_nI hi hn) (by show (arrV _ _ _).slots[_]? = _; rw [nI_clamp (by omega), arrV_read _ _ hi]) rfl rfl d kk
theorem X.aald {b : Nat} (d : decode k.2.1 pc = .ok (.aaload, 1)) (hT : mT μ a = (c, n)) (h9 : 9 ≤ c ∧ c < 13) (hj : j = nI i) (hi : i < n) (hn : n < 2 ^ 31) (hr : mR μ a i = some b) (kk : X k sc (pc + 1) lv (.ref b :: st) μ Q) : X k sc pc lv (.int j :: .ref a :: st) μ Q := by
  subst hj
  refine X.pure (fun p l e R s m args below meth c0 g hS H locs cells slots ls Z hH hl kk => ?_) kk
  refine xaald hS hH d hT h9.1 h9.2 hi hn ?_
  rw [hr]
  exact kk ls hl
theorem X.aaldN (d : decode k.2.1 pc = .ok (.aaload, 1)) (hT : mT μ a = (c, n)) (h9 : 9 ≤ c ∧ c < 13) (hj : j = nI i) (hi : i < n) (hn : n < 2 ^ 31) (hr : mR μ a i = none) (kk : X k sc (pc + 1) lv (.null :: st) μ Q) : X k sc pc lv (.int j :: .ref a :: st) μ Q := by
  subst hj
  refine X.pure (fun p l e R s m args below meth c0 g hS H locs cells slots ls Z hH hl kk => ?_) kk
  refine xaald hS hH d hT h9.1 h9.2 hi hn ?_
  rw [hr]
  exact kk ls hl
theorem X.iast {x : Int32} (d : decode k.2.1 pc = .ok (.iastore, 1)) (hT : mT μ a = (6, n)) (hj : j = nI i) (hi : i < n) (hn : n < 2 ^ 31) (kk : X k sc (pc + 1) lv st (sI μ a i x) Q) : X k sc pc lv (.int x :: .int j :: .ref a :: st) μ Q := by
  subst hj
  refine X.stp (μ1 := sI μ a i x) ⟨Nat.le_refl _, Nat.le_refl _⟩ (fun p l e R s m args below meth c0 g hS H locs cells slots ls Z hH hcl hsl hl kk => ?_) kk
  rw [mN_sI, mS_sI, Nat.sub_self, Nat.sub_self] at kk
  have h13 : (mT μ a).1 < 13 := by rw [hT]; show 6 < 13; omega
  have ha1 := (hH.1.2.2.1 a h13).1
  have hat := hH.1.at h13
  rw [xe_int hT] at hat
  have hK := hS.2.2.2.2.2.2.1.1.2 0 _ (xtys_at g 0 (by decide))
  refine W.iast hS.1 hS.2.1 hat (hK.1 n (fun j => .int (mI μ a j))) (fun q => by cases q) (by show ¬ (_ < 0 ∨ (arrV _ _ _).slots.size ≤ _); rw [arrV_size]; exact xin_nI hi hn) rfl rfl d fun H1 e1 e2 e3 => kk H1 _ ls ⟨?_, xfr hH ha1 e3, xlc hH ha1⟩ hl
  refine hH.1.set h13 rfl rfl e2 e3 ?_ (fun b hb => xe_sI hb)
  rw [xe_int (n := n) (by rw [mT_sI]; exact hT)]
  show H1[xa g a]? = some (vp_cell _ _)
  rw [e1, vp_cell_i, vp_cell_i, arrV_store, nI_clamp (by omega), xup_I]
theorem X.zast {x : Int32} (d : decode k.2.1 pc = .ok (.bastore, 1)) (hT : mT μ a = (8, n)) (hj : j = nI i) (hi : i < n) (hn : n < 2 ^ 31) (hx : x = 0 ∨ x = 1) (kk : X k sc (pc + 1) lv st (sI μ a i x) Q) : X k sc pc lv (.int x :: .int j :: .ref a :: st) μ Q := by
  subst hj
  refine X.stp (μ1 := sI μ a i x) ⟨Nat.le_refl _, Nat.le_refl _⟩ (fun p l e R s m args below meth c0 g hS H locs cells slots ls Z hH hcl hsl hl kk => ?_) kk
  rw [mN_sI, mS_sI, Nat.sub_self, Nat.sub_self] at kk
  have h13 : (mT μ a).1 < 13 := by rw [hT]; show 8 < 13; omega
  have ha1 := (hH.1.2.2.1 a h13).1
  have hat := hH.1.at h13
  rw [xe_bool hT] at hat
  have hK := hS.2.2.2.2.2.2.1.1.2 2 _ (xtys_at g 2 (by decide))
  have hnx : narrow .boolean (.int x) = .int x := by rcases hx with rfl | rfl <;> rfl
  refine W.zast hS.1 hS.2.1 hat (hK.1 n (fun j => .int (mI μ a j))) (fun q => by cases q) (by show ¬ (_ < 0 ∨ (arrV _ _ _).slots.size ≤ _); rw [arrV_size]; exact xin_nI hi hn) rfl rfl d fun H1 e1 e2 e3 => kk H1 _ ls ⟨?_, xfr hH ha1 e3, xlc hH ha1⟩ hl
  refine hH.1.set h13 rfl rfl e2 e3 ?_ (fun b hb => xe_sI hb)
  rw [xe_bool (n := n) (by rw [mT_sI]; exact hT)]
  show H1[xa g a]? = some (vp_cell _ _)
  rw [e1, hnx, vp_cell_i, vp_cell_i, arrV_store, nI_clamp (by omega), xup_I]
theorem X.last {x : Int64} (d : decode k.2.1 pc = .ok (.lastore, 1)) (hT : mT μ a = (7, n)) (hj : j = nI i) (hi : i < n) (hn : n < 2 ^ 31) (kk : X k sc (pc + 1) lv st (sJ μ a i x) Q) : X k sc pc lv (.long x :: .int j :: .ref a :: st) μ Q := by
  subst hj
  refine X.stp (μ1 := sJ μ a i x) ⟨Nat.le_refl _, Nat.le_refl _⟩ (fun p l e R s m args below meth c0 g hS H locs cells slots ls Z hH hcl hsl hl kk => ?_) kk
  rw [mN_sJ, mS_sJ, Nat.sub_self, Nat.sub_self] at kk
  have h13 : (mT μ a).1 < 13 := by rw [hT]; show 7 < 13; omega
  have ha1 := (hH.1.2.2.1 a h13).1
  have hat := hH.1.at h13
  rw [xe_long hT] at hat
  have hK := hS.2.2.2.2.2.2.1.1.2 1 _ (xtys_at g 1 (by decide))
  refine W.last hS.1 hS.2.1 hat (hK.1 n (fun j => .long (mJ μ a j))) (fun q => by cases q) (by show ¬ (_ < 0 ∨ (arrV _ _ _).slots.size ≤ _); rw [arrV_size]; exact xin_nI hi hn) rfl rfl d fun H1 e1 e2 e3 => kk H1 _ ls ⟨?_, xfr hH ha1 e3, xlc hH ha1⟩ hl
  refine hH.1.set h13 rfl rfl e2 e3 ?_ (fun b hb => xe_sJ hb)
  rw [xe_long (n := n) (by rw [mT_sJ]; exact hT)]
  show H1[xa g a]? = some (vp_cell _ _)
  rw [e1, vp_cell_l, vp_cell_l, arrV_store, nI_clamp (by omega), xup_J]
/-- the class that an array of references holds -/
def xac : Nat → Nat := fun c => match c with
  | 9 => 0
  | 10 => 2
  | _ => 3
theorem xac_ok {c : Nat} (h9 : 9 ≤ c) (hc : c < 12) : xat (c - 6) = .object (xC (xac c)) ∧ xac c < 6 := by
  have : c = 9 ∨ c = 10 ∨ c = 11 := by omega
  rcases this with rfl | rfl | rfl <;> exact ⟨rfl, by decide⟩
theorem X.aast {b nb : Nat} (d : decode k.2.1 pc = .ok (.aastore, 1)) (hT : mT μ a = (c, n)) (h9 : 9 ≤ c ∧ c < 12) (hb : mT μ b = (xac c, nb)) (hj : j = nI i) (hi : i < n) (hn : n < 2 ^ 31) (kk : X k sc (pc + 1) lv st (sR μ a i (some b)) Q) : X k sc pc lv (.ref b :: .int j :: .ref a :: st) μ Q := by
  subst hj
  refine X.stp (μ1 := sR μ a i (some b)) ⟨Nat.le_refl _, Nat.le_refl _⟩ (fun p l e R s m args below meth c0 g hS H locs cells slots ls Z hH hcl hsl hl kk => ?_) kk
  rw [mN_sR, mS_sR, Nat.sub_self, Nat.sub_self] at kk
  have h13 : (mT μ a).1 < 13 := by rw [hT]; show c < 13; omega
  have ha1 := (hH.1.2.2.1 a h13).1
  have hat := hH.1.at h13
  rw [xe_ref hT h9.1] at hat
  obtain ⟨hx1, hx2⟩ := xac_ok h9.1 h9.2
  have hbt := hH.1.at (a := b) (by rw [hb]; show xac c < 13; omega)
  rw [xe_obj hb hx2] at hbt
  obtain ⟨r, hr, cellV, g1, g2, g3, -⟩ := hbt
  have hK0 := hS.2.2.2.2.2.2.1.1
  obtain ⟨hcx, -⟩ := xcl (xac c) hx2
  have hcls := (hK0.1 (xac c) _ hcx).2
  have hK := hK0.2 (c - 6) _ (xtys_at g (c - 6) (by omega))
  obtain ⟨hK1, hK2⟩ := hK
  dsimp only at hK2
  rw [hx1] at hK2
  obtain ⟨kA, comp, k1, k2, k3, -⟩ := hK2
  have hcomp : comp = g.1.1 (xac c) := Option.some.inj (k3.symm.trans hcls.1)
  subst hcomp
  obtain ⟨kC, hkC, -⟩ := hcls.2
  refine W.aast hS.1 hS.2.1 hat (fun q h => by cases h) (fun h => by cases h) k1 k2 rfl hkC ⟨fun q => xin_nI hi hn (Or.inl q), by show _ < (arrV _ _ _).slots.size; rw [arrV_size, nI_clamp (by omega)]; exact hi⟩ g1 (fun q h => by rw [g3] at h; cases h) (by rw [g2]; exact hkC) (by rw [g2]; exact va_assign hcls) rfl rfl d fun H1 e1 e2 e3 => kk H1 _ ls ⟨?_, xfr hH ha1 e3, xlc hH ha1⟩ hl
  refine hH.1.set h13 rfl rfl e2 e3 ?_ (fun b hb => xe_sR hb)
  rw [xe_ref (c := c) (n := n) (by rw [mT_sR]; exact hT) h9.1]
  show H1[xa g a]? = some (vp_cell _ _)
  rw [e1, vp_cell_q, vp_cell_q, arrV_store, nI_clamp (by omega), xup_R]
  rfl
theorem X.aastN (d : decode k.2.1 pc = .ok (.aastore, 1)) (hT : mT μ a = (c, n)) (h9 : 9 ≤ c ∧ c < 12) (hj : j = nI i) (hi : i < n) (hn : n < 2 ^ 31) (kk : X k sc (pc + 1) lv st (sR μ a i none) Q) : X k sc pc lv (.null :: .int j :: .ref a :: st) μ Q := by
  subst hj
  refine X.stp (μ1 := sR μ a i none) ⟨Nat.le_refl _, Nat.le_refl _⟩ (fun p l e R s m args below meth c0 g hS H locs cells slots ls Z hH hcl hsl hl kk => ?_) kk
  rw [mN_sR, mS_sR, Nat.sub_self, Nat.sub_self] at kk
  have h13 : (mT μ a).1 < 13 := by rw [hT]; show c < 13; omega
  have ha1 := (hH.1.2.2.1 a h13).1
  have hat := hH.1.at h13
  rw [xe_ref hT h9.1] at hat
  obtain ⟨hx1, hx2⟩ := xac_ok h9.1 h9.2
  have hK := hS.2.2.2.2.2.2.1.1.2 (c - 6) _ (xtys_at g (c - 6) (by omega))
  have hK1 := hK.1
  dsimp only at hK1
  rw [hx1] at hK1
  refine va_WaastN (C := xC (xac c)) hS.1 hS.2.1 hat (hK1 n (fun j => va_rf ((mR μ a j).map (xa g)))) (fun h => by cases h) (by show ¬ (_ < 0 ∨ (arrV _ _ _).slots.size ≤ _); rw [arrV_size]; exact xin_nI hi hn) rfl rfl d fun H1 e1 e2 e3 => kk H1 _ ls ⟨?_, xfr hH ha1 e3, xlc hH ha1⟩ hl
  refine hH.1.set h13 rfl rfl e2 e3 ?_ (fun b hb => xe_sR hb)
  rw [xe_ref (c := c) (n := n) (by rw [mT_sR]; exact hT) h9.1]
  show H1[xa g a]? = some (vp_cell _ _)
  rw [e1, vp_cell_q, vp_cell_q, arrV_store, nI_clamp (by omega), xup_R]
  rfl
theorem X.alen {v : Int32} (d : decode k.2.1 pc = .ok (.arraylength, 1)) (hT : mT μ a = (6, n)) (hv : Int32.ofNat n = v) (kk : X k sc (pc + 1) lv (.int v :: st) μ Q) : X k sc pc lv (.ref a :: st) μ Q := by
  refine X.pure (fun p l e R s m args below meth c0 g hS H locs cells slots ls Z hH hl kk => ?_) kk
  have h13 : (mT μ a).1 < 13 := by rw [hT]; show 6 < 13; omega
  exact va_alen (x := (n, .inl (mI μ a))) (ty := .int) hS.1 hS.2.1 hS.2.2.2.2.2.2.1.1 (hH.1.one h13) 0 0 (by rw [xe_int hT]; rfl) (xtys_at g 0 (by decide)) hv d (kk ls hl)
/-! the script, at 0 -/
theorem X.sld {L : Nat} {xs : Nat → Int32} (d : decode k.2.1 pc = .ok (.iaload, 1)) (hj : j = nI i) (hi : i < L) (hn : L < 2 ^ 31) (kk : X k (some (L, xs)) (pc + 1) lv (.int (xs i) :: st) μ Q) : X k (some (L, xs)) pc lv (.int j :: .ref 0 :: st) μ Q := by
  subst hj
  refine X.pure (fun p l e R s m args below meth c0 g hS H locs cells slots ls Z hH hl kk => ?_) kk
  obtain ⟨hX, hb⟩ := hS.2.2.2.2.2.2.2.2.2.2 L xs rfl
  obtain ⟨scr, h1, h2, h3, h4, h5⟩ := hX
  exact W.iald (v := .int (xs i)) (a := xb g) hS.1 hS.2.1 (by rw [hH.2.1 _ hb]; exact h1) h2 h3 (by rw [h4]; exact vp_in_nI hi hn) (by rw [nI_clamp (by omega)]; exact h5 _ hi) rfl rfl d (kk ls hl)
theorem X.slen {L : Nat} {xs : Nat → Int32} (d : decode k.2.1 pc = .ok (.arraylength, 1)) (kk : X k (some (L, xs)) (pc + 1) lv (.int (nI L) :: st) μ Q) : X k (some (L, xs)) pc lv (.ref 0 :: st) μ Q := by
  refine X.pure (fun p l e R s m args below meth c0 g hS H locs cells slots ls Z hH hl kk => ?_) kk
  obtain ⟨hX, hb⟩ := hS.2.2.2.2.2.2.2.2.2.2 L xs rfl
  obtain ⟨scr, h1, h2, h3, h4, h5⟩ := hX
  exact W.alen (n := nI L) (a := xb g) hS.1 hS.2.1 (by rw [hH.2.1 _ hb]; exact h1) h2 (by rw [h4] <;> rfl) rfl rfl d (kk ls hl)
end XA
end
section
/-! new cells -/
def xdef (t : FieldType) : Value := match t with
  | .int => .int 0
  | .boolean => .int 0
  | .long => .long 0
  | _ => .null
theorem xdef_ok : ∀ c, c < 6 → ∀ j, j < xnf c → defaultValue (xty c j) = xdef (xty c j) := by decide +kernel
theorem xfv_new (g : xg) (μ : xM) (c n w j : Nat) : xfv g (sNew μ c n w) (mN μ) c j = xdef (xty c j) := by
  have e1 : mI (sNew μ c n w) (mN μ) j = 0 := if_pos rfl
  have e2 : mJ (sNew μ c n w) (mN μ) j = 0 := if_pos rfl
  have e3 : mR (sNew μ c n w) (mN μ) j = none := if_pos rfl
  unfold xfv xft
  rw [e1, e2, e3]
  cases xty c j <;> rfl
theorem xT_new (μ : xM) (c n w : Nat) : mT (sNew μ c n w) (mN μ) = (c, n) := if_pos rfl
section XN
variable {k : xk} {sc : xsc} {pc : Nat} {lv : Nat → Option Value} {st : List Value} {μ : xM} {Q : Option Value → xM → Prop} {c idx : Nat}
theorem X.new (d : decode k.2.1 pc = .ok (.new idx, 3)) (hc : c < 6) (w1 : Cond.classLink k.1.cls idx (xC c) ∈ xtbl) (w2 : Cond.instantiable (xC c) (xnf c) ∈ xtbl) (w3 : Cond.initialized (xC c) ∈ xtbl)
    (kk : X k sc (pc + 3) lv (.ref (mN μ) :: st) (sNew μ c 0 (xnf c)) Q) : X k sc pc lv st μ Q := by
  refine X.stp (μ1 := sNew μ c 0 (xnf c)) ⟨by rw [mN_sNew]; omega, by rw [mS_sNew]; omega⟩ (fun p l e R s m args below meth c0 g hS H locs cells slots ls Z hH hcl hsl hl kk => ?_) kk
  have eN : mN (sNew μ c 0 (xnf c)) - mN μ = 1 := by rw [mN_sNew]; omega
  have eS : mS (sNew μ c 0 (xnf c)) - mS μ = xnf c := by rw [mS_sNew]; omega
  rw [eN] at hcl
  rw [eS] at hsl
  rw [eN, eS] at kk
  obtain ⟨hclo, hin, hty, hnm⟩ := xcl c hc
  have hts := hS.2.2.2.2.1
  have hKn := hS.2.2.2.2.2.2.1.1.1 c _ hclo
  refine W.newcK hS.1 hS.2.1 hS.2.2.2.1 (hts _ w1) (hts _ w2) (hts _ w3) rfl d hcl hsl hKn.2.1 rfl fun H1 kC hkC e1 z1 o1 => ?_
  have w := kk H1 locs ls ⟨hH.1.push (by omega) z1 o1 ?_, fun q hq => ?_, hH.2.2⟩ hl
  · have e9 : xv g (.ref (mN μ)) = .ref H.size := by show Value.ref (xa g (mN μ)) = _; rw [xa_new hH.1]
    rw [List.map_cons, e9] at w
    exact w
  · rw [xe_obj (xT_new μ c 0 (xnf c)) hc]
    refine ⟨_, hclo, (u_born (xty c) hts hin hKn hkC e1 hty).to (fun j hj => ?_)⟩
    unfold vp_V
    rw [List.getD_eq_getElem?_getD, xfv_get _ _ _ _ _ hj, xfv_new, xdef_ok c hc j hj]
    rfl
  · have h1 := hH.1.2.1
    rw [o1 q (by omega)]
    exact hH.2.1 q hq
theorem xframe {g : xg} {s : State} {H H1 : Heap} {locs : List Loc} (hH : xH g s μ H locs) (o1 : ∀ q : Nat, q < H.size → H1[q]? = H[q]?) : ∀ q : Nat, q < xbase g → H1[q]? = s.heap[q]? := by
  intro q hq
  have h1 := hH.1.2.1
  rw [o1 q (by omega)]
  exact hH.2.1 q hq
theorem X.newI {x : Int32} {n : Nat} (d : decode k.2.1 pc = .ok (.newarray .int, 2)) (w : Cond.arrayClass .int ∈ xtbl) (hx : x = nI n) (hn : n ≤ 100000) (kk : X k sc (pc + 2) lv (.ref (mN μ) :: st) (sNew μ 6 n n) Q) : X k sc pc lv (.int x :: st) μ Q := by
  subst hx
  refine X.stp (μ1 := sNew μ 6 n n) ⟨by rw [mN_sNew]; omega, by rw [mS_sNew]; omega⟩ (fun p l e R s m args below meth c0 g hS H locs cells slots ls Z hH hcl hsl hl kk => ?_) kk
  have eN : mN (sNew μ 6 n n) - mN μ = 1 := by rw [mN_sNew]; omega
  have eS : mS (sNew μ 6 n n) - mS μ = n := by rw [mS_sNew]; omega
  rw [eN] at hcl
  rw [eS] at hsl
  rw [eN, eS] at kk
  refine va_newaK (atype := .int) (N := n) hS.1 hS.2.1 (hS.2.2.2.2.1 _ w) rfl d rfl (nI_pos (by omega)) (nI_clamp (by omega)) (by show n * 4 ≤ _; omega) hcl hsl rfl fun H1 cA e1 z1 o1 hAr hNm => ?_
  have hRA := (hS.2.2.2.2.2.2.1.1.2 0 _ (xtys_at g 0 (by decide))).2
  have hcA : g.2.1 0 = cA := Option.some.inj (hRA.symm.trans hNm)
  have w := kk H1 locs ls ⟨hH.1.push (by omega) z1 o1 ?_, xframe hH o1, hH.2.2⟩ hl
  · have e9 : xv g (.ref (mN μ)) = .ref H.size := by show Value.ref (xa g (mN μ)) = _; rw [xa_new hH.1]
    rw [List.map_cons, e9] at w
    exact w
  · rw [xe_int (xT_new μ 6 n n), hcA]
    show H1[H.size]? = some (vp_cell _ _)
    rw [e1, vp_cell_i]
    congr 2
    funext j
    show Value.int 0 = _
    rw [show mI (sNew μ 6 n n) (mN μ) j = 0 from if_pos rfl]
theorem X.newJ {x : Int32} {n : Nat} (d : decode k.2.1 pc = .ok (.newarray .long, 2)) (w : Cond.arrayClass .long ∈ xtbl) (hx : x = nI n) (hn : n ≤ 100000) (kk : X k sc (pc + 2) lv (.ref (mN μ) :: st) (sNew μ 7 n n) Q) : X k sc pc lv (.int x :: st) μ Q := by
  subst hx
  refine X.stp (μ1 := sNew μ 7 n n) ⟨by rw [mN_sNew]; omega, by rw [mS_sNew]; omega⟩ (fun p l e R s m args below meth c0 g hS H locs cells slots ls Z hH hcl hsl hl kk => ?_) kk
  have eN : mN (sNew μ 7 n n) - mN μ = 1 := by rw [mN_sNew]; omega
  have eS : mS (sNew μ 7 n n) - mS μ = n := by rw [mS_sNew]; omega
  rw [eN] at hcl
  rw [eS] at hsl
  rw [eN, eS] at kk
  refine va_newaK (atype := .long) (N := n) hS.1 hS.2.1 (hS.2.2.2.2.1 _ w) rfl d rfl (nI_pos (by omega)) (nI_clamp (by omega)) (by show n * 8 ≤ _; omega) hcl hsl rfl fun H1 cA e1 z1 o1 hAr hNm => ?_
  have hRA := (hS.2.2.2.2.2.2.1.1.2 1 _ (xtys_at g 1 (by decide))).2
  have hcA : g.2.1 1 = cA := Option.some.inj (hRA.symm.trans hNm)
  have w := kk H1 locs ls ⟨hH.1.push (by omega) z1 o1 ?_, xframe hH o1, hH.2.2⟩ hl
  · have e9 : xv g (.ref (mN μ)) = .ref H.size := by show Value.ref (xa g (mN μ)) = _; rw [xa_new hH.1]
    rw [List.map_cons, e9] at w
    exact w
  · rw [xe_long (xT_new μ 7 n n), hcA]
    show H1[H.size]? = some (vp_cell _ _)
    rw [e1, vp_cell_l]
    congr 2
    funext j
    show Value.long 0 = _
    rw [show mJ (sNew μ 7 n n) (mN μ) j = 0 from if_pos rfl]
theorem X.newZ {x : Int32} {n : Nat} (d : decode k.2.1 pc = .ok (.newarray .boolean, 2)) (w : Cond.arrayClass .boolean ∈ xtbl) (hx : x = nI n) (hn : n ≤ 100000) (kk : X k sc (pc + 2) lv (.ref (mN μ) :: st) (sNew μ 8 n n) Q) : X k sc pc lv (.int x :: st) μ Q := by
  subst hx
  refine X.stp (μ1 := sNew μ 8 n n) ⟨by rw [mN_sNew]; omega, by rw [mS_sNew]; omega⟩ (fun p l e R s m args below meth c0 g hS H locs cells slots ls Z hH hcl hsl hl kk => ?_) kk
  have eN : mN (sNew μ 8 n n) - mN μ = 1 := by rw [mN_sNew]; omega
  have eS : mS (sNew μ 8 n n) - mS μ = n := by rw [mS_sNew]; omega
  rw [eN] at hcl
  rw [eS] at hsl
  rw [eN, eS] at kk
  refine va_newaK (atype := .boolean) (N := n) hS.1 hS.2.1 (hS.2.2.2.2.1 _ w) rfl d rfl (nI_pos (by omega)) (nI_clamp (by omega)) (by show n * 1 ≤ _; omega) hcl hsl rfl fun H1 cA e1 z1 o1 hAr hNm => ?_
  have hRA := (hS.2.2.2.2.2.2.1.1.2 2 _ (xtys_at g 2 (by decide))).2
  have hcA : g.2.1 2 = cA := Option.some.inj (hRA.symm.trans hNm)
  have w := kk H1 locs ls ⟨hH.1.push (by omega) z1 o1 ?_, xframe hH o1, hH.2.2⟩ hl
  · have e9 : xv g (.ref (mN μ)) = .ref H.size := by show Value.ref (xa g (mN μ)) = _; rw [xa_new hH.1]
    rw [List.map_cons, e9] at w
    exact w
  · rw [xe_bool (xT_new μ 8 n n), hcA]
    show H1[H.size]? = some (vp_cell _ _)
    rw [e1, vp_cell_i]
    congr 2
    funext j
    show Value.int 0 = _
    rw [show mI (sNew μ 8 n n) (mN μ) j = 0 from if_pos rfl]
theorem xover {g : xg} {U : State} (h : xK g U) {c : Nat} (h9 : 9 ≤ c) (hc : c < 12) : va_AO (xC (xac c)) U := by
  have : c = 9 ∨ c = 10 ∨ c = 11 := by omega
  rcases this with rfl | rfl | rfl
  · exact h.2.1.1
  · exact h.2.1.2.1
  · exact h.2.1.2.2.1
theorem X.anew {x : Int32} {n : Nat} (d : decode k.2.1 pc = .ok (.anewarray idx, 3)) (h9 : 9 ≤ c ∧ c < 12) (w : Cond.classLink k.1.cls idx (xC (xac c)) ∈ xtbl) (hx : x = nI n) (hn : n ≤ 100000) (kk : X k sc (pc + 3) lv (.ref (mN μ) :: st) (sNew μ c n n) Q) : X k sc pc lv (.int x :: st) μ Q := by
  subst hx
  refine X.stp (μ1 := sNew μ c n n) ⟨by rw [mN_sNew]; omega, by rw [mS_sNew]; omega⟩ (fun p l e R s m args below meth c0 g hS H locs cells slots ls Z hH hcl hsl hl kk => ?_) kk
  have eN : mN (sNew μ c n n) - mN μ = 1 := by rw [mN_sNew]; omega
  have eS : mS (sNew μ c n n) - mS μ = n := by rw [mS_sNew]; omega
  rw [eN] at hcl
  rw [eS] at hsl
  rw [eN, eS] at kk
  have hcm : (nI n).toNatClampNeg = n := nI_clamp (by omega)
  refine W.anew hS.1 hS.2.1 hS.2.2.2.1 (hS.2.2.2.2.1 _ w) (va_AO.use (xover hS.2.2.2.2.2.2.1 h9.1 h9.2)) rfl d rfl (nI_pos (by omega)) (by rw [hcm]; omega) hcl (by rw [hcm]; exact hsl) fun cA kA comp f1 f2 f3 f4 => ?_
  rw [hcm]
  obtain ⟨hx1, hx2⟩ := xac_ok h9.1 h9.2
  have hRA := (hS.2.2.2.2.2.2.1.1.2 (c - 6) _ (xtys_at g (c - 6) (by omega))).2
  dsimp only at hRA
  rw [hx1] at hRA
  obtain ⟨-, -, -, -, -, hnm⟩ := hRA
  have hcA : g.2.1 (c - 6) = cA := Option.some.inj (hnm.symm.trans f1)
  generalize hH1 : H.push ({ cls := cA, slots := Array.replicate n .null, vm := .none } : Cell) = H1
  have z1 : H1.size = H.size + 1 := by rw [← hH1, Array.size_push]
  have e1 : H1[H.size]? = some (arrV cA n (fun _ => .null)) := by rw [← hH1, Array.getElem?_push_size, ← arrV_new]
  have o1 : ∀ q : Nat, q < H.size → H1[q]? = H[q]? := fun q hq => by rw [← hH1, Array.getElem?_push, if_neg (Nat.ne_of_lt hq)]
  have w := kk H1 locs ls ⟨hH.1.push (by omega) z1 o1 ?_, xframe hH o1, hH.2.2⟩ hl
  · have e9 : xv g (.ref (mN μ)) = .ref H.size := by show Value.ref (xa g (mN μ)) = _; rw [xa_new hH.1]
    rw [List.map_cons, e9] at w
    exact w
  · rw [xe_ref (xT_new μ c n n) h9.1, hcA]
    show H1[H.size]? = some (vp_cell _ _)
    rw [e1, vp_cell_q]
    congr 2
    funext j
    show Value.null = _
    rw [show mR (sNew μ c n n) (mN μ) j = none from if_pos rfl]
    rfl
theorem X.objInit {a : Nat} (d : decode k.2.1 pc = .ok (.invokespecial idx, 3)) (w1 : Cond.methodLink k.1.cls idx objectInit ∈ xtbl) (w2 : Cond.instanceMethod objectInit ∈ xtbl) (w3 : Cond.code objectInit ⟨#[0xb1]⟩ 1 none ∈ xtbl) (hk : 1 ≤ k.2.2.2.2.1 ∧ 12 ≤ k.2.2.2.2.2)
    (kk : X k sc (pc + 3) lv [] μ Q) : X k sc pc lv [.ref a] μ Q := by
  refine X.pure (fun p l e R s m args below meth c0 g hS H locs cells slots ls Z hH hl kk => ?_) kk
  have h1 := hS.2.2.2.2.2.2.2.1
  have h2 := hS.2.2.2.2.2.2.2.2.1
  refine W.objInit (a := xa g a) (rest := []) hS.1 hS.2.1 hS.2.2.2.1 (hS.2.2.2.2.1 _ w1) (hS.2.2.2.2.1 _ w2) (hS.2.2.2.2.1 _ w3) rfl (by rw [hS.2.2.1]; exact hl.1) rfl d (by omega) (by show 0 + 0 + 12 ≤ _; omega) ?_
  exact kk ls hl
end XN
/-! calls -/
def xvok (k : xk) : Prop := Cond.code k.1 k.2.1 k.2.2.1 k.2.2.2.1 ∈ xtbl ∧ Cond.initialized k.1.cls ∈ xtbl ∧ (k.1.cls ≠ "java/lang/invoke/MethodHandle" ∧ k.1.cls ≠ "java/lang/invoke/VarHandle")
/-- the room of a call -/
def xrmok (k k' : xk) : Prop := k'.2.2.2.2.1 + 1 ≤ k.2.2.2.2.1 ∧ 8 + (k'.2.2.1 + 11) + k'.2.2.2.2.2 ≤ k.2.2.2.2.2
theorem xgood {k : xk} (h : xvok k) : GoodIn xtbl (xws k) := by
  intro w hw
  unfold xws at hw
  rcases List.mem_cons.mp hw with rfl | h1
  · exact xtbl_good _ h.1
  · exact xtbl_good _ h1
section XCALL
variable {p : Program} {l : Launch} {e : Env} {R : Room} {s : State} {m : MethodId} {args : Array Value} {below : List Frame} {meth : Method} {c0 : Code} {H : Heap} {locs : List Loc} {cells slots : Nat} {Z : State → Prop}
variable {k k' : xk} {sc : xsc} {g : xg} {μ μ1 : xM} {pc n idx : Nat} {ls : Array Slot} {as : List Value}
theorem xcb (hS : xS k sc g p R s m args meth c0) (hv : xvok k') (hr : xrmok k k') (hn : (parseMethodDescriptor k'.1.desc).map (fun d => d.parameters.length) = some n) (w : Cond.methodLink k.1.cls idx k'.1 ∈ xtbl) (mc ms : Nat) :
    CallB R s args k.1.cls idx k'.1 k'.2.1 k'.2.2.1 k'.2.2.2.1 (xws k') (xrm k' mc ms) mc ms n := by
  have hts := hS.2.2.2.2.1
  have h1 := hS.2.2.2.2.2.2.2.1
  have h2 := hS.2.2.2.2.2.2.2.2.1
  have r1 := hr.1
  have r2 := hr.2
  refine ⟨rfl, rfl, by show k'.2.2.2.2.1 + 1 ≤ _; omega, by show 8 + (k'.2.2.1 + 11) + k'.2.2.2.2.2 ≤ _; omega, pay_in hts (xgood hv), List.mem_cons_self, hts _ hv.1, hts _ hv.2.1, hv.2.2, fun sig h => ?_, hts _ w⟩
  rw [h] at hn
  exact (Option.some.inj hn).symm
theorem xcn {host : String} (hS : xS k sc g p R s m args meth c0) (hv : xvok k') (hr : xrmok k k') (hn : (parseMethodDescriptor k'.1.desc).map (fun d => d.parameters.length) = some n) (w : (k.1.cls, idx, k'.1, host) ∈ xnest) (mc ms : Nat) :
    va_CN R s args k.1.cls idx k'.1 host k'.2.1 k'.2.2.1 k'.2.2.2.1 (xws k') (xrm k' mc ms) mc ms n := by
  have hts := hS.2.2.2.2.1
  have h1 := hS.2.2.2.2.2.2.2.1
  have h2 := hS.2.2.2.2.2.2.2.2.1
  have r1 := hr.1
  have r2 := hr.2
  refine ⟨⟨rfl, rfl, by show k'.2.2.2.2.1 + 1 ≤ _; omega, by show 8 + (k'.2.2.1 + 11) + k'.2.2.2.2.2 ≤ _; omega, pay_in hts (xgood hv), List.mem_cons_self⟩, hts _ hv.1, hts _ hv.2.1, hv.2.2, fun sig h => ?_, va_Nw.use rfl (hS.2.2.2.2.2.2.1.2.2 _ w)⟩
  rw [h] at hn
  exact (Option.some.inj hn).symm
theorem xpre (hS : xS k sc g p R s m args meth c0) (hH : xH g s μ H locs) : PreS s H (xPc g μ as) (as.map (xv g)) :=
  ⟨fun a U gf mk q => ⟨q.1, q.2.1, q.2.2.same rfl⟩, fun U hU hW => ⟨rfl, by rw [hU]; exact hH.1, hS.2.2.2.2.2.2.1.warm hW⟩⟩
theorem xrun {r : Option Value} {st st0 : List Value} {a : Array Value} (hH : xH g s μ H locs) (hrun : va_Run p l e R s m args below meth c0 H locs cells slots (mN μ1 - mN μ) (mS μ1 - mS μ) (F0 m pc ls st0) (st.map (xv g)) (xQc g μ1 r a) (fun q => xbase g ≤ q))
    (kk : ∀ (H' : Heap) (locs' : List Loc), xH g s μ1 H' locs' → W p l e R s m args below meth c0 H' locs' (cells + (mN μ1 - mN μ)) (slots + (mS μ1 - mS μ)) Z (F0 m (pc + 3) ls ((r.toList ++ st).map (xv g)))) : W p l e R s m args below meth c0 H locs cells slots Z (F0 m pc ls st0) := by
  intro T hT X
  obtain ⟨v, st₀, t, T', L, h0, X', hL, e1, e2, ⟨hv, hR, hF⟩, go⟩ := hrun T hT X
  have hv2 : v = r.map (xv g) := by injection hv
  subst hv2
  obtain ⟨t2, a1, b1⟩ := kk T'.heap (locs ++ L) ⟨by rw [e1]; exact hR, fun q hq => by rw [e1, hF q hq, h0]; exact hH.2.1 q hq, fun q hq => by
    rcases List.mem_append.mp hq with h | h
    · exact hH.2.2 q h
    · exact hL q h⟩ T' rfl X'
  refine ⟨t2, go t2 ?_, b1⟩
  have e3 : (r.toList ++ st).map (xv g) = (r.map (xv g)).toList ++ st.map (xv g) := by cases r <;> rfl
  rw [e3] at a1
  exact a1
end XCALL
def xcats (st : List Value) : Nat := (st.map fun v => v.category).sum
theorem xcats_map (g : xg) (st : List Value) : (((st.map (xv g)).map fun v => v.category)).sum = xcats st := by
  unfold xcats
  rw [List.map_map]
  congr 1
  exact List.map_congr_left (fun v _ => xcat g v)
section XCALL2
variable {k k' : xk} {sc : xsc} {pc : Nat} {lv : Nat → Option Value} {st as : List Value} {μ : xM} {Q : Option Value → xM → Prop} {a c n idx : Nat}
theorem X.callV (d : decode k.2.1 pc = .ok (.invokevirtual idx, 3)) (hT : mT μ a = (c, n)) (hc : c < 6 ∧ xC c = k'.1.cls) (hv : xvok k') (w1 : Cond.methodLink k.1.cls idx k'.1 ∈ xtbl) (w2 : Cond.instanceMethod k'.1 ∈ xtbl) (w3 : Cond.selects k'.1.cls k'.1 k'.1 ∈ xtbl)
    (hr : xrmok k k') (hn : (parseMethodDescriptor k'.1.desc).map (fun d => d.parameters.length) = some as.length) (hst : xcats st ≤ 8) (hm : Mt k' (.ref a :: as) μ (fun r μ' => X k sc (pc + 3) lv (r.toList ++ st) μ' Q)) : X k sc pc lv (as.reverse ++ .ref a :: st) μ Q := by
  obtain ⟨r, μ1, ⟨hmo, hE⟩, hX⟩ := hm
  refine X.stp hmo (fun p l e R s m args below meth c0 g hS H locs cells slots ls Z hH hcl hsl hl kk => ?_) hX
  have hP := xpre (as := .ref a :: as) hS hH
  obtain ⟨hclo, -⟩ := xcl c hc.1
  have hrec := va_recv (q := (xC c, xT c, xnf c)) (ci := c) (q0 := 0) hS.2.2.2.2.2.2.1.1 (hH.1.one (a := a) (by rw [hT]; show c < 13; omega)) hclo (by rw [xe_obj hT hc.1]; rfl)
  have e4 : (as.reverse ++ .ref a :: st).map (xv g) = (as.map (xv g)).reverse ++ .ref (xa g a) :: st.map (xv g) := by rw [List.map_append, List.map_reverse]; rfl
  rw [e4]
  refine xrun hH (va_runV (C := k'.1.cls) (As := as.map (xv g)) (b := xa g a) (n := as.length) ⟨hS.1, hS.2.1, hS.2.2.1, hS.2.2.2.1, hS.2.2.2.2.1⟩ (hE l g) ⟨xcb hS hv hr hn w1 _ _, hS.2.2.2.2.1 _ w2, hS.2.2.2.2.1 _ w3⟩ ⟨hP.1, by rw [← hc.2]; exact hrec, hP.2⟩ rfl (by rw [List.length_map]) hl.1 rfl (by rw [xcats_map]; show 0 + _ ≤ 8; omega) d ⟨hcl, hsl⟩) (fun H' locs' hH' => kk H' locs' ls hH' hl)
theorem X.callS (d : decode k.2.1 pc = .ok (.invokestatic idx, 3)) (hv : xvok k') (w1 : Cond.methodLink k.1.cls idx k'.1 ∈ xtbl) (w2 : Cond.static k'.1 ∈ xtbl)
    (hr : xrmok k k') (hn : (parseMethodDescriptor k'.1.desc).map (fun d => d.parameters.length) = some as.length) (hst : xcats st ≤ 8) (hm : Mt k' as μ (fun r μ' => X k sc (pc + 3) lv (r.toList ++ st) μ' Q)) : X k sc pc lv (as.reverse ++ st) μ Q := by
  obtain ⟨r, μ1, ⟨hmo, hE⟩, hX⟩ := hm
  refine X.stp hmo (fun p l e R s m args below meth c0 g hS H locs cells slots ls Z hH hcl hsl hl kk => ?_) hX
  have e4 : (as.reverse ++ st).map (xv g) = (as.map (xv g)).reverse ++ st.map (xv g) := by rw [List.map_append, List.map_reverse]
  rw [e4]
  refine xrun hH (va_runS (As := as.map (xv g)) (n := as.length) ⟨hS.1, hS.2.1, hS.2.2.1, hS.2.2.2.1, hS.2.2.2.2.1⟩ (hE l g) ⟨xcb hS hv hr hn w1 _ _, hS.2.2.2.2.1 _ w2⟩ (xpre hS hH) rfl (by rw [List.length_map]) hl.1 rfl (by rw [xcats_map]; show 0 + _ ≤ 8; omega) d ⟨hcl, hsl⟩) (fun H' locs' hH' => kk H' locs' ls hH' hl)
theorem X.callSN {host : String} (d : decode k.2.1 pc = .ok (.invokestatic idx, 3)) (hv : xvok k') (w1 : (k.1.cls, idx, k'.1, host) ∈ xnest) (w2 : Cond.static k'.1 ∈ xtbl)
    (hr : xrmok k k') (hn : (parseMethodDescriptor k'.1.desc).map (fun d => d.parameters.length) = some as.length) (hst : xcats st ≤ 8) (hm : Mt k' as μ (fun r μ' => X k sc (pc + 3) lv (r.toList ++ st) μ' Q)) : X k sc pc lv (as.reverse ++ st) μ Q := by
  obtain ⟨r, μ1, ⟨hmo, hE⟩, hX⟩ := hm
  refine X.stp hmo (fun p l e R s m args below meth c0 g hS H locs cells slots ls Z hH hcl hsl hl kk => ?_) hX
  have e4 : (as.reverse ++ st).map (xv g) = (as.map (xv g)).reverse ++ st.map (xv g) := by rw [List.map_append, List.map_reverse]
  rw [e4]
  refine xrun hH (va_runSN (host := host) (As := as.map (xv g)) (n := as.length) (Ts := xtbl) ⟨hS.1, hS.2.1, hS.2.2.1, hS.2.2.2.1, hS.2.2.2.2.1⟩ (hE l g) ⟨xcn hS hv hr hn w1 _ _, hS.2.2.2.2.1 _ w2, trivial⟩ (xpre hS hH) rfl (by rw [List.length_map]) hl.1 rfl (by rw [xcats_map]; show 0 + _ ≤ 8; omega) d ⟨hcl, hsl⟩) (fun H' locs' hH' => kk H' locs' ls hH' hl)
theorem X.callI (d : decode k.2.1 pc = .ok (.invokespecial idx, 3)) (hk : k'.2.2.2.1 = none ∧ k'.1.name = "<init>") (hv : xvok k') (w1 : Cond.methodLink k.1.cls idx k'.1 ∈ xtbl) (w2 : Cond.instanceMethod k'.1 ∈ xtbl)
    (hr : xrmok k k') (hn : (parseMethodDescriptor k'.1.desc).map (fun d => d.parameters.length) = some as.length) (hst : xcats st ≤ 8) (hm : Mt k' (.ref a :: as) μ (fun r μ' => X k sc (pc + 3) lv (r.toList ++ st) μ' Q)) : X k sc pc lv (as.reverse ++ .ref a :: st) μ Q := by
  obtain ⟨r, μ1, ⟨hmo, hE⟩, hX⟩ := hm
  refine X.stp hmo (fun p l e R s m args below meth c0 g hS H locs cells slots ls Z hH hcl hsl hl kk => ?_) hX
  have hP := xpre (as := .ref a :: as) hS hH
  have e4 : (as.reverse ++ .ref a :: st).map (xv g) = (as.map (xv g)).reverse ++ .ref (xa g a) :: st.map (xv g) := by rw [List.map_append, List.map_reverse]; rfl
  rw [e4]
  have hb := xcb hS hv hr hn w1 (mN μ1 - mN μ) (mS μ1 - mS μ)
  rw [hk.1] at hb
  refine xrun hH (va_runI (As := as.map (xv g)) (b := xa g a) (n := as.length) ⟨hS.1, hS.2.1, hS.2.2.1, hS.2.2.2.1, hS.2.2.2.2.1⟩ (hE l g) ⟨hb, hk.2, hS.2.2.2.2.1 _ w2⟩ hP rfl (by rw [List.length_map]) hl.1 rfl (by rw [xcats_map]; show 0 + _ ≤ 8; omega) d ⟨hcl, hsl⟩) (fun H' locs' hH' => kk H' locs' ls hH' hl)
theorem X.callIN {host : String} (d : decode k.2.1 pc = .ok (.invokespecial idx, 3)) (hk : k'.2.2.2.1 = none ∧ k'.1.name = "<init>") (hv : xvok k') (w1 : (k.1.cls, idx, k'.1, host) ∈ xnest) (w2 : Cond.instanceMethod k'.1 ∈ xtbl)
    (hr : xrmok k k') (hn : (parseMethodDescriptor k'.1.desc).map (fun d => d.parameters.length) = some as.length) (hst : xcats st ≤ 8) (hm : Mt k' (.ref a :: as) μ (fun r μ' => X k sc (pc + 3) lv (r.toList ++ st) μ' Q)) : X k sc pc lv (as.reverse ++ .ref a :: st) μ Q := by
  obtain ⟨r, μ1, ⟨hmo, hE⟩, hX⟩ := hm
  refine X.stp hmo (fun p l e R s m args below meth c0 g hS H locs cells slots ls Z hH hcl hsl hl kk => ?_) hX
  have hP := xpre (as := .ref a :: as) hS hH
  have e4 : (as.reverse ++ .ref a :: st).map (xv g) = (as.map (xv g)).reverse ++ .ref (xa g a) :: st.map (xv g) := by rw [List.map_append, List.map_reverse]; rfl
  rw [e4]
  have hb := xcn hS hv hr hn w1 (mN μ1 - mN μ) (mS μ1 - mS μ)
  rw [hk.1] at hb
  refine xrun hH (va_runIN (host := host) (As := as.map (xv g)) (b := xa g a) (n := as.length) (Ts := xtbl) ⟨hS.1, hS.2.1, hS.2.2.1, hS.2.2.2.1, hS.2.2.2.2.1⟩ (hE l g) ⟨hb, hk.2, hS.2.2.2.2.1 _ w2⟩ hP rfl (by rw [List.length_map]) hl.1 rfl (by rw [xcats_map]; show 0 + _ ≤ 8; omega) d ⟨hcl, hsl⟩) (fun H' locs' hH' => kk H' locs' ls hH' hl)
end XCALL2
end
section
/-! method records; the tables' words by their places (laid by wip/whole/mkwords.py) -/
theorem xmem {w : Cond} (i : Nat) (h : tables_1[i]? = some w) (g : goodWord w = true) : w ∈ xtbl := xtbl_of (List.mem_append_right _ (List.mem_of_getElem? h)) g
theorem xmemp {w : Cond} (i : Nat) (h : (k2_sels lw_privs)[i]? = some w) (g : goodWord w = true) : w ∈ xtbl := xtbl_of (List.mem_append_left _ (List.mem_of_getElem? h)) g
def kX0_init : xk := (yX0_init, cX0_init, 5, none, 1, 12)
def kX0_strike : xk := (yX0_strike, cX0_strike, 1, none, 0, 0)
def kX1_init : xk := (yX1_init, cX1_init, 1, none, 1, 12)
def kX1_become : xk := (yX1_become, cX1_become, 5, none, 0, 0)
def kX2_init : xk := (yX2_init, cX2_init, 2, none, 1, 12)
def kX2_hold : xk := (yX2_hold, cX2_hold, 3, none, 0, 0)
def kX2_has : xk := (yX2_has, cX2_has, 1, (some .int), 0, 0)
def kX2_refusalWithoutTape : xk := (yX2_refusalWithoutTape, cX2_refusalWithoutTape, 1, (some .int), 0, 0)
def kX2_refusalOfPlain : xk := (yX2_refusalOfPlain, cX2_refusalOfPlain, 1, (some .int), 1, 20)
def kX2_read : xk := (yX2_read, cX2_read, 3, (some .int), 2, 46)
def kX2_write : xk := (yX2_write, cX2_write, 3, (some .int), 2, 44)
def kX2_asCell : xk := (yX2_asCell, cX2_asCell, 2, none, 1, 24)
def kX3_init : xk := (yX3_init, cX3_init, 4, none, 1, 20)
def kX3_copyTo : xk := (yX3_copyTo, cX3_copyTo, 3, (some .int), 1, 24)
def kX3_accept : xk := (yX3_accept, cX3_accept, 3, (some .int), 1, 22)
def kX4_init : xk := (yX4_init, cX4_init, 2, none, 2, 33)
def kX4_tape : xk := (yX4_tape, cX4_tape, 5, (some .int), 3, 64)
def kX4_plug : xk := (yX4_plug, cX4_plug, 4, (some .int), 1, 22)
def kX4_strip : xk := (yX4_strip, cX4_strip, 4, (some .int), 1, 22)
def kX4_share : xk := (yX4_share, cX4_share, 5, (some .int), 1, 22)
def kX4_head : xk := (yX4_head, cX4_head, 4, (some .int), 1, 21)
def kX4_step : xk := (yX4_step, cX4_step, 5, (some .int), 1, 21)
def kX4_loop : xk := (yX4_loop, cX4_loop, 5, (some .int), 1, 21)
def kX4_stamp : xk := (yX4_stamp, cX4_stamp, 8, (some .int), 3, 66)
def kX4_probe : xk := (yX4_probe, cX4_probe, 6, (some .long), 3, 68)
def kX4_tag : xk := (yX4_tag, cX4_tag, 5, (some .int), 3, 66)
def kX4_rack : xk := (yX4_rack, cX4_rack, 6, (some .int), 3, 66)
def kX4_unrack : xk := (yX4_unrack, cX4_unrack, 7, (some .int), 3, 68)
def kX4_cable : xk := (yX4_cable, cX4_cable, 6, (some .int), 2, 36)
def kX4_patience : xk := (yX4_patience, cX4_patience, 5, (some .int), 1, 21)
def kX4_pull : xk := (yX4_pull, cX4_pull, 4, (some .int), 1, 21)
def kX4_plugIn : xk := (yX4_plugIn, cX4_plugIn, 4, (some .int), 1, 21)
def kX4_tick : xk := (yX4_tick, cX4_tick, 5, (some .int), 6, 141)
def kX4_splice : xk := (yX4_splice, cX4_splice, 10, (some .int), 4, 93)
def kX4_dub : xk := (yX4_dub, cX4_dub, 10, (some .int), 3, 64)
def kX4_sum : xk := (yX4_sum, cX4_sum, 7, (some .long), 2, 42)
def kX4_match : xk := (yX4_match, cX4_match, 9, (some .int), 2, 42)
def kX4_why : xk := (yX4_why, cX4_why, 1, (some .int), 0, 0)
def kX4_number : xk := (yX4_number, cX4_number, 5, (some .long), 3, 68)
def kX4_kind : xk := (yX4_kind, cX4_kind, 5, (some .int), 3, 68)
def kX4_cells : xk := (yX4_cells, cX4_cells, 4, (some .int), 3, 64)
def kX4_of : xk := (yX4_of, cX4_of, 4, (some .int), 1, 21)
def kX4_told : xk := (yX4_told, cX4_told, 4, (some .int), 1, 21)
def kX4_fault : xk := (yX4_fault, cX4_fault, 4, (some .int), 1, 22)
def kX4_count : xk := (yX4_count, cX4_count, 2, (some .int), 1, 21)
def kX4_channelAt : xk := (yX4_channelAt, cX4_channelAt, 2, (some (.object "PatchBay$Channel")), 0, 0)
def kX4_cableAt : xk := (yX4_cableAt, cX4_cableAt, 2, (some (.object "PatchBay$Cable")), 0, 0)
def kX4_isPlain : xk := (yX4_isPlain, cX4_isPlain, 1, (some .boolean), 0, 0)
def kX4_isTapeKind : xk := (yX4_isTapeKind, cX4_isTapeKind, 1, (some .boolean), 0, 0)
def kX4_takes : xk := (yX4_takes, cX4_takes, 2, (some .boolean), 0, 0)
def kX4_fitted : xk := (yX4_fitted, cX4_fitted, 3, (some .long), 0, 0)
def kX4_meet : xk := (yX4_meet, cX4_meet, 2, none, 0, 0)
def kX4_timesMet : xk := (yX4_timesMet, cX4_timesMet, 2, (some .int), 0, 0)
def kX4_note : xk := (yX4_note, cX4_note, 2, none, 1, 21)
def kX4_answer : xk := (yX4_answer, cX4_answer, 3, (some .int), 2, 42)
def kX4_noteFault : xk := (yX4_noteFault, cX4_noteFault, 4, none, 1, 22)
def kX4_keepBooks : xk := (yX4_keepBooks, cX4_keepBooks, 3, none, 2, 45)
def kX4_carry : xk := (yX4_carry, cX4_carry, 4, (some .int), 5, 118)
def kX4_wire : xk := (yX4_wire, cX4_wire, 6, (some .int), 3, 68)
def kX4_gate : xk := (yX4_gate, cX4_gate, 6, (some .int), 3, 68)
def kX4_pair : xk := (yX4_pair, cX4_pair, 6, (some .int), 4, 93)
def kX4_swap : xk := (yX4_swap, cX4_swap, 6, (some .int), 3, 68)
def kX4_move : xk := (yX4_move, cX4_move, 4, none, 2, 45)
def kX5_init : xk := (yX5_init, cX5_init, 2, none, 1, 12)
def kX5_isIn : xk := (yX5_isIn, cX5_isIn, 3, (some .boolean), 0, 0)
def kX5_isChannel : xk := (yX5_isChannel, cX5_isChannel, 1, (some .boolean), 1, 22)
def kX5_isCable : xk := (yX5_isCable, cX5_isCable, 2, (some .boolean), 1, 22)
def kX5_met : xk := (yX5_met, cX5_met, 2, (some .int), 0, 0)
def kX5_sort : xk := (yX5_sort, cX5_sort, 2, (some .int), 0, 0)
def kX5_freeTape : xk := (yX5_freeTape, cX5_freeTape, 5, (some .int), 0, 0)
def kX5_newTape : xk := (yX5_newTape, cX5_newTape, 5, (some .int), 1, 24)
def kX5_nearest : xk := (yX5_nearest, cX5_nearest, 15, (some .long), 0, 0)
def kX5_made : xk := (yX5_made, cX5_made, 3, (some .long), 1, 34)
def kX5_takes : xk := (yX5_takes, cX5_takes, 2, (some .boolean), 0, 0)
def kX5_cellKind : xk := (yX5_cellKind, cX5_cellKind, 6, (some .int), 0, 0)
def kX5_numberOf : xk := (yX5_numberOf, cX5_numberOf, 5, (some .long), 0, 0)
def kX5_kept : xk := (yX5_kept, cX5_kept, 3, (some .long), 2, 56)
def kX5_noTape : xk := (yX5_noTape, cX5_noTape, 2, (some .int), 0, 0)
def kX5_noPlace : xk := (yX5_noPlace, cX5_noPlace, 4, (some .int), 1, 22)
def kX5_kindOf : xk := (yX5_kindOf, cX5_kindOf, 2, (some .int), 0, 0)
def kX5_at : xk := (yX5_at, cX5_at, 3, (some .int), 0, 0)
def kX5_noTake : xk := (yX5_noTake, cX5_noTake, 2, (some .int), 1, 21)
def kX5_noWrite : xk := (yX5_noWrite, cX5_noWrite, 5, (some .int), 2, 45)
def kX5_writes : xk := (yX5_writes, cX5_writes, 7, (some .int), 3, 78)
def kX5_passes : xk := (yX5_passes, cX5_passes, 6, (some .int), 4, 104)
def kX5_tape : xk := (yX5_tape, cX5_tape, 4, (some .int), 2, 48)
def kX5_plug : xk := (yX5_plug, cX5_plug, 3, (some .int), 2, 42)
def kX5_strip : xk := (yX5_strip, cX5_strip, 3, (some .int), 2, 42)
def kX5_share : xk := (yX5_share, cX5_share, 3, (some .int), 2, 42)
def kX5_head : xk := (yX5_head, cX5_head, 3, (some .int), 2, 42)
def kX5_step : xk := (yX5_step, cX5_step, 4, (some .int), 2, 42)
def kX5_loop : xk := (yX5_loop, cX5_loop, 4, (some .int), 2, 42)
def kX5_noPlain : xk := (yX5_noPlain, cX5_noPlain, 4, (some .int), 2, 45)
def kX5_stamp : xk := (yX5_stamp, cX5_stamp, 7, (some .int), 3, 68)
def kX5_probe : xk := (yX5_probe, cX5_probe, 5, (some .long), 3, 68)
def kX5_tag : xk := (yX5_tag, cX5_tag, 5, (some .int), 4, 104)
def kX5_rack : xk := (yX5_rack, cX5_rack, 6, (some .int), 4, 104)
def kX5_unrack : xk := (yX5_unrack, cX5_unrack, 6, (some .int), 2, 45)
def kX5_cable : xk := (yX5_cable, cX5_cable, 4, (some .int), 2, 42)
def kX5_patience : xk := (yX5_patience, cX5_patience, 4, (some .int), 2, 43)
def kX5_pull : xk := (yX5_pull, cX5_pull, 3, (some .int), 2, 43)
def kX5_plugIn : xk := (yX5_plugIn, cX5_plugIn, 3, (some .int), 2, 43)
def kX5_changes : xk := (yX5_changes, cX5_changes, 12, (some .int), 3, 78)
def kX5_carries : xk := (yX5_carries, cX5_carries, 5, (some .int), 5, 129)
def kX5_fails : xk := (yX5_fails, cX5_fails, 4, none, 0, 0)
def kX5_moves : xk := (yX5_moves, cX5_moves, 5, none, 1, 23)
def kX5_tick : xk := (yX5_tick, cX5_tick, 4, (some .int), 6, 153)
def kX5_splice : xk := (yX5_splice, cX5_splice, 8, (some .int), 5, 129)
def kX5_dub : xk := (yX5_dub, cX5_dub, 9, (some .int), 3, 78)
def kX5_sum : xk := (yX5_sum, cX5_sum, 5, (some .long), 2, 42)
def kX5_match : xk := (yX5_match, cX5_match, 7, (some .int), 2, 42)
def kX5_why : xk := (yX5_why, cX5_why, 1, (some .int), 0, 0)
def kX5_number : xk := (yX5_number, cX5_number, 3, (some .long), 2, 45)
def kX5_kind : xk := (yX5_kind, cX5_kind, 4, (some .int), 2, 45)
def kX5_cells : xk := (yX5_cells, cX5_cells, 3, (some .int), 2, 42)
def kX5_of : xk := (yX5_of, cX5_of, 3, (some .int), 2, 42)
def kX5_told : xk := (yX5_told, cX5_told, 3, (some .int), 2, 43)
def kX5_fault : xk := (yX5_fault, cX5_fault, 4, (some .int), 1, 22)
def kX5_count : xk := (yX5_count, cX5_count, 2, (some .int), 1, 22)
def kJ9_floorMod_7cf53 : xk := (yJ9_floorMod_7cf53, cJ9_floorMod_7cf53, 3, (some .int), 0, 0)
def kJ9_min_7cf53 : xk := (yJ9_min_7cf53, cJ9_min_7cf53, 2, (some .int), 0, 0)
def kL_law : xk := (yL_law, cL_law, 4, (some .boolean), 9, 358)
theorem wini_RL : Cond.initialized RL ∈ xtbl := xmem 0 (by decide +kernel) rfl
theorem wini_RX4 : Cond.initialized RX4 ∈ xtbl := xmem 1 (by decide +kernel) rfl
theorem wini_RX1 : Cond.initialized RX1 ∈ xtbl := xmem 2 (by decide +kernel) rfl
theorem wini_RX2 : Cond.initialized RX2 ∈ xtbl := xmem 3 (by decide +kernel) rfl
theorem wini_RX5 : Cond.initialized RX5 ∈ xtbl := xmem 4 (by decide +kernel) rfl
theorem wini_RX3 : Cond.initialized RX3 ∈ xtbl := xmem 5 (by decide +kernel) rfl
theorem wini_RX0 : Cond.initialized RX0 ∈ xtbl := xmem 6 (by decide +kernel) rfl
theorem wini_RJ9 : Cond.initialized RJ9 ∈ xtbl := xmem 7 (by decide +kernel) rfl
theorem wc_L_7 : Cond.classLink RL 7 RX4 ∈ xtbl := xmem 8 (by decide +kernel) rfl
theorem wins_RX4 : Cond.instantiable RX4 11 ∈ xtbl := xmem 9 (by decide +kernel) rfl
theorem wm_L_9 : Cond.methodLink RL 9 yX4_init ∈ xtbl := xmem 10 (by decide +kernel) rfl
theorem wi_X4_init : Cond.instanceMethod yX4_init ∈ xtbl := xmem 11 (by decide +kernel) rfl
theorem wcode_X4_init : Cond.code kX4_init.1 kX4_init.2.1 kX4_init.2.2.1 kX4_init.2.2.2.1 ∈ xtbl := xmem 12 (by decide +kernel) rfl
theorem wm_X4_1 : Cond.methodLink RX4 1 objectInit ∈ xtbl := xmem 13 (by decide +kernel) rfl
theorem wi_obj : Cond.instanceMethod objectInit ∈ xtbl := xmem 14 (by decide +kernel) rfl
theorem w_objc : Cond.code objectInit ⟨#[0xb1]⟩ 1 none ∈ xtbl := xmem 15 (by decide +kernel) rfl
theorem wc_X4_9 : Cond.classLink RX4 9 RX2 ∈ xtbl := xmem 16 (by decide +kernel) rfl
theorem wc_X4_15 : Cond.classLink RX4 15 RX0 ∈ xtbl := xmem 18 (by decide +kernel) rfl
theorem wc_X4_31 : Cond.classLink RX4 31 "[[I" ∈ xtbl := xmem 20 (by decide +kernel) rfl
theorem wc_X4_46 : Cond.classLink RX4 46 RX1 ∈ xtbl := xmem 22 (by decide +kernel) rfl
theorem wins_RX1 : Cond.instantiable RX1 3 ∈ xtbl := xmem 23 (by decide +kernel) rfl
theorem wi_X1_init : Cond.instanceMethod yX1_init ∈ xtbl := xmem 25 (by decide +kernel) rfl
theorem wcode_X1_init : Cond.code kX1_init.1 kX1_init.2.1 kX1_init.2.2.1 kX1_init.2.2.2.1 ∈ xtbl := xmem 26 (by decide +kernel) rfl
theorem wm_X1_3 : Cond.methodLink RX1 3 objectInit ∈ xtbl := xmem 27 (by decide +kernel) rfl
theorem wf_X1_9 : Cond.fieldLink RX1 9 "PatchBay$Cell" "kind" "I" ∈ xtbl := xmem 28 (by decide +kernel) rfl
theorem wf_X3_40 : Cond.fieldLink RX3 40 "PatchBay$Cell" "kind" "I" ∈ xtbl := xmem 29 (by decide +kernel) rfl
theorem wf_X4_122 : Cond.fieldLink RX4 122 "PatchBay$Cell" "kind" "I" ∈ xtbl := xmem 30 (by decide +kernel) rfl
theorem wf_X1_15 : Cond.fieldLink RX1 15 "PatchBay$Cell" "number" "J" ∈ xtbl := xmem 31 (by decide +kernel) rfl
theorem wf_X3_45 : Cond.fieldLink RX3 45 "PatchBay$Cell" "number" "J" ∈ xtbl := xmem 32 (by decide +kernel) rfl
theorem wf_X4_132 : Cond.fieldLink RX4 132 "PatchBay$Cell" "number" "J" ∈ xtbl := xmem 33 (by decide +kernel) rfl
theorem wf_X1_19 : Cond.fieldLink RX1 19 "PatchBay$Cell" "tape" "LPatchBay$Tape;" ∈ xtbl := xmem 34 (by decide +kernel) rfl
theorem wf_X3_53 : Cond.fieldLink RX3 53 "PatchBay$Cell" "tape" "LPatchBay$Tape;" ∈ xtbl := xmem 35 (by decide +kernel) rfl
theorem wf_X4_140 : Cond.fieldLink RX4 140 "PatchBay$Cell" "tape" "LPatchBay$Tape;" ∈ xtbl := xmem 36 (by decide +kernel) rfl
theorem wa_int : Cond.arrayClass .int ∈ xtbl := xmem 44 (by decide +kernel) rfl
theorem wins_RX2 : Cond.instantiable RX2 6 ∈ xtbl := xmem 45 (by decide +kernel) rfl
theorem wm_X4_56 : Cond.methodLink RX4 56 yX2_init ∈ xtbl := xmem 46 (by decide +kernel) rfl
theorem wi_X2_init : Cond.instanceMethod yX2_init ∈ xtbl := xmem 47 (by decide +kernel) rfl
theorem wcode_X2_init : Cond.code kX2_init.1 kX2_init.2.1 kX2_init.2.2.1 kX2_init.2.2.2.1 ∈ xtbl := xmem 48 (by decide +kernel) rfl
theorem wm_X2_3 : Cond.methodLink RX2 3 objectInit ∈ xtbl := xmem 49 (by decide +kernel) rfl
theorem wf_X2_29 : Cond.fieldLink RX2 29 "PatchBay$Channel" "place" "I" ∈ xtbl := xmem 50 (by decide +kernel) rfl
theorem wf_X4_202 : Cond.fieldLink RX4 202 "PatchBay$Channel" "place" "I" ∈ xtbl := xmem 51 (by decide +kernel) rfl
theorem wf_X2_9 : Cond.fieldLink RX2 9 "PatchBay$Channel" "tape" "LPatchBay$Tape;" ∈ xtbl := xmem 52 (by decide +kernel) rfl
theorem wf_X4_84 : Cond.fieldLink RX4 84 "PatchBay$Channel" "tape" "LPatchBay$Tape;" ∈ xtbl := xmem 53 (by decide +kernel) rfl
theorem wf_X2_15 : Cond.fieldLink RX2 15 "PatchBay$Channel" "plugged" "Z" ∈ xtbl := xmem 54 (by decide +kernel) rfl
theorem wf_X4_88 : Cond.fieldLink RX4 88 "PatchBay$Channel" "plugged" "Z" ∈ xtbl := xmem 55 (by decide +kernel) rfl
theorem wf_X2_19 : Cond.fieldLink RX2 19 "PatchBay$Channel" "head" "I" ∈ xtbl := xmem 56 (by decide +kernel) rfl
theorem wf_X4_92 : Cond.fieldLink RX4 92 "PatchBay$Channel" "head" "I" ∈ xtbl := xmem 57 (by decide +kernel) rfl
theorem wf_X2_23 : Cond.fieldLink RX2 23 "PatchBay$Channel" "step" "I" ∈ xtbl := xmem 58 (by decide +kernel) rfl
theorem wf_X4_95 : Cond.fieldLink RX4 95 "PatchBay$Channel" "step" "I" ∈ xtbl := xmem 59 (by decide +kernel) rfl
theorem wf_X2_26 : Cond.fieldLink RX2 26 "PatchBay$Channel" "loops" "Z" ∈ xtbl := xmem 60 (by decide +kernel) rfl
theorem wf_X4_98 : Cond.fieldLink RX4 98 "PatchBay$Channel" "loops" "Z" ∈ xtbl := xmem 61 (by decide +kernel) rfl
theorem wf_X4_11 : Cond.fieldLink RX4 11 "PatchBay" "channels" "[LPatchBay$Channel;" ∈ xtbl := xmem 75 (by decide +kernel) rfl
theorem wf_X4_17 : Cond.fieldLink RX4 17 "PatchBay" "cables" "[LPatchBay$Cable;" ∈ xtbl := xmem 76 (by decide +kernel) rfl
theorem wf_X4_21 : Cond.fieldLink RX4 21 "PatchBay" "cablesMade" "I" ∈ xtbl := xmem 77 (by decide +kernel) rfl
theorem wf_X4_25 : Cond.fieldLink RX4 25 "PatchBay" "tagsMade" "I" ∈ xtbl := xmem 78 (by decide +kernel) rfl
theorem wf_X4_28 : Cond.fieldLink RX4 28 "PatchBay" "time" "I" ∈ xtbl := xmem 79 (by decide +kernel) rfl
theorem wf_X4_33 : Cond.fieldLink RX4 33 "PatchBay" "faults" "[[I" ∈ xtbl := xmem 80 (by decide +kernel) rfl
theorem wf_X4_36 : Cond.fieldLink RX4 36 "PatchBay" "faultsNoted" "I" ∈ xtbl := xmem 81 (by decide +kernel) rfl
theorem wf_X4_39 : Cond.fieldLink RX4 39 "PatchBay" "met" "[I" ∈ xtbl := xmem 82 (by decide +kernel) rfl
theorem wf_X4_43 : Cond.fieldLink RX4 43 "PatchBay" "latestRefusal" "I" ∈ xtbl := xmem 83 (by decide +kernel) rfl
theorem wf_X4_49 : Cond.fieldLink RX4 49 "PatchBay" "hand" "LPatchBay$Cell;" ∈ xtbl := xmem 84 (by decide +kernel) rfl
theorem wf_X4_53 : Cond.fieldLink RX4 53 "PatchBay" "otherHand" "LPatchBay$Cell;" ∈ xtbl := xmem 85 (by decide +kernel) rfl
theorem wm_L_13 : Cond.methodLink RL 13 yX4_tape ∈ xtbl := xmem 109 (by decide +kernel) rfl
theorem wi_X4_tape : Cond.instanceMethod yX4_tape ∈ xtbl := xmem 110 (by decide +kernel) rfl
theorem ws_X4_tape : Cond.selects yX4_tape.cls yX4_tape yX4_tape ∈ xtbl := xmem 111 (by decide +kernel) rfl
theorem wcode_X4_tape : Cond.code kX4_tape.1 kX4_tape.2.1 kX4_tape.2.2.1 kX4_tape.2.2.2.1 ∈ xtbl := xmem 112 (by decide +kernel) rfl
theorem wm_X4_59 : Cond.methodLink RX4 59 yX4_channelAt ∈ xtbl := xmem 113 (by decide +kernel) rfl
theorem wi_X4_channelAt : Cond.instanceMethod yX4_channelAt ∈ xtbl := xmem 115 (by decide +kernel) rfl
theorem wcode_X4_channelAt : Cond.code kX4_channelAt.1 kX4_channelAt.2.1 kX4_channelAt.2.2.1 kX4_channelAt.2.2.2.1 ∈ xtbl := xmem 116 (by decide +kernel) rfl
theorem wm_X4_63 : Cond.methodLink RX4 63 yX4_isTapeKind ∈ xtbl := xmem 117 (by decide +kernel) rfl
theorem wt_X4_isTapeKind : Cond.static yX4_isTapeKind ∈ xtbl := xmem 118 (by decide +kernel) rfl
theorem wcode_X4_isTapeKind : Cond.code kX4_isTapeKind.1 kX4_isTapeKind.2.1 kX4_isTapeKind.2.2.1 kX4_isTapeKind.2.2.2.1 ∈ xtbl := xmem 119 (by decide +kernel) rfl
theorem wm_X4_67 : Cond.methodLink RX4 67 yX4_answer ∈ xtbl := xmem 120 (by decide +kernel) rfl
theorem wi_X4_answer : Cond.instanceMethod yX4_answer ∈ xtbl := xmem 122 (by decide +kernel) rfl
theorem wcode_X4_answer : Cond.code kX4_answer.1 kX4_answer.2.1 kX4_answer.2.2.1 kX4_answer.2.2.2.1 ∈ xtbl := xmem 123 (by decide +kernel) rfl
theorem wm_X4_129 : Cond.methodLink RX4 129 yX4_note ∈ xtbl := xmem 124 (by decide +kernel) rfl
theorem wi_X4_note : Cond.instanceMethod yX4_note ∈ xtbl := xmem 126 (by decide +kernel) rfl
theorem wcode_X4_note : Cond.code kX4_note.1 kX4_note.2.1 kX4_note.2.2.1 kX4_note.2.2.2.1 ∈ xtbl := xmem 127 (by decide +kernel) rfl
theorem wm_X4_221 : Cond.methodLink RX4 221 yX4_meet ∈ xtbl := xmem 128 (by decide +kernel) rfl
theorem wi_X4_meet : Cond.instanceMethod yX4_meet ∈ xtbl := xmem 130 (by decide +kernel) rfl
theorem wcode_X4_meet : Cond.code kX4_meet.1 kX4_meet.2.1 kX4_meet.2.2.1 kX4_meet.2.2.2.1 ∈ xtbl := xmem 131 (by decide +kernel) rfl
theorem wc_X4_71 : Cond.classLink RX4 71 RX3 ∈ xtbl := xmem 132 (by decide +kernel) rfl
theorem wins_RX3 : Cond.instantiable RX3 5 ∈ xtbl := xmem 133 (by decide +kernel) rfl
theorem wm_X4_73 : Cond.methodLink RX4 73 yX3_init ∈ xtbl := xmem 134 (by decide +kernel) rfl
theorem wi_X3_init : Cond.instanceMethod yX3_init ∈ xtbl := xmem 135 (by decide +kernel) rfl
theorem wcode_X3_init : Cond.code kX3_init.1 kX3_init.2.1 kX3_init.2.2.1 kX3_init.2.2.2.1 ∈ xtbl := xmem 136 (by decide +kernel) rfl
theorem wm_X3_3 : Cond.methodLink RX3 3 objectInit ∈ xtbl := xmem 137 (by decide +kernel) rfl
theorem wc_X3_10 : Cond.classLink RX3 10 RX3 ∈ xtbl := xmem 138 (by decide +kernel) rfl
theorem wt_X4_isPlain : Cond.static yX4_isPlain ∈ xtbl := xmem 141 (by decide +kernel) rfl
theorem wcode_X4_isPlain : Cond.code kX4_isPlain.1 kX4_isPlain.2.1 kX4_isPlain.2.2.1 kX4_isPlain.2.2.2.1 ∈ xtbl := xmem 142 (by decide +kernel) rfl
theorem wf_X3_9 : Cond.fieldLink RX3 9 "PatchBay$Tape" "kind" "I" ∈ xtbl := xmem 143 (by decide +kernel) rfl
theorem wf_X2_36 : Cond.fieldLink RX2 36 "PatchBay$Tape" "kind" "I" ∈ xtbl := xmem 144 (by decide +kernel) rfl
theorem wf_X3_15 : Cond.fieldLink RX3 15 "PatchBay$Tape" "size" "I" ∈ xtbl := xmem 145 (by decide +kernel) rfl
theorem wf_X2_52 : Cond.fieldLink RX2 52 "PatchBay$Tape" "size" "I" ∈ xtbl := xmem 146 (by decide +kernel) rfl
theorem wf_X4_141 : Cond.fieldLink RX4 141 "PatchBay$Tape" "size" "I" ∈ xtbl := xmem 147 (by decide +kernel) rfl
theorem wf_X3_18 : Cond.fieldLink RX3 18 "PatchBay$Tape" "kinds" "[I" ∈ xtbl := xmem 148 (by decide +kernel) rfl
theorem wf_X3_22 : Cond.fieldLink RX3 22 "PatchBay$Tape" "numbers" "[J" ∈ xtbl := xmem 149 (by decide +kernel) rfl
theorem wf_X4_185 : Cond.fieldLink RX4 185 "PatchBay$Tape" "numbers" "[J" ∈ xtbl := xmem 150 (by decide +kernel) rfl
theorem wf_X3_26 : Cond.fieldLink RX3 26 "PatchBay$Tape" "tapes" "[LPatchBay$Tape;" ∈ xtbl := xmem 151 (by decide +kernel) rfl
theorem wa_long : Cond.arrayClass .long ∈ xtbl := xmem 163 (by decide +kernel) rfl
theorem wm_X4_76 : Cond.methodLink RX4 76 yX2_hold ∈ xtbl := xmem 164 (by decide +kernel) rfl
theorem wi_X2_hold : Cond.instanceMethod yX2_hold ∈ xtbl := xmem 165 (by decide +kernel) rfl
theorem ws_X2_hold : Cond.selects yX2_hold.cls yX2_hold yX2_hold ∈ xtbl := xmem 166 (by decide +kernel) rfl
theorem wcode_X2_hold : Cond.code kX2_hold.1 kX2_hold.2.1 kX2_hold.2.2.1 kX2_hold.2.2.2.1 ∈ xtbl := xmem 167 (by decide +kernel) rfl
theorem wm_L_18 : Cond.methodLink RL 18 yX4_plug ∈ xtbl := xmem 168 (by decide +kernel) rfl
theorem wi_X4_plug : Cond.instanceMethod yX4_plug ∈ xtbl := xmem 169 (by decide +kernel) rfl
theorem ws_X4_plug : Cond.selects yX4_plug.cls yX4_plug yX4_plug ∈ xtbl := xmem 170 (by decide +kernel) rfl
theorem wcode_X4_plug : Cond.code kX4_plug.1 kX4_plug.2.1 kX4_plug.2.2.1 kX4_plug.2.2.2.1 ∈ xtbl := xmem 171 (by decide +kernel) rfl
theorem wm_X4_80 : Cond.methodLink RX4 80 yX2_has ∈ xtbl := xmem 172 (by decide +kernel) rfl
theorem wi_X2_has : Cond.instanceMethod yX2_has ∈ xtbl := xmem 173 (by decide +kernel) rfl
theorem ws_X2_has : Cond.selects yX2_has.cls yX2_has yX2_has ∈ xtbl := xmem 174 (by decide +kernel) rfl
theorem wcode_X2_has : Cond.code kX2_has.1 kX2_has.2.1 kX2_has.2.2.1 kX2_has.2.2.2.1 ∈ xtbl := xmem 175 (by decide +kernel) rfl
theorem wm_L_23 : Cond.methodLink RL 23 yX4_strip ∈ xtbl := xmem 176 (by decide +kernel) rfl
theorem wi_X4_strip : Cond.instanceMethod yX4_strip ∈ xtbl := xmem 177 (by decide +kernel) rfl
theorem ws_X4_strip : Cond.selects yX4_strip.cls yX4_strip yX4_strip ∈ xtbl := xmem 178 (by decide +kernel) rfl
theorem wcode_X4_strip : Cond.code kX4_strip.1 kX4_strip.2.1 kX4_strip.2.2.1 kX4_strip.2.2.2.1 ∈ xtbl := xmem 179 (by decide +kernel) rfl
theorem wm_L_27 : Cond.methodLink RL 27 yX4_share ∈ xtbl := xmem 180 (by decide +kernel) rfl
theorem wi_X4_share : Cond.instanceMethod yX4_share ∈ xtbl := xmem 181 (by decide +kernel) rfl
theorem ws_X4_share : Cond.selects yX4_share.cls yX4_share yX4_share ∈ xtbl := xmem 182 (by decide +kernel) rfl
theorem wcode_X4_share : Cond.code kX4_share.1 kX4_share.2.1 kX4_share.2.2.1 kX4_share.2.2.2.1 ∈ xtbl := xmem 183 (by decide +kernel) rfl
theorem wm_L_32 : Cond.methodLink RL 32 yX4_head ∈ xtbl := xmem 184 (by decide +kernel) rfl
theorem wi_X4_head : Cond.instanceMethod yX4_head ∈ xtbl := xmem 185 (by decide +kernel) rfl
theorem ws_X4_head : Cond.selects yX4_head.cls yX4_head yX4_head ∈ xtbl := xmem 186 (by decide +kernel) rfl
theorem wcode_X4_head : Cond.code kX4_head.1 kX4_head.2.1 kX4_head.2.2.1 kX4_head.2.2.2.1 ∈ xtbl := xmem 187 (by decide +kernel) rfl
theorem wm_L_36 : Cond.methodLink RL 36 yX4_step ∈ xtbl := xmem 188 (by decide +kernel) rfl
theorem wi_X4_step : Cond.instanceMethod yX4_step ∈ xtbl := xmem 189 (by decide +kernel) rfl
theorem ws_X4_step : Cond.selects yX4_step.cls yX4_step yX4_step ∈ xtbl := xmem 190 (by decide +kernel) rfl
theorem wcode_X4_step : Cond.code kX4_step.1 kX4_step.2.1 kX4_step.2.2.1 kX4_step.2.2.2.1 ∈ xtbl := xmem 191 (by decide +kernel) rfl
theorem wm_L_40 : Cond.methodLink RL 40 yX4_loop ∈ xtbl := xmem 192 (by decide +kernel) rfl
theorem wi_X4_loop : Cond.instanceMethod yX4_loop ∈ xtbl := xmem 193 (by decide +kernel) rfl
theorem ws_X4_loop : Cond.selects yX4_loop.cls yX4_loop yX4_loop ∈ xtbl := xmem 194 (by decide +kernel) rfl
theorem wcode_X4_loop : Cond.code kX4_loop.1 kX4_loop.2.1 kX4_loop.2.2.1 kX4_loop.2.2.2.1 ∈ xtbl := xmem 195 (by decide +kernel) rfl
theorem wm_L_47 : Cond.methodLink RL 47 yX4_stamp ∈ xtbl := xmem 196 (by decide +kernel) rfl
theorem wi_X4_stamp : Cond.instanceMethod yX4_stamp ∈ xtbl := xmem 197 (by decide +kernel) rfl
theorem ws_X4_stamp : Cond.selects yX4_stamp.cls yX4_stamp yX4_stamp ∈ xtbl := xmem 198 (by decide +kernel) rfl
theorem wcode_X4_stamp : Cond.code kX4_stamp.1 kX4_stamp.2.1 kX4_stamp.2.2.1 kX4_stamp.2.2.2.1 ∈ xtbl := xmem 199 (by decide +kernel) rfl
theorem wm_X4_101 : Cond.methodLink RX4 101 yX4_isPlain ∈ xtbl := xmem 200 (by decide +kernel) rfl
theorem wm_X4_104 : Cond.methodLink RX4 104 yX2_refusalOfPlain ∈ xtbl := xmem 201 (by decide +kernel) rfl
theorem wi_X2_refusalOfPlain : Cond.instanceMethod yX2_refusalOfPlain ∈ xtbl := xmem 202 (by decide +kernel) rfl
theorem ws_X2_refusalOfPlain : Cond.selects yX2_refusalOfPlain.cls yX2_refusalOfPlain yX2_refusalOfPlain ∈ xtbl := xmem 203 (by decide +kernel) rfl
theorem wcode_X2_refusalOfPlain : Cond.code kX2_refusalOfPlain.1 kX2_refusalOfPlain.2.1 kX2_refusalOfPlain.2.2.1 kX2_refusalOfPlain.2.2.2.1 ∈ xtbl := xmem 204 (by decide +kernel) rfl
theorem wm_X2_32 : Cond.methodLink RX2 32 yX2_refusalWithoutTape ∈ xtbl := xmem 205 (by decide +kernel) rfl
theorem wi_X2_refusalWithoutTape : Cond.instanceMethod yX2_refusalWithoutTape ∈ xtbl := xmem 206 (by decide +kernel) rfl
theorem ws_X2_refusalWithoutTape : Cond.selects yX2_refusalWithoutTape.cls yX2_refusalWithoutTape yX2_refusalWithoutTape ∈ xtbl := xmem 207 (by decide +kernel) rfl
theorem wcode_X2_refusalWithoutTape : Cond.code kX2_refusalWithoutTape.1 kX2_refusalWithoutTape.2.1 kX2_refusalWithoutTape.2.2.1 kX2_refusalWithoutTape.2.2.2.1 ∈ xtbl := xmem 208 (by decide +kernel) rfl
theorem wm_X4_107 : Cond.methodLink RX4 107 yX4_fitted ∈ xtbl := xmem 210 (by decide +kernel) rfl
theorem wt_X4_fitted : Cond.static yX4_fitted ∈ xtbl := xmem 211 (by decide +kernel) rfl
theorem wcode_X4_fitted : Cond.code kX4_fitted.1 kX4_fitted.2.1 kX4_fitted.2.2.1 kX4_fitted.2.2.2.1 ∈ xtbl := xmem 212 (by decide +kernel) rfl
theorem wm_X4_111 : Cond.methodLink RX4 111 yX1_become ∈ xtbl := xmem 213 (by decide +kernel) rfl
theorem wi_X1_become : Cond.instanceMethod yX1_become ∈ xtbl := xmem 214 (by decide +kernel) rfl
theorem ws_X1_become : Cond.selects yX1_become.cls yX1_become yX1_become ∈ xtbl := xmem 215 (by decide +kernel) rfl
theorem wcode_X1_become : Cond.code kX1_become.1 kX1_become.2.1 kX1_become.2.2.1 kX1_become.2.2.2.1 ∈ xtbl := xmem 216 (by decide +kernel) rfl
theorem wm_X4_115 : Cond.methodLink RX4 115 yX2_write ∈ xtbl := xmem 217 (by decide +kernel) rfl
theorem wi_X2_write : Cond.instanceMethod yX2_write ∈ xtbl := xmem 218 (by decide +kernel) rfl
theorem ws_X2_write : Cond.selects yX2_write.cls yX2_write yX2_write ∈ xtbl := xmem 219 (by decide +kernel) rfl
theorem wcode_X2_write : Cond.code kX2_write.1 kX2_write.2.1 kX2_write.2.2.1 kX2_write.2.2.2.1 ∈ xtbl := xmem 220 (by decide +kernel) rfl
theorem wm_X2_49 : Cond.methodLink RX2 49 yX3_accept ∈ xtbl := xmem 221 (by decide +kernel) rfl
theorem wi_X3_accept : Cond.instanceMethod yX3_accept ∈ xtbl := xmem 222 (by decide +kernel) rfl
theorem ws_X3_accept : Cond.selects yX3_accept.cls yX3_accept yX3_accept ∈ xtbl := xmem 223 (by decide +kernel) rfl
theorem wcode_X3_accept : Cond.code kX3_accept.1 kX3_accept.2.1 kX3_accept.2.2.1 kX3_accept.2.2.2.1 ∈ xtbl := xmem 224 (by decide +kernel) rfl
theorem wt_X4_takes : Cond.static yX4_takes ∈ xtbl := xmem 226 (by decide +kernel) rfl
theorem wcode_X4_takes : Cond.code kX4_takes.1 kX4_takes.2.1 kX4_takes.2.2.1 kX4_takes.2.2.2.1 ∈ xtbl := xmem 227 (by decide +kernel) rfl
theorem wm_L_52 : Cond.methodLink RL 52 yX4_probe ∈ xtbl := xmem 229 (by decide +kernel) rfl
theorem wi_X4_probe : Cond.instanceMethod yX4_probe ∈ xtbl := xmem 230 (by decide +kernel) rfl
theorem ws_X4_probe : Cond.selects yX4_probe.cls yX4_probe yX4_probe ∈ xtbl := xmem 231 (by decide +kernel) rfl
theorem wcode_X4_probe : Cond.code kX4_probe.1 kX4_probe.2.1 kX4_probe.2.2.1 kX4_probe.2.2.2.1 ∈ xtbl := xmem 232 (by decide +kernel) rfl
theorem wm_X4_119 : Cond.methodLink RX4 119 yX2_read ∈ xtbl := xmem 233 (by decide +kernel) rfl
theorem wi_X2_read : Cond.instanceMethod yX2_read ∈ xtbl := xmem 234 (by decide +kernel) rfl
theorem ws_X2_read : Cond.selects yX2_read.cls yX2_read yX2_read ∈ xtbl := xmem 235 (by decide +kernel) rfl
theorem wcode_X2_read : Cond.code kX2_read.1 kX2_read.2.1 kX2_read.2.2.1 kX2_read.2.2.2.1 ∈ xtbl := xmem 236 (by decide +kernel) rfl
theorem wm_X2_45 : Cond.methodLink RX2 45 yX3_copyTo ∈ xtbl := xmem 237 (by decide +kernel) rfl
theorem wi_X3_copyTo : Cond.instanceMethod yX3_copyTo ∈ xtbl := xmem 238 (by decide +kernel) rfl
theorem ws_X3_copyTo : Cond.selects yX3_copyTo.cls yX3_copyTo yX3_copyTo ∈ xtbl := xmem 239 (by decide +kernel) rfl
theorem wcode_X3_copyTo : Cond.code kX3_copyTo.1 kX3_copyTo.2.1 kX3_copyTo.2.2.1 kX3_copyTo.2.2.2.1 ∈ xtbl := xmem 240 (by decide +kernel) rfl
theorem wm_X3_34 : Cond.methodLink RX3 34 yX1_become ∈ xtbl := xmem 241 (by decide +kernel) rfl
theorem wm_X4_125 : Cond.methodLink RX4 125 yX4_takes ∈ xtbl := xmem 242 (by decide +kernel) rfl
theorem wm_L_57 : Cond.methodLink RL 57 yX4_tag ∈ xtbl := xmem 243 (by decide +kernel) rfl
theorem wi_X4_tag : Cond.instanceMethod yX4_tag ∈ xtbl := xmem 244 (by decide +kernel) rfl
theorem ws_X4_tag : Cond.selects yX4_tag.cls yX4_tag yX4_tag ∈ xtbl := xmem 245 (by decide +kernel) rfl
theorem wcode_X4_tag : Cond.code kX4_tag.1 kX4_tag.2.1 kX4_tag.2.2.1 kX4_tag.2.2.2.1 ∈ xtbl := xmem 246 (by decide +kernel) rfl
theorem wm_L_62 : Cond.methodLink RL 62 yX4_rack ∈ xtbl := xmem 247 (by decide +kernel) rfl
theorem wi_X4_rack : Cond.instanceMethod yX4_rack ∈ xtbl := xmem 248 (by decide +kernel) rfl
theorem ws_X4_rack : Cond.selects yX4_rack.cls yX4_rack yX4_rack ∈ xtbl := xmem 249 (by decide +kernel) rfl
theorem wcode_X4_rack : Cond.code kX4_rack.1 kX4_rack.2.1 kX4_rack.2.2.1 kX4_rack.2.2.2.1 ∈ xtbl := xmem 250 (by decide +kernel) rfl
theorem wm_X4_136 : Cond.methodLink RX4 136 yX2_asCell ∈ xtbl := xmem 251 (by decide +kernel) rfl
theorem wi_X2_asCell : Cond.instanceMethod yX2_asCell ∈ xtbl := xmem 252 (by decide +kernel) rfl
theorem ws_X2_asCell : Cond.selects yX2_asCell.cls yX2_asCell yX2_asCell ∈ xtbl := xmem 253 (by decide +kernel) rfl
theorem wcode_X2_asCell : Cond.code kX2_asCell.1 kX2_asCell.2.1 kX2_asCell.2.2.1 kX2_asCell.2.2.2.1 ∈ xtbl := xmem 254 (by decide +kernel) rfl
theorem wm_X2_55 : Cond.methodLink RX2 55 yX1_become ∈ xtbl := xmem 255 (by decide +kernel) rfl
theorem wm_X2_61 : Cond.methodLink RX2 61 yX2_has ∈ xtbl := xmem 256 (by decide +kernel) rfl
theorem wm_L_66 : Cond.methodLink RL 66 yX4_unrack ∈ xtbl := xmem 257 (by decide +kernel) rfl
theorem wi_X4_unrack : Cond.instanceMethod yX4_unrack ∈ xtbl := xmem 258 (by decide +kernel) rfl
theorem ws_X4_unrack : Cond.selects yX4_unrack.cls yX4_unrack yX4_unrack ∈ xtbl := xmem 259 (by decide +kernel) rfl
theorem wcode_X4_unrack : Cond.code kX4_unrack.1 kX4_unrack.2.1 kX4_unrack.2.2.1 kX4_unrack.2.2.2.1 ∈ xtbl := xmem 260 (by decide +kernel) rfl
theorem wm_L_70 : Cond.methodLink RL 70 yX4_cable ∈ xtbl := xmem 261 (by decide +kernel) rfl
theorem wi_X4_cable : Cond.instanceMethod yX4_cable ∈ xtbl := xmem 262 (by decide +kernel) rfl
theorem ws_X4_cable : Cond.selects yX4_cable.cls yX4_cable yX4_cable ∈ xtbl := xmem 263 (by decide +kernel) rfl
theorem wcode_X4_cable : Cond.code kX4_cable.1 kX4_cable.2.1 kX4_cable.2.2.1 kX4_cable.2.2.2.1 ∈ xtbl := xmem 264 (by decide +kernel) rfl
theorem wins_RX0 : Cond.instantiable RX0 9 ∈ xtbl := xmem 265 (by decide +kernel) rfl
theorem wm_X4_144 : Cond.methodLink RX4 144 yX0_init ∈ xtbl := xmem 266 (by decide +kernel) rfl
theorem wi_X0_init : Cond.instanceMethod yX0_init ∈ xtbl := xmem 267 (by decide +kernel) rfl
theorem wcode_X0_init : Cond.code kX0_init.1 kX0_init.2.1 kX0_init.2.2.1 kX0_init.2.2.2.1 ∈ xtbl := xmem 268 (by decide +kernel) rfl
theorem wm_X0_1 : Cond.methodLink RX0 1 objectInit ∈ xtbl := xmem 269 (by decide +kernel) rfl
theorem wf_X0_26 : Cond.fieldLink RX0 26 "PatchBay$Cable" "place" "I" ∈ xtbl := xmem 270 (by decide +kernel) rfl
theorem wf_X4_224 : Cond.fieldLink RX4 224 "PatchBay$Cable" "place" "I" ∈ xtbl := xmem 271 (by decide +kernel) rfl
theorem wf_X0_29 : Cond.fieldLink RX0 29 "PatchBay$Cable" "kind" "I" ∈ xtbl := xmem 272 (by decide +kernel) rfl
theorem wf_X4_197 : Cond.fieldLink RX4 197 "PatchBay$Cable" "kind" "I" ∈ xtbl := xmem 273 (by decide +kernel) rfl
theorem wf_X0_32 : Cond.fieldLink RX0 32 "PatchBay$Cable" "from" "LPatchBay$Channel;" ∈ xtbl := xmem 274 (by decide +kernel) rfl
theorem wf_X4_198 : Cond.fieldLink RX4 198 "PatchBay$Cable" "from" "LPatchBay$Channel;" ∈ xtbl := xmem 275 (by decide +kernel) rfl
theorem wf_X0_36 : Cond.fieldLink RX0 36 "PatchBay$Cable" "to" "LPatchBay$Channel;" ∈ xtbl := xmem 276 (by decide +kernel) rfl
theorem wf_X4_205 : Cond.fieldLink RX4 205 "PatchBay$Cable" "to" "LPatchBay$Channel;" ∈ xtbl := xmem 277 (by decide +kernel) rfl
theorem wf_X0_7 : Cond.fieldLink RX0 7 "PatchBay$Cable" "in" "Z" ∈ xtbl := xmem 278 (by decide +kernel) rfl
theorem wf_X4_154 : Cond.fieldLink RX4 154 "PatchBay$Cable" "in" "Z" ∈ xtbl := xmem 279 (by decide +kernel) rfl
theorem wf_X0_13 : Cond.fieldLink RX0 13 "PatchBay$Cable" "patience" "I" ∈ xtbl := xmem 280 (by decide +kernel) rfl
theorem wf_X4_151 : Cond.fieldLink RX4 151 "PatchBay$Cable" "patience" "I" ∈ xtbl := xmem 281 (by decide +kernel) rfl
theorem wf_X0_17 : Cond.fieldLink RX0 17 "PatchBay$Cable" "strikes" "I" ∈ xtbl := xmem 282 (by decide +kernel) rfl
theorem wf_X4_157 : Cond.fieldLink RX4 157 "PatchBay$Cable" "strikes" "I" ∈ xtbl := xmem 283 (by decide +kernel) rfl
theorem wf_X0_20 : Cond.fieldLink RX0 20 "PatchBay$Cable" "timesCarried" "I" ∈ xtbl := xmem 284 (by decide +kernel) rfl
theorem wf_X4_208 : Cond.fieldLink RX4 208 "PatchBay$Cable" "timesCarried" "I" ∈ xtbl := xmem 285 (by decide +kernel) rfl
theorem wf_X0_23 : Cond.fieldLink RX0 23 "PatchBay$Cable" "timesShut" "I" ∈ xtbl := xmem 286 (by decide +kernel) rfl
theorem wf_X4_211 : Cond.fieldLink RX4 211 "PatchBay$Cable" "timesShut" "I" ∈ xtbl := xmem 287 (by decide +kernel) rfl
theorem wm_L_74 : Cond.methodLink RL 74 yX4_patience ∈ xtbl := xmem 307 (by decide +kernel) rfl
theorem wi_X4_patience : Cond.instanceMethod yX4_patience ∈ xtbl := xmem 308 (by decide +kernel) rfl
theorem ws_X4_patience : Cond.selects yX4_patience.cls yX4_patience yX4_patience ∈ xtbl := xmem 309 (by decide +kernel) rfl
theorem wcode_X4_patience : Cond.code kX4_patience.1 kX4_patience.2.1 kX4_patience.2.2.1 kX4_patience.2.2.2.1 ∈ xtbl := xmem 310 (by decide +kernel) rfl
theorem wm_X4_147 : Cond.methodLink RX4 147 yX4_cableAt ∈ xtbl := xmem 311 (by decide +kernel) rfl
theorem wi_X4_cableAt : Cond.instanceMethod yX4_cableAt ∈ xtbl := xmem 313 (by decide +kernel) rfl
theorem wcode_X4_cableAt : Cond.code kX4_cableAt.1 kX4_cableAt.2.1 kX4_cableAt.2.2.1 kX4_cableAt.2.2.2.1 ∈ xtbl := xmem 314 (by decide +kernel) rfl
theorem wm_L_78 : Cond.methodLink RL 78 yX4_pull ∈ xtbl := xmem 315 (by decide +kernel) rfl
theorem wi_X4_pull : Cond.instanceMethod yX4_pull ∈ xtbl := xmem 316 (by decide +kernel) rfl
theorem ws_X4_pull : Cond.selects yX4_pull.cls yX4_pull yX4_pull ∈ xtbl := xmem 317 (by decide +kernel) rfl
theorem wcode_X4_pull : Cond.code kX4_pull.1 kX4_pull.2.1 kX4_pull.2.2.1 kX4_pull.2.2.2.1 ∈ xtbl := xmem 318 (by decide +kernel) rfl
theorem wm_L_82 : Cond.methodLink RL 82 yX4_plugIn ∈ xtbl := xmem 319 (by decide +kernel) rfl
theorem wi_X4_plugIn : Cond.instanceMethod yX4_plugIn ∈ xtbl := xmem 320 (by decide +kernel) rfl
theorem ws_X4_plugIn : Cond.selects yX4_plugIn.cls yX4_plugIn yX4_plugIn ∈ xtbl := xmem 321 (by decide +kernel) rfl
theorem wcode_X4_plugIn : Cond.code kX4_plugIn.1 kX4_plugIn.2.1 kX4_plugIn.2.2.1 kX4_plugIn.2.2.2.1 ∈ xtbl := xmem 322 (by decide +kernel) rfl
theorem wm_L_86 : Cond.methodLink RL 86 yX4_tick ∈ xtbl := xmem 323 (by decide +kernel) rfl
theorem wi_X4_tick : Cond.instanceMethod yX4_tick ∈ xtbl := xmem 324 (by decide +kernel) rfl
theorem ws_X4_tick : Cond.selects yX4_tick.cls yX4_tick yX4_tick ∈ xtbl := xmem 325 (by decide +kernel) rfl
theorem wcode_X4_tick : Cond.code kX4_tick.1 kX4_tick.2.1 kX4_tick.2.2.1 kX4_tick.2.2.2.1 ∈ xtbl := xmem 326 (by decide +kernel) rfl
theorem wm_X4_160 : Cond.methodLink RX4 160 yX4_carry ∈ xtbl := xmem 327 (by decide +kernel) rfl
theorem wi_X4_carry : Cond.instanceMethod yX4_carry ∈ xtbl := xmem 329 (by decide +kernel) rfl
theorem wcode_X4_carry : Cond.code kX4_carry.1 kX4_carry.2.1 kX4_carry.2.2.1 kX4_carry.2.2.2.1 ∈ xtbl := xmem 330 (by decide +kernel) rfl
theorem wm_X4_231 : Cond.methodLink RX4 231 yX4_gate ∈ xtbl := xmem 331 (by decide +kernel) rfl
theorem wi_X4_gate : Cond.instanceMethod yX4_gate ∈ xtbl := xmem 333 (by decide +kernel) rfl
theorem wcode_X4_gate : Cond.code kX4_gate.1 kX4_gate.2.1 kX4_gate.2.2.1 kX4_gate.2.2.2.1 ∈ xtbl := xmem 334 (by decide +kernel) rfl
theorem wm_X4_234 : Cond.methodLink RX4 234 yX4_pair ∈ xtbl := xmem 335 (by decide +kernel) rfl
theorem wi_X4_pair : Cond.instanceMethod yX4_pair ∈ xtbl := xmem 337 (by decide +kernel) rfl
theorem wcode_X4_pair : Cond.code kX4_pair.1 kX4_pair.2.1 kX4_pair.2.2.1 kX4_pair.2.2.2.1 ∈ xtbl := xmem 338 (by decide +kernel) rfl
theorem wm_X4_172 : Cond.methodLink RX4 172 yX4_wire ∈ xtbl := xmem 339 (by decide +kernel) rfl
theorem wi_X4_wire : Cond.instanceMethod yX4_wire ∈ xtbl := xmem 341 (by decide +kernel) rfl
theorem wcode_X4_wire : Cond.code kX4_wire.1 kX4_wire.2.1 kX4_wire.2.2.1 kX4_wire.2.2.2.1 ∈ xtbl := xmem 342 (by decide +kernel) rfl
theorem wm_X4_237 : Cond.methodLink RX4 237 yX4_swap ∈ xtbl := xmem 343 (by decide +kernel) rfl
theorem wi_X4_swap : Cond.instanceMethod yX4_swap ∈ xtbl := xmem 345 (by decide +kernel) rfl
theorem wcode_X4_swap : Cond.code kX4_swap.1 kX4_swap.2.1 kX4_swap.2.2.1 kX4_swap.2.2.2.1 ∈ xtbl := xmem 346 (by decide +kernel) rfl
theorem wm_X4_164 : Cond.methodLink RX4 164 yX4_keepBooks ∈ xtbl := xmem 347 (by decide +kernel) rfl
theorem wi_X4_keepBooks : Cond.instanceMethod yX4_keepBooks ∈ xtbl := xmem 349 (by decide +kernel) rfl
theorem wcode_X4_keepBooks : Cond.code kX4_keepBooks.1 kX4_keepBooks.2.1 kX4_keepBooks.2.2.1 kX4_keepBooks.2.2.2.1 ∈ xtbl := xmem 350 (by decide +kernel) rfl
theorem wm_X4_225 : Cond.methodLink RX4 225 yX4_noteFault ∈ xtbl := xmem 351 (by decide +kernel) rfl
theorem wi_X4_noteFault : Cond.instanceMethod yX4_noteFault ∈ xtbl := xmem 353 (by decide +kernel) rfl
theorem wcode_X4_noteFault : Cond.code kX4_noteFault.1 kX4_noteFault.2.1 kX4_noteFault.2.2.1 kX4_noteFault.2.2.2.1 ∈ xtbl := xmem 354 (by decide +kernel) rfl
theorem wm_X4_214 : Cond.methodLink RX4 214 yJ9_floorMod_7cf53 ∈ xtbl := xmem 355 (by decide +kernel) rfl
theorem wt_J9_floorMod_7cf53 : Cond.static yJ9_floorMod_7cf53 ∈ xtbl := xmem 356 (by decide +kernel) rfl
theorem wcode_J9_floorMod_7cf53 : Cond.code kJ9_floorMod_7cf53.1 kJ9_floorMod_7cf53.2.1 kJ9_floorMod_7cf53.2.2.1 kJ9_floorMod_7cf53.2.2.2.1 ∈ xtbl := xmem 357 (by decide +kernel) rfl
theorem wm_X4_228 : Cond.methodLink RX4 228 yX0_strike ∈ xtbl := xmem 358 (by decide +kernel) rfl
theorem wi_X0_strike : Cond.instanceMethod yX0_strike ∈ xtbl := xmem 359 (by decide +kernel) rfl
theorem ws_X0_strike : Cond.selects yX0_strike.cls yX0_strike yX0_strike ∈ xtbl := xmem 360 (by decide +kernel) rfl
theorem wcode_X0_strike : Cond.code kX0_strike.1 kX0_strike.2.1 kX0_strike.2.2.1 kX0_strike.2.2.2.1 ∈ xtbl := xmem 361 (by decide +kernel) rfl
theorem wm_X4_168 : Cond.methodLink RX4 168 yX4_move ∈ xtbl := xmem 362 (by decide +kernel) rfl
theorem wi_X4_move : Cond.instanceMethod yX4_move ∈ xtbl := xmem 364 (by decide +kernel) rfl
theorem wcode_X4_move : Cond.code kX4_move.1 kX4_move.2.1 kX4_move.2.2.1 kX4_move.2.2.2.1 ∈ xtbl := xmem 365 (by decide +kernel) rfl
theorem wm_X4_176 : Cond.methodLink RX4 176 yX2_refusalWithoutTape ∈ xtbl := xmem 366 (by decide +kernel) rfl
theorem wm_L_91 : Cond.methodLink RL 91 yX4_splice ∈ xtbl := xmem 367 (by decide +kernel) rfl
theorem wi_X4_splice : Cond.instanceMethod yX4_splice ∈ xtbl := xmem 368 (by decide +kernel) rfl
theorem ws_X4_splice : Cond.selects yX4_splice.cls yX4_splice yX4_splice ∈ xtbl := xmem 369 (by decide +kernel) rfl
theorem wcode_X4_splice : Cond.code kX4_splice.1 kX4_splice.2.1 kX4_splice.2.2.1 kX4_splice.2.2.2.1 ∈ xtbl := xmem 370 (by decide +kernel) rfl
theorem wm_L_96 : Cond.methodLink RL 96 yX4_dub ∈ xtbl := xmem 371 (by decide +kernel) rfl
theorem wi_X4_dub : Cond.instanceMethod yX4_dub ∈ xtbl := xmem 372 (by decide +kernel) rfl
theorem ws_X4_dub : Cond.selects yX4_dub.cls yX4_dub yX4_dub ∈ xtbl := xmem 373 (by decide +kernel) rfl
theorem wcode_X4_dub : Cond.code kX4_dub.1 kX4_dub.2.1 kX4_dub.2.2.1 kX4_dub.2.2.2.1 ∈ xtbl := xmem 374 (by decide +kernel) rfl
theorem wm_X4_179 : Cond.methodLink RX4 179 yX3_copyTo ∈ xtbl := xmem 375 (by decide +kernel) rfl
theorem wm_X4_182 : Cond.methodLink RX4 182 yX3_accept ∈ xtbl := xmem 376 (by decide +kernel) rfl
theorem wm_L_100 : Cond.methodLink RL 100 yX4_sum ∈ xtbl := xmem 377 (by decide +kernel) rfl
theorem wi_X4_sum : Cond.instanceMethod yX4_sum ∈ xtbl := xmem 378 (by decide +kernel) rfl
theorem ws_X4_sum : Cond.selects yX4_sum.cls yX4_sum yX4_sum ∈ xtbl := xmem 379 (by decide +kernel) rfl
theorem wcode_X4_sum : Cond.code kX4_sum.1 kX4_sum.2.1 kX4_sum.2.2.1 kX4_sum.2.2.2.1 ∈ xtbl := xmem 380 (by decide +kernel) rfl
theorem wm_L_105 : Cond.methodLink RL 105 yX4_match ∈ xtbl := xmem 381 (by decide +kernel) rfl
theorem wi_X4_match : Cond.instanceMethod yX4_match ∈ xtbl := xmem 382 (by decide +kernel) rfl
theorem ws_X4_match : Cond.selects yX4_match.cls yX4_match yX4_match ∈ xtbl := xmem 383 (by decide +kernel) rfl
theorem wcode_X4_match : Cond.code kX4_match.1 kX4_match.2.1 kX4_match.2.2.1 kX4_match.2.2.2.1 ∈ xtbl := xmem 384 (by decide +kernel) rfl
theorem wm_X4_189 : Cond.methodLink RX4 189 yJ9_min_7cf53 ∈ xtbl := xmem 385 (by decide +kernel) rfl
theorem wt_J9_min_7cf53 : Cond.static yJ9_min_7cf53 ∈ xtbl := xmem 386 (by decide +kernel) rfl
theorem wcode_J9_min_7cf53 : Cond.code kJ9_min_7cf53.1 kJ9_min_7cf53.2.1 kJ9_min_7cf53.2.2.1 kJ9_min_7cf53.2.2.2.1 ∈ xtbl := xmem 387 (by decide +kernel) rfl
theorem wm_L_109 : Cond.methodLink RL 109 yX4_why ∈ xtbl := xmem 388 (by decide +kernel) rfl
theorem wi_X4_why : Cond.instanceMethod yX4_why ∈ xtbl := xmem 389 (by decide +kernel) rfl
theorem ws_X4_why : Cond.selects yX4_why.cls yX4_why yX4_why ∈ xtbl := xmem 390 (by decide +kernel) rfl
theorem wcode_X4_why : Cond.code kX4_why.1 kX4_why.2.1 kX4_why.2.2.1 kX4_why.2.2.2.1 ∈ xtbl := xmem 391 (by decide +kernel) rfl
theorem wm_L_113 : Cond.methodLink RL 113 yX4_number ∈ xtbl := xmem 392 (by decide +kernel) rfl
theorem wi_X4_number : Cond.instanceMethod yX4_number ∈ xtbl := xmem 393 (by decide +kernel) rfl
theorem ws_X4_number : Cond.selects yX4_number.cls yX4_number yX4_number ∈ xtbl := xmem 394 (by decide +kernel) rfl
theorem wcode_X4_number : Cond.code kX4_number.1 kX4_number.2.1 kX4_number.2.2.1 kX4_number.2.2.2.1 ∈ xtbl := xmem 395 (by decide +kernel) rfl
theorem wm_L_118 : Cond.methodLink RL 118 yX4_kind ∈ xtbl := xmem 396 (by decide +kernel) rfl
theorem wi_X4_kind : Cond.instanceMethod yX4_kind ∈ xtbl := xmem 397 (by decide +kernel) rfl
theorem ws_X4_kind : Cond.selects yX4_kind.cls yX4_kind yX4_kind ∈ xtbl := xmem 398 (by decide +kernel) rfl
theorem wcode_X4_kind : Cond.code kX4_kind.1 kX4_kind.2.1 kX4_kind.2.2.1 kX4_kind.2.2.2.1 ∈ xtbl := xmem 399 (by decide +kernel) rfl
theorem wm_L_122 : Cond.methodLink RL 122 yX4_cells ∈ xtbl := xmem 400 (by decide +kernel) rfl
theorem wi_X4_cells : Cond.instanceMethod yX4_cells ∈ xtbl := xmem 401 (by decide +kernel) rfl
theorem ws_X4_cells : Cond.selects yX4_cells.cls yX4_cells yX4_cells ∈ xtbl := xmem 402 (by decide +kernel) rfl
theorem wcode_X4_cells : Cond.code kX4_cells.1 kX4_cells.2.1 kX4_cells.2.2.1 kX4_cells.2.2.2.1 ∈ xtbl := xmem 403 (by decide +kernel) rfl
theorem wm_L_126 : Cond.methodLink RL 126 yX4_of ∈ xtbl := xmem 404 (by decide +kernel) rfl
theorem wi_X4_of : Cond.instanceMethod yX4_of ∈ xtbl := xmem 405 (by decide +kernel) rfl
theorem ws_X4_of : Cond.selects yX4_of.cls yX4_of yX4_of ∈ xtbl := xmem 406 (by decide +kernel) rfl
theorem wcode_X4_of : Cond.code kX4_of.1 kX4_of.2.1 kX4_of.2.2.1 kX4_of.2.2.2.1 ∈ xtbl := xmem 407 (by decide +kernel) rfl
theorem wk_X4_196 : Cond.constant RX4 196 (-2147483648) ∈ xtbl := xmem 408 (by decide +kernel) rfl
theorem wm_L_130 : Cond.methodLink RL 130 yX4_told ∈ xtbl := xmem 409 (by decide +kernel) rfl
theorem wi_X4_told : Cond.instanceMethod yX4_told ∈ xtbl := xmem 410 (by decide +kernel) rfl
theorem ws_X4_told : Cond.selects yX4_told.cls yX4_told yX4_told ∈ xtbl := xmem 411 (by decide +kernel) rfl
theorem wcode_X4_told : Cond.code kX4_told.1 kX4_told.2.1 kX4_told.2.2.1 kX4_told.2.2.2.1 ∈ xtbl := xmem 412 (by decide +kernel) rfl
theorem wm_L_134 : Cond.methodLink RL 134 yX4_fault ∈ xtbl := xmem 413 (by decide +kernel) rfl
theorem wi_X4_fault : Cond.instanceMethod yX4_fault ∈ xtbl := xmem 414 (by decide +kernel) rfl
theorem ws_X4_fault : Cond.selects yX4_fault.cls yX4_fault yX4_fault ∈ xtbl := xmem 415 (by decide +kernel) rfl
theorem wcode_X4_fault : Cond.code kX4_fault.1 kX4_fault.2.1 kX4_fault.2.2.1 kX4_fault.2.2.2.1 ∈ xtbl := xmem 416 (by decide +kernel) rfl
theorem wm_L_138 : Cond.methodLink RL 138 yX4_count ∈ xtbl := xmem 417 (by decide +kernel) rfl
theorem wi_X4_count : Cond.instanceMethod yX4_count ∈ xtbl := xmem 418 (by decide +kernel) rfl
theorem ws_X4_count : Cond.selects yX4_count.cls yX4_count yX4_count ∈ xtbl := xmem 419 (by decide +kernel) rfl
theorem wcode_X4_count : Cond.code kX4_count.1 kX4_count.2.1 kX4_count.2.2.1 kX4_count.2.2.2.1 ∈ xtbl := xmem 420 (by decide +kernel) rfl
theorem wm_X4_217 : Cond.methodLink RX4 217 yX4_timesMet ∈ xtbl := xmem 421 (by decide +kernel) rfl
theorem wi_X4_timesMet : Cond.instanceMethod yX4_timesMet ∈ xtbl := xmem 423 (by decide +kernel) rfl
theorem wcode_X4_timesMet : Cond.code kX4_timesMet.1 kX4_timesMet.2.1 kX4_timesMet.2.2.1 kX4_timesMet.2.2.2.1 ∈ xtbl := xmem 424 (by decide +kernel) rfl
theorem wc_L_10 : Cond.classLink RL 10 RX5 ∈ xtbl := xmem 425 (by decide +kernel) rfl
theorem wins_RX5 : Cond.instantiable RX5 26 ∈ xtbl := xmem 426 (by decide +kernel) rfl
theorem wm_L_12 : Cond.methodLink RL 12 yX5_init ∈ xtbl := xmem 427 (by decide +kernel) rfl
theorem wi_X5_init : Cond.instanceMethod yX5_init ∈ xtbl := xmem 428 (by decide +kernel) rfl
theorem wcode_X5_init : Cond.code kX5_init.1 kX5_init.2.1 kX5_init.2.2.1 kX5_init.2.2.2.1 ∈ xtbl := xmem 429 (by decide +kernel) rfl
theorem wm_X5_1 : Cond.methodLink RX5 1 objectInit ∈ xtbl := xmem 430 (by decide +kernel) rfl
theorem wf_X5_7 : Cond.fieldLink RX5 7 "PatchBayModel" "tapeKind" "[I" ∈ xtbl := xmem 431 (by decide +kernel) rfl
theorem wf_X5_13 : Cond.fieldLink RX5 13 "PatchBayModel" "tapeSize" "[I" ∈ xtbl := xmem 432 (by decide +kernel) rfl
theorem wf_X5_16 : Cond.fieldLink RX5 16 "PatchBayModel" "used" "[Z" ∈ xtbl := xmem 433 (by decide +kernel) rfl
theorem wf_X5_20 : Cond.fieldLink RX5 20 "PatchBayModel" "cell" "[J" ∈ xtbl := xmem 434 (by decide +kernel) rfl
theorem wf_X5_153 : Cond.fieldLink RX5 153 "PatchBayModel" "tags" "I" ∈ xtbl := xmem 435 (by decide +kernel) rfl
theorem wf_X5_24 : Cond.fieldLink RX5 24 "PatchBayModel" "isSeal" "[Z" ∈ xtbl := xmem 436 (by decide +kernel) rfl
theorem wf_X5_27 : Cond.fieldLink RX5 27 "PatchBayModel" "has" "[I" ∈ xtbl := xmem 437 (by decide +kernel) rfl
theorem wf_X5_30 : Cond.fieldLink RX5 30 "PatchBayModel" "heads" "[I" ∈ xtbl := xmem 438 (by decide +kernel) rfl
theorem wf_X5_33 : Cond.fieldLink RX5 33 "PatchBayModel" "steps" "[I" ∈ xtbl := xmem 439 (by decide +kernel) rfl
theorem wf_X5_36 : Cond.fieldLink RX5 36 "PatchBayModel" "loops" "[Z" ∈ xtbl := xmem 440 (by decide +kernel) rfl
theorem wf_X5_79 : Cond.fieldLink RX5 79 "PatchBayModel" "cables" "I" ∈ xtbl := xmem 441 (by decide +kernel) rfl
theorem wf_X5_39 : Cond.fieldLink RX5 39 "PatchBayModel" "cableKind" "[I" ∈ xtbl := xmem 442 (by decide +kernel) rfl
theorem wf_X5_42 : Cond.fieldLink RX5 42 "PatchBayModel" "from" "[I" ∈ xtbl := xmem 443 (by decide +kernel) rfl
theorem wf_X5_45 : Cond.fieldLink RX5 45 "PatchBayModel" "to" "[I" ∈ xtbl := xmem 444 (by decide +kernel) rfl
theorem wf_X5_48 : Cond.fieldLink RX5 48 "PatchBayModel" "in" "[Z" ∈ xtbl := xmem 445 (by decide +kernel) rfl
theorem wf_X5_51 : Cond.fieldLink RX5 51 "PatchBayModel" "patience" "[I" ∈ xtbl := xmem 446 (by decide +kernel) rfl
theorem wf_X5_54 : Cond.fieldLink RX5 54 "PatchBayModel" "strikes" "[I" ∈ xtbl := xmem 447 (by decide +kernel) rfl
theorem wf_X5_57 : Cond.fieldLink RX5 57 "PatchBayModel" "carried" "[I" ∈ xtbl := xmem 448 (by decide +kernel) rfl
theorem wf_X5_60 : Cond.fieldLink RX5 60 "PatchBayModel" "shut" "[I" ∈ xtbl := xmem 449 (by decide +kernel) rfl
theorem wf_X5_175 : Cond.fieldLink RX5 175 "PatchBayModel" "time" "I" ∈ xtbl := xmem 450 (by decide +kernel) rfl
theorem wf_X5_172 : Cond.fieldLink RX5 172 "PatchBayModel" "faults" "I" ∈ xtbl := xmem 451 (by decide +kernel) rfl
theorem wf_X5_63 : Cond.fieldLink RX5 63 "PatchBayModel" "faultTime" "[I" ∈ xtbl := xmem 452 (by decide +kernel) rfl
theorem wf_X5_66 : Cond.fieldLink RX5 66 "PatchBayModel" "faultWho" "[I" ∈ xtbl := xmem 453 (by decide +kernel) rfl
theorem wf_X5_69 : Cond.fieldLink RX5 69 "PatchBayModel" "faultHow" "[I" ∈ xtbl := xmem 454 (by decide +kernel) rfl
theorem wf_X5_72 : Cond.fieldLink RX5 72 "PatchBayModel" "refusals" "[I" ∈ xtbl := xmem 455 (by decide +kernel) rfl
theorem wf_X5_83 : Cond.fieldLink RX5 83 "PatchBayModel" "why" "I" ∈ xtbl := xmem 456 (by decide +kernel) rfl
theorem wa_boolean : Cond.arrayClass .boolean ∈ xtbl := xmem 510 (by decide +kernel) rfl
theorem wm_L_17 : Cond.methodLink RL 17 yX5_tape ∈ xtbl := xmem 511 (by decide +kernel) rfl
theorem wi_X5_tape : Cond.instanceMethod yX5_tape ∈ xtbl := xmem 512 (by decide +kernel) rfl
theorem ws_X5_tape : Cond.selects yX5_tape.cls yX5_tape yX5_tape ∈ xtbl := xmem 513 (by decide +kernel) rfl
theorem wcode_X5_tape : Cond.code kX5_tape.1 kX5_tape.2.1 kX5_tape.2.2.1 kX5_tape.2.2.2.1 ∈ xtbl := xmem 514 (by decide +kernel) rfl
theorem wm_X5_137 : Cond.methodLink RX5 137 yX5_isChannel ∈ xtbl := xmem 515 (by decide +kernel) rfl
theorem wt_X5_isChannel : Cond.static yX5_isChannel ∈ xtbl := xmem 516 (by decide +kernel) rfl
theorem wcode_X5_isChannel : Cond.code kX5_isChannel.1 kX5_isChannel.2.1 kX5_isChannel.2.2.1 kX5_isChannel.2.2.2.1 ∈ xtbl := xmem 517 (by decide +kernel) rfl
theorem wm_X5_75 : Cond.methodLink RX5 75 yX5_isIn ∈ xtbl := xmem 518 (by decide +kernel) rfl
theorem wt_X5_isIn : Cond.static yX5_isIn ∈ xtbl := xmem 519 (by decide +kernel) rfl
theorem wcode_X5_isIn : Cond.code kX5_isIn.1 kX5_isIn.2.1 kX5_isIn.2.2.1 kX5_isIn.2.2.2.1 ∈ xtbl := xmem 520 (by decide +kernel) rfl
theorem wm_X5_141 : Cond.methodLink RX5 141 yX5_met ∈ xtbl := xmem 521 (by decide +kernel) rfl
theorem wi_X5_met : Cond.instanceMethod yX5_met ∈ xtbl := xmem 523 (by decide +kernel) rfl
theorem wcode_X5_met : Cond.code kX5_met.1 kX5_met.2.1 kX5_met.2.2.1 kX5_met.2.2.2.1 ∈ xtbl := xmem 524 (by decide +kernel) rfl
theorem wm_X5_144 : Cond.methodLink RX5 144 yX5_newTape ∈ xtbl := xmem 525 (by decide +kernel) rfl
theorem wi_X5_newTape : Cond.instanceMethod yX5_newTape ∈ xtbl := xmem 527 (by decide +kernel) rfl
theorem wcode_X5_newTape : Cond.code kX5_newTape.1 kX5_newTape.2.1 kX5_newTape.2.2.1 kX5_newTape.2.2.2.1 ∈ xtbl := xmem 528 (by decide +kernel) rfl
theorem wm_X5_86 : Cond.methodLink RX5 86 yX5_freeTape ∈ xtbl := xmem 529 (by decide +kernel) rfl
theorem wi_X5_freeTape : Cond.instanceMethod yX5_freeTape ∈ xtbl := xmem 531 (by decide +kernel) rfl
theorem wcode_X5_freeTape : Cond.code kX5_freeTape.1 kX5_freeTape.2.1 kX5_freeTape.2.2.1 kX5_freeTape.2.2.2.1 ∈ xtbl := xmem 532 (by decide +kernel) rfl
theorem wm_L_22 : Cond.methodLink RL 22 yX5_plug ∈ xtbl := xmem 533 (by decide +kernel) rfl
theorem wi_X5_plug : Cond.instanceMethod yX5_plug ∈ xtbl := xmem 534 (by decide +kernel) rfl
theorem ws_X5_plug : Cond.selects yX5_plug.cls yX5_plug yX5_plug ∈ xtbl := xmem 535 (by decide +kernel) rfl
theorem wcode_X5_plug : Cond.code kX5_plug.1 kX5_plug.2.1 kX5_plug.2.2.1 kX5_plug.2.2.2.1 ∈ xtbl := xmem 536 (by decide +kernel) rfl
theorem wm_X5_147 : Cond.methodLink RX5 147 yX5_sort ∈ xtbl := xmem 537 (by decide +kernel) rfl
theorem wi_X5_sort : Cond.instanceMethod yX5_sort ∈ xtbl := xmem 539 (by decide +kernel) rfl
theorem wcode_X5_sort : Cond.code kX5_sort.1 kX5_sort.2.1 kX5_sort.2.2.1 kX5_sort.2.2.2.1 ∈ xtbl := xmem 540 (by decide +kernel) rfl
theorem wm_L_26 : Cond.methodLink RL 26 yX5_strip ∈ xtbl := xmem 541 (by decide +kernel) rfl
theorem wi_X5_strip : Cond.instanceMethod yX5_strip ∈ xtbl := xmem 542 (by decide +kernel) rfl
theorem ws_X5_strip : Cond.selects yX5_strip.cls yX5_strip yX5_strip ∈ xtbl := xmem 543 (by decide +kernel) rfl
theorem wcode_X5_strip : Cond.code kX5_strip.1 kX5_strip.2.1 kX5_strip.2.2.1 kX5_strip.2.2.2.1 ∈ xtbl := xmem 544 (by decide +kernel) rfl
theorem wm_L_31 : Cond.methodLink RL 31 yX5_share ∈ xtbl := xmem 545 (by decide +kernel) rfl
theorem wi_X5_share : Cond.instanceMethod yX5_share ∈ xtbl := xmem 546 (by decide +kernel) rfl
theorem ws_X5_share : Cond.selects yX5_share.cls yX5_share yX5_share ∈ xtbl := xmem 547 (by decide +kernel) rfl
theorem wcode_X5_share : Cond.code kX5_share.1 kX5_share.2.1 kX5_share.2.2.1 kX5_share.2.2.2.1 ∈ xtbl := xmem 548 (by decide +kernel) rfl
theorem wm_L_35 : Cond.methodLink RL 35 yX5_head ∈ xtbl := xmem 549 (by decide +kernel) rfl
theorem wi_X5_head : Cond.instanceMethod yX5_head ∈ xtbl := xmem 550 (by decide +kernel) rfl
theorem ws_X5_head : Cond.selects yX5_head.cls yX5_head yX5_head ∈ xtbl := xmem 551 (by decide +kernel) rfl
theorem wcode_X5_head : Cond.code kX5_head.1 kX5_head.2.1 kX5_head.2.2.1 kX5_head.2.2.2.1 ∈ xtbl := xmem 552 (by decide +kernel) rfl
theorem wm_L_39 : Cond.methodLink RL 39 yX5_step ∈ xtbl := xmem 553 (by decide +kernel) rfl
theorem wi_X5_step : Cond.instanceMethod yX5_step ∈ xtbl := xmem 554 (by decide +kernel) rfl
theorem ws_X5_step : Cond.selects yX5_step.cls yX5_step yX5_step ∈ xtbl := xmem 555 (by decide +kernel) rfl
theorem wcode_X5_step : Cond.code kX5_step.1 kX5_step.2.1 kX5_step.2.2.1 kX5_step.2.2.2.1 ∈ xtbl := xmem 556 (by decide +kernel) rfl
theorem wm_L_44 : Cond.methodLink RL 44 yX5_loop ∈ xtbl := xmem 557 (by decide +kernel) rfl
theorem wi_X5_loop : Cond.instanceMethod yX5_loop ∈ xtbl := xmem 558 (by decide +kernel) rfl
theorem ws_X5_loop : Cond.selects yX5_loop.cls yX5_loop yX5_loop ∈ xtbl := xmem 559 (by decide +kernel) rfl
theorem wcode_X5_loop : Cond.code kX5_loop.1 kX5_loop.2.1 kX5_loop.2.2.1 kX5_loop.2.2.2.1 ∈ xtbl := xmem 560 (by decide +kernel) rfl
theorem wm_L_51 : Cond.methodLink RL 51 yX5_stamp ∈ xtbl := xmem 561 (by decide +kernel) rfl
theorem wi_X5_stamp : Cond.instanceMethod yX5_stamp ∈ xtbl := xmem 562 (by decide +kernel) rfl
theorem ws_X5_stamp : Cond.selects yX5_stamp.cls yX5_stamp yX5_stamp ∈ xtbl := xmem 563 (by decide +kernel) rfl
theorem wcode_X5_stamp : Cond.code kX5_stamp.1 kX5_stamp.2.1 kX5_stamp.2.2.1 kX5_stamp.2.2.2.1 ∈ xtbl := xmem 564 (by decide +kernel) rfl
theorem wm_X5_150 : Cond.methodLink RX5 150 yX5_noPlain ∈ xtbl := xmem 565 (by decide +kernel) rfl
theorem wi_X5_noPlain : Cond.instanceMethod yX5_noPlain ∈ xtbl := xmem 567 (by decide +kernel) rfl
theorem wcode_X5_noPlain : Cond.code kX5_noPlain.1 kX5_noPlain.2.1 kX5_noPlain.2.2.1 kX5_noPlain.2.2.2.1 ∈ xtbl := xmem 568 (by decide +kernel) rfl
theorem wm_X5_102 : Cond.methodLink RX5 102 yX5_noTape ∈ xtbl := xmem 569 (by decide +kernel) rfl
theorem wi_X5_noTape : Cond.instanceMethod yX5_noTape ∈ xtbl := xmem 571 (by decide +kernel) rfl
theorem wcode_X5_noTape : Cond.code kX5_noTape.1 kX5_noTape.2.1 kX5_noTape.2.2.1 kX5_noTape.2.2.2.1 ∈ xtbl := xmem 572 (by decide +kernel) rfl
theorem wm_X5_110 : Cond.methodLink RX5 110 yX5_kindOf ∈ xtbl := xmem 573 (by decide +kernel) rfl
theorem wi_X5_kindOf : Cond.instanceMethod yX5_kindOf ∈ xtbl := xmem 575 (by decide +kernel) rfl
theorem wcode_X5_kindOf : Cond.code kX5_kindOf.1 kX5_kindOf.2.1 kX5_kindOf.2.2.1 kX5_kindOf.2.2.2.1 ∈ xtbl := xmem 576 (by decide +kernel) rfl
theorem wm_X5_113 : Cond.methodLink RX5 113 yX5_noPlace ∈ xtbl := xmem 577 (by decide +kernel) rfl
theorem wi_X5_noPlace : Cond.instanceMethod yX5_noPlace ∈ xtbl := xmem 579 (by decide +kernel) rfl
theorem wcode_X5_noPlace : Cond.code kX5_noPlace.1 kX5_noPlace.2.1 kX5_noPlace.2.2.1 kX5_noPlace.2.2.2.1 ∈ xtbl := xmem 580 (by decide +kernel) rfl
theorem wm_X5_106 : Cond.methodLink RX5 106 yX5_takes ∈ xtbl := xmem 581 (by decide +kernel) rfl
theorem wt_X5_takes : Cond.static yX5_takes ∈ xtbl := xmem 582 (by decide +kernel) rfl
theorem wcode_X5_takes : Cond.code kX5_takes.1 kX5_takes.2.1 kX5_takes.2.2.1 kX5_takes.2.2.2.1 ∈ xtbl := xmem 583 (by decide +kernel) rfl
theorem wm_X5_124 : Cond.methodLink RX5 124 yX5_at ∈ xtbl := xmem 584 (by decide +kernel) rfl
theorem wi_X5_at : Cond.instanceMethod yX5_at ∈ xtbl := xmem 586 (by decide +kernel) rfl
theorem wcode_X5_at : Cond.code kX5_at.1 kX5_at.2.1 kX5_at.2.2.1 kX5_at.2.2.2.1 ∈ xtbl := xmem 587 (by decide +kernel) rfl
theorem wm_X5_98 : Cond.methodLink RX5 98 yX5_made ∈ xtbl := xmem 588 (by decide +kernel) rfl
theorem wt_X5_made : Cond.static yX5_made ∈ xtbl := xmem 589 (by decide +kernel) rfl
theorem wcode_X5_made : Cond.code kX5_made.1 kX5_made.2.1 kX5_made.2.2.1 kX5_made.2.2.2.1 ∈ xtbl := xmem 590 (by decide +kernel) rfl
theorem wk_X5_92 : Cond.constantLong RX5 92 (65535) ∈ xtbl := xmem 591 (by decide +kernel) rfl
theorem wm_X5_94 : Cond.methodLink RX5 94 yX5_nearest ∈ xtbl := xmem 592 (by decide +kernel) rfl
theorem wt_X5_nearest : Cond.static yX5_nearest ∈ xtbl := xmem 593 (by decide +kernel) rfl
theorem wcode_X5_nearest : Cond.code kX5_nearest.1 kX5_nearest.2.1 kX5_nearest.2.2.1 kX5_nearest.2.2.2.1 ∈ xtbl := xmem 594 (by decide +kernel) rfl
theorem wk_X5_90 : Cond.constantLong RX5 90 (9223372036854775807) ∈ xtbl := xmem 595 (by decide +kernel) rfl
theorem wm_L_56 : Cond.methodLink RL 56 yX5_probe ∈ xtbl := xmem 596 (by decide +kernel) rfl
theorem wi_X5_probe : Cond.instanceMethod yX5_probe ∈ xtbl := xmem 597 (by decide +kernel) rfl
theorem ws_X5_probe : Cond.selects yX5_probe.cls yX5_probe yX5_probe ∈ xtbl := xmem 598 (by decide +kernel) rfl
theorem wcode_X5_probe : Cond.code kX5_probe.1 kX5_probe.2.1 kX5_probe.2.2.1 kX5_probe.2.2.2.1 ∈ xtbl := xmem 599 (by decide +kernel) rfl
theorem wm_L_61 : Cond.methodLink RL 61 yX5_tag ∈ xtbl := xmem 600 (by decide +kernel) rfl
theorem wi_X5_tag : Cond.instanceMethod yX5_tag ∈ xtbl := xmem 601 (by decide +kernel) rfl
theorem ws_X5_tag : Cond.selects yX5_tag.cls yX5_tag yX5_tag ∈ xtbl := xmem 602 (by decide +kernel) rfl
theorem wcode_X5_tag : Cond.code kX5_tag.1 kX5_tag.2.1 kX5_tag.2.2.1 kX5_tag.2.2.2.1 ∈ xtbl := xmem 603 (by decide +kernel) rfl
theorem wm_X5_133 : Cond.methodLink RX5 133 yX5_writes ∈ xtbl := xmem 604 (by decide +kernel) rfl
theorem wi_X5_writes : Cond.instanceMethod yX5_writes ∈ xtbl := xmem 606 (by decide +kernel) rfl
theorem wcode_X5_writes : Cond.code kX5_writes.1 kX5_writes.2.1 kX5_writes.2.2.1 kX5_writes.2.2.2.1 ∈ xtbl := xmem 607 (by decide +kernel) rfl
theorem wm_X5_120 : Cond.methodLink RX5 120 yX5_noWrite ∈ xtbl := xmem 608 (by decide +kernel) rfl
theorem wi_X5_noWrite : Cond.instanceMethod yX5_noWrite ∈ xtbl := xmem 610 (by decide +kernel) rfl
theorem wcode_X5_noWrite : Cond.code kX5_noWrite.1 kX5_noWrite.2.1 kX5_noWrite.2.2.1 kX5_noWrite.2.2.2.1 ∈ xtbl := xmem 611 (by decide +kernel) rfl
theorem wm_X5_117 : Cond.methodLink RX5 117 yX5_noTake ∈ xtbl := xmem 612 (by decide +kernel) rfl
theorem wt_X5_noTake : Cond.static yX5_noTake ∈ xtbl := xmem 613 (by decide +kernel) rfl
theorem wcode_X5_noTake : Cond.code kX5_noTake.1 kX5_noTake.2.1 kX5_noTake.2.2.1 kX5_noTake.2.2.2.1 ∈ xtbl := xmem 614 (by decide +kernel) rfl
theorem wm_X5_127 : Cond.methodLink RX5 127 yX5_kept ∈ xtbl := xmem 615 (by decide +kernel) rfl
theorem wt_X5_kept : Cond.static yX5_kept ∈ xtbl := xmem 616 (by decide +kernel) rfl
theorem wcode_X5_kept : Cond.code kX5_kept.1 kX5_kept.2.1 kX5_kept.2.2.1 kX5_kept.2.2.2.1 ∈ xtbl := xmem 617 (by decide +kernel) rfl
theorem wm_L_65 : Cond.methodLink RL 65 yX5_rack ∈ xtbl := xmem 618 (by decide +kernel) rfl
theorem wi_X5_rack : Cond.instanceMethod yX5_rack ∈ xtbl := xmem 619 (by decide +kernel) rfl
theorem ws_X5_rack : Cond.selects yX5_rack.cls yX5_rack yX5_rack ∈ xtbl := xmem 620 (by decide +kernel) rfl
theorem wcode_X5_rack : Cond.code kX5_rack.1 kX5_rack.2.1 kX5_rack.2.2.1 kX5_rack.2.2.2.1 ∈ xtbl := xmem 621 (by decide +kernel) rfl
theorem wm_L_69 : Cond.methodLink RL 69 yX5_unrack ∈ xtbl := xmem 622 (by decide +kernel) rfl
theorem wi_X5_unrack : Cond.instanceMethod yX5_unrack ∈ xtbl := xmem 623 (by decide +kernel) rfl
theorem ws_X5_unrack : Cond.selects yX5_unrack.cls yX5_unrack yX5_unrack ∈ xtbl := xmem 624 (by decide +kernel) rfl
theorem wcode_X5_unrack : Cond.code kX5_unrack.1 kX5_unrack.2.1 kX5_unrack.2.2.1 kX5_unrack.2.2.2.1 ∈ xtbl := xmem 625 (by decide +kernel) rfl
theorem wm_X5_130 : Cond.methodLink RX5 130 yX5_cellKind ∈ xtbl := xmem 626 (by decide +kernel) rfl
theorem wi_X5_cellKind : Cond.instanceMethod yX5_cellKind ∈ xtbl := xmem 628 (by decide +kernel) rfl
theorem wcode_X5_cellKind : Cond.code kX5_cellKind.1 kX5_cellKind.2.1 kX5_cellKind.2.2.1 kX5_cellKind.2.2.2.1 ∈ xtbl := xmem 629 (by decide +kernel) rfl
theorem wk_X5_156 : Cond.constantLong RX5 156 (-1) ∈ xtbl := xmem 630 (by decide +kernel) rfl
theorem wm_L_73 : Cond.methodLink RL 73 yX5_cable ∈ xtbl := xmem 631 (by decide +kernel) rfl
theorem wi_X5_cable : Cond.instanceMethod yX5_cable ∈ xtbl := xmem 632 (by decide +kernel) rfl
theorem ws_X5_cable : Cond.selects yX5_cable.cls yX5_cable yX5_cable ∈ xtbl := xmem 633 (by decide +kernel) rfl
theorem wcode_X5_cable : Cond.code kX5_cable.1 kX5_cable.2.1 kX5_cable.2.2.1 kX5_cable.2.2.2.1 ∈ xtbl := xmem 634 (by decide +kernel) rfl
theorem wm_L_77 : Cond.methodLink RL 77 yX5_patience ∈ xtbl := xmem 635 (by decide +kernel) rfl
theorem wi_X5_patience : Cond.instanceMethod yX5_patience ∈ xtbl := xmem 636 (by decide +kernel) rfl
theorem ws_X5_patience : Cond.selects yX5_patience.cls yX5_patience yX5_patience ∈ xtbl := xmem 637 (by decide +kernel) rfl
theorem wcode_X5_patience : Cond.code kX5_patience.1 kX5_patience.2.1 kX5_patience.2.2.1 kX5_patience.2.2.2.1 ∈ xtbl := xmem 638 (by decide +kernel) rfl
theorem wm_X5_158 : Cond.methodLink RX5 158 yX5_isCable ∈ xtbl := xmem 639 (by decide +kernel) rfl
theorem wi_X5_isCable : Cond.instanceMethod yX5_isCable ∈ xtbl := xmem 641 (by decide +kernel) rfl
theorem wcode_X5_isCable : Cond.code kX5_isCable.1 kX5_isCable.2.1 kX5_isCable.2.2.1 kX5_isCable.2.2.2.1 ∈ xtbl := xmem 642 (by decide +kernel) rfl
theorem wm_L_81 : Cond.methodLink RL 81 yX5_pull ∈ xtbl := xmem 643 (by decide +kernel) rfl
theorem wi_X5_pull : Cond.instanceMethod yX5_pull ∈ xtbl := xmem 644 (by decide +kernel) rfl
theorem ws_X5_pull : Cond.selects yX5_pull.cls yX5_pull yX5_pull ∈ xtbl := xmem 645 (by decide +kernel) rfl
theorem wcode_X5_pull : Cond.code kX5_pull.1 kX5_pull.2.1 kX5_pull.2.2.1 kX5_pull.2.2.2.1 ∈ xtbl := xmem 646 (by decide +kernel) rfl
theorem wm_L_85 : Cond.methodLink RL 85 yX5_plugIn ∈ xtbl := xmem 647 (by decide +kernel) rfl
theorem wi_X5_plugIn : Cond.instanceMethod yX5_plugIn ∈ xtbl := xmem 648 (by decide +kernel) rfl
theorem ws_X5_plugIn : Cond.selects yX5_plugIn.cls yX5_plugIn yX5_plugIn ∈ xtbl := xmem 649 (by decide +kernel) rfl
theorem wcode_X5_plugIn : Cond.code kX5_plugIn.1 kX5_plugIn.2.1 kX5_plugIn.2.2.1 kX5_plugIn.2.2.2.1 ∈ xtbl := xmem 650 (by decide +kernel) rfl
theorem wm_L_90 : Cond.methodLink RL 90 yX5_tick ∈ xtbl := xmem 651 (by decide +kernel) rfl
theorem wi_X5_tick : Cond.instanceMethod yX5_tick ∈ xtbl := xmem 652 (by decide +kernel) rfl
theorem ws_X5_tick : Cond.selects yX5_tick.cls yX5_tick yX5_tick ∈ xtbl := xmem 653 (by decide +kernel) rfl
theorem wcode_X5_tick : Cond.code kX5_tick.1 kX5_tick.2.1 kX5_tick.2.2.1 kX5_tick.2.2.2.1 ∈ xtbl := xmem 654 (by decide +kernel) rfl
theorem wm_X5_182 : Cond.methodLink RX5 182 yX5_carries ∈ xtbl := xmem 655 (by decide +kernel) rfl
theorem wi_X5_carries : Cond.instanceMethod yX5_carries ∈ xtbl := xmem 657 (by decide +kernel) rfl
theorem wcode_X5_carries : Cond.code kX5_carries.1 kX5_carries.2.1 kX5_carries.2.2.1 kX5_carries.2.2.2.1 ∈ xtbl := xmem 658 (by decide +kernel) rfl
theorem wm_X5_161 : Cond.methodLink RX5 161 yX5_changes ∈ xtbl := xmem 659 (by decide +kernel) rfl
theorem wi_X5_changes : Cond.instanceMethod yX5_changes ∈ xtbl := xmem 661 (by decide +kernel) rfl
theorem wcode_X5_changes : Cond.code kX5_changes.1 kX5_changes.2.1 kX5_changes.2.2.1 kX5_changes.2.2.2.1 ∈ xtbl := xmem 662 (by decide +kernel) rfl
theorem wm_X5_165 : Cond.methodLink RX5 165 yX5_numberOf ∈ xtbl := xmem 663 (by decide +kernel) rfl
theorem wi_X5_numberOf : Cond.instanceMethod yX5_numberOf ∈ xtbl := xmem 665 (by decide +kernel) rfl
theorem wcode_X5_numberOf : Cond.code kX5_numberOf.1 kX5_numberOf.2.1 kX5_numberOf.2.2.1 kX5_numberOf.2.2.2.1 ∈ xtbl := xmem 666 (by decide +kernel) rfl
theorem wm_X5_169 : Cond.methodLink RX5 169 yX5_passes ∈ xtbl := xmem 667 (by decide +kernel) rfl
theorem wi_X5_passes : Cond.instanceMethod yX5_passes ∈ xtbl := xmem 669 (by decide +kernel) rfl
theorem wcode_X5_passes : Cond.code kX5_passes.1 kX5_passes.2.1 kX5_passes.2.2.1 kX5_passes.2.2.2.1 ∈ xtbl := xmem 670 (by decide +kernel) rfl
theorem wm_X5_178 : Cond.methodLink RX5 178 yX5_fails ∈ xtbl := xmem 671 (by decide +kernel) rfl
theorem wi_X5_fails : Cond.instanceMethod yX5_fails ∈ xtbl := xmem 673 (by decide +kernel) rfl
theorem wcode_X5_fails : Cond.code kX5_fails.1 kX5_fails.2.1 kX5_fails.2.2.1 kX5_fails.2.2.2.1 ∈ xtbl := xmem 674 (by decide +kernel) rfl
theorem wm_X5_185 : Cond.methodLink RX5 185 yX5_moves ∈ xtbl := xmem 675 (by decide +kernel) rfl
theorem wi_X5_moves : Cond.instanceMethod yX5_moves ∈ xtbl := xmem 677 (by decide +kernel) rfl
theorem wcode_X5_moves : Cond.code kX5_moves.1 kX5_moves.2.1 kX5_moves.2.2.1 kX5_moves.2.2.2.1 ∈ xtbl := xmem 678 (by decide +kernel) rfl
theorem wm_L_95 : Cond.methodLink RL 95 yX5_splice ∈ xtbl := xmem 679 (by decide +kernel) rfl
theorem wi_X5_splice : Cond.instanceMethod yX5_splice ∈ xtbl := xmem 680 (by decide +kernel) rfl
theorem ws_X5_splice : Cond.selects yX5_splice.cls yX5_splice yX5_splice ∈ xtbl := xmem 681 (by decide +kernel) rfl
theorem wcode_X5_splice : Cond.code kX5_splice.1 kX5_splice.2.1 kX5_splice.2.2.1 kX5_splice.2.2.2.1 ∈ xtbl := xmem 682 (by decide +kernel) rfl
theorem wm_L_99 : Cond.methodLink RL 99 yX5_dub ∈ xtbl := xmem 683 (by decide +kernel) rfl
theorem wi_X5_dub : Cond.instanceMethod yX5_dub ∈ xtbl := xmem 684 (by decide +kernel) rfl
theorem ws_X5_dub : Cond.selects yX5_dub.cls yX5_dub yX5_dub ∈ xtbl := xmem 685 (by decide +kernel) rfl
theorem wcode_X5_dub : Cond.code kX5_dub.1 kX5_dub.2.1 kX5_dub.2.2.1 kX5_dub.2.2.2.1 ∈ xtbl := xmem 686 (by decide +kernel) rfl
theorem wm_L_104 : Cond.methodLink RL 104 yX5_sum ∈ xtbl := xmem 687 (by decide +kernel) rfl
theorem wi_X5_sum : Cond.instanceMethod yX5_sum ∈ xtbl := xmem 688 (by decide +kernel) rfl
theorem ws_X5_sum : Cond.selects yX5_sum.cls yX5_sum yX5_sum ∈ xtbl := xmem 689 (by decide +kernel) rfl
theorem wcode_X5_sum : Cond.code kX5_sum.1 kX5_sum.2.1 kX5_sum.2.2.1 kX5_sum.2.2.2.1 ∈ xtbl := xmem 690 (by decide +kernel) rfl
theorem wm_L_108 : Cond.methodLink RL 108 yX5_match ∈ xtbl := xmem 691 (by decide +kernel) rfl
theorem wi_X5_match : Cond.instanceMethod yX5_match ∈ xtbl := xmem 692 (by decide +kernel) rfl
theorem ws_X5_match : Cond.selects yX5_match.cls yX5_match yX5_match ∈ xtbl := xmem 693 (by decide +kernel) rfl
theorem wcode_X5_match : Cond.code kX5_match.1 kX5_match.2.1 kX5_match.2.2.1 kX5_match.2.2.2.1 ∈ xtbl := xmem 694 (by decide +kernel) rfl
theorem wm_L_112 : Cond.methodLink RL 112 yX5_why ∈ xtbl := xmem 695 (by decide +kernel) rfl
theorem wi_X5_why : Cond.instanceMethod yX5_why ∈ xtbl := xmem 696 (by decide +kernel) rfl
theorem ws_X5_why : Cond.selects yX5_why.cls yX5_why yX5_why ∈ xtbl := xmem 697 (by decide +kernel) rfl
theorem wcode_X5_why : Cond.code kX5_why.1 kX5_why.2.1 kX5_why.2.2.1 kX5_why.2.2.2.1 ∈ xtbl := xmem 698 (by decide +kernel) rfl
theorem wm_L_117 : Cond.methodLink RL 117 yX5_number ∈ xtbl := xmem 699 (by decide +kernel) rfl
theorem wi_X5_number : Cond.instanceMethod yX5_number ∈ xtbl := xmem 700 (by decide +kernel) rfl
theorem ws_X5_number : Cond.selects yX5_number.cls yX5_number yX5_number ∈ xtbl := xmem 701 (by decide +kernel) rfl
theorem wcode_X5_number : Cond.code kX5_number.1 kX5_number.2.1 kX5_number.2.2.1 kX5_number.2.2.2.1 ∈ xtbl := xmem 702 (by decide +kernel) rfl
theorem wm_L_121 : Cond.methodLink RL 121 yX5_kind ∈ xtbl := xmem 703 (by decide +kernel) rfl
theorem wi_X5_kind : Cond.instanceMethod yX5_kind ∈ xtbl := xmem 704 (by decide +kernel) rfl
theorem ws_X5_kind : Cond.selects yX5_kind.cls yX5_kind yX5_kind ∈ xtbl := xmem 705 (by decide +kernel) rfl
theorem wcode_X5_kind : Cond.code kX5_kind.1 kX5_kind.2.1 kX5_kind.2.2.1 kX5_kind.2.2.2.1 ∈ xtbl := xmem 706 (by decide +kernel) rfl
theorem wm_L_125 : Cond.methodLink RL 125 yX5_cells ∈ xtbl := xmem 707 (by decide +kernel) rfl
theorem wi_X5_cells : Cond.instanceMethod yX5_cells ∈ xtbl := xmem 708 (by decide +kernel) rfl
theorem ws_X5_cells : Cond.selects yX5_cells.cls yX5_cells yX5_cells ∈ xtbl := xmem 709 (by decide +kernel) rfl
theorem wcode_X5_cells : Cond.code kX5_cells.1 kX5_cells.2.1 kX5_cells.2.2.1 kX5_cells.2.2.2.1 ∈ xtbl := xmem 710 (by decide +kernel) rfl
theorem wm_L_129 : Cond.methodLink RL 129 yX5_of ∈ xtbl := xmem 711 (by decide +kernel) rfl
theorem wi_X5_of : Cond.instanceMethod yX5_of ∈ xtbl := xmem 712 (by decide +kernel) rfl
theorem ws_X5_of : Cond.selects yX5_of.cls yX5_of yX5_of ∈ xtbl := xmem 713 (by decide +kernel) rfl
theorem wcode_X5_of : Cond.code kX5_of.1 kX5_of.2.1 kX5_of.2.2.1 kX5_of.2.2.2.1 ∈ xtbl := xmem 714 (by decide +kernel) rfl
theorem wk_X5_189 : Cond.constant RX5 189 (-2147483648) ∈ xtbl := xmem 715 (by decide +kernel) rfl
theorem wm_L_133 : Cond.methodLink RL 133 yX5_told ∈ xtbl := xmem 716 (by decide +kernel) rfl
theorem wi_X5_told : Cond.instanceMethod yX5_told ∈ xtbl := xmem 717 (by decide +kernel) rfl
theorem ws_X5_told : Cond.selects yX5_told.cls yX5_told yX5_told ∈ xtbl := xmem 718 (by decide +kernel) rfl
theorem wcode_X5_told : Cond.code kX5_told.1 kX5_told.2.1 kX5_told.2.2.1 kX5_told.2.2.2.1 ∈ xtbl := xmem 719 (by decide +kernel) rfl
theorem wm_L_137 : Cond.methodLink RL 137 yX5_fault ∈ xtbl := xmem 720 (by decide +kernel) rfl
theorem wi_X5_fault : Cond.instanceMethod yX5_fault ∈ xtbl := xmem 721 (by decide +kernel) rfl
theorem ws_X5_fault : Cond.selects yX5_fault.cls yX5_fault yX5_fault ∈ xtbl := xmem 722 (by decide +kernel) rfl
theorem wcode_X5_fault : Cond.code kX5_fault.1 kX5_fault.2.1 kX5_fault.2.2.1 kX5_fault.2.2.2.1 ∈ xtbl := xmem 723 (by decide +kernel) rfl
theorem wm_L_141 : Cond.methodLink RL 141 yX5_count ∈ xtbl := xmem 724 (by decide +kernel) rfl
theorem wi_X5_count : Cond.instanceMethod yX5_count ∈ xtbl := xmem 725 (by decide +kernel) rfl
theorem ws_X5_count : Cond.selects yX5_count.cls yX5_count yX5_count ∈ xtbl := xmem 726 (by decide +kernel) rfl
theorem wcode_X5_count : Cond.code kX5_count.1 kX5_count.2.1 kX5_count.2.2.1 kX5_count.2.2.2.1 ∈ xtbl := xmem 727 (by decide +kernel) rfl
theorem wk_L_45 : Cond.constantLong RL 45 (4294967295) ∈ xtbl := xmem 728 (by decide +kernel) rfl
theorem ws_X4_channelAt : Cond.selects yX4_channelAt.cls yX4_channelAt yX4_channelAt ∈ xtbl := xmemp 0 (by decide +kernel) rfl
theorem ws_X4_answer : Cond.selects yX4_answer.cls yX4_answer yX4_answer ∈ xtbl := xmemp 1 (by decide +kernel) rfl
theorem ws_X4_note : Cond.selects yX4_note.cls yX4_note yX4_note ∈ xtbl := xmemp 2 (by decide +kernel) rfl
theorem ws_X4_meet : Cond.selects yX4_meet.cls yX4_meet yX4_meet ∈ xtbl := xmemp 3 (by decide +kernel) rfl
theorem ws_X4_cableAt : Cond.selects yX4_cableAt.cls yX4_cableAt yX4_cableAt ∈ xtbl := xmemp 4 (by decide +kernel) rfl
theorem ws_X4_carry : Cond.selects yX4_carry.cls yX4_carry yX4_carry ∈ xtbl := xmemp 5 (by decide +kernel) rfl
theorem ws_X4_gate : Cond.selects yX4_gate.cls yX4_gate yX4_gate ∈ xtbl := xmemp 6 (by decide +kernel) rfl
theorem ws_X4_pair : Cond.selects yX4_pair.cls yX4_pair yX4_pair ∈ xtbl := xmemp 7 (by decide +kernel) rfl
theorem ws_X4_wire : Cond.selects yX4_wire.cls yX4_wire yX4_wire ∈ xtbl := xmemp 8 (by decide +kernel) rfl
theorem ws_X4_swap : Cond.selects yX4_swap.cls yX4_swap yX4_swap ∈ xtbl := xmemp 9 (by decide +kernel) rfl
theorem ws_X4_keepBooks : Cond.selects yX4_keepBooks.cls yX4_keepBooks yX4_keepBooks ∈ xtbl := xmemp 10 (by decide +kernel) rfl
theorem ws_X4_noteFault : Cond.selects yX4_noteFault.cls yX4_noteFault yX4_noteFault ∈ xtbl := xmemp 11 (by decide +kernel) rfl
theorem ws_X4_move : Cond.selects yX4_move.cls yX4_move yX4_move ∈ xtbl := xmemp 12 (by decide +kernel) rfl
theorem ws_X4_timesMet : Cond.selects yX4_timesMet.cls yX4_timesMet yX4_timesMet ∈ xtbl := xmemp 13 (by decide +kernel) rfl
theorem ws_X5_met : Cond.selects yX5_met.cls yX5_met yX5_met ∈ xtbl := xmemp 14 (by decide +kernel) rfl
theorem ws_X5_newTape : Cond.selects yX5_newTape.cls yX5_newTape yX5_newTape ∈ xtbl := xmemp 15 (by decide +kernel) rfl
theorem ws_X5_freeTape : Cond.selects yX5_freeTape.cls yX5_freeTape yX5_freeTape ∈ xtbl := xmemp 16 (by decide +kernel) rfl
theorem ws_X5_sort : Cond.selects yX5_sort.cls yX5_sort yX5_sort ∈ xtbl := xmemp 17 (by decide +kernel) rfl
theorem ws_X5_noPlain : Cond.selects yX5_noPlain.cls yX5_noPlain yX5_noPlain ∈ xtbl := xmemp 18 (by decide +kernel) rfl
theorem ws_X5_noTape : Cond.selects yX5_noTape.cls yX5_noTape yX5_noTape ∈ xtbl := xmemp 19 (by decide +kernel) rfl
theorem ws_X5_kindOf : Cond.selects yX5_kindOf.cls yX5_kindOf yX5_kindOf ∈ xtbl := xmemp 20 (by decide +kernel) rfl
theorem ws_X5_noPlace : Cond.selects yX5_noPlace.cls yX5_noPlace yX5_noPlace ∈ xtbl := xmemp 21 (by decide +kernel) rfl
theorem ws_X5_at : Cond.selects yX5_at.cls yX5_at yX5_at ∈ xtbl := xmemp 22 (by decide +kernel) rfl
theorem ws_X5_writes : Cond.selects yX5_writes.cls yX5_writes yX5_writes ∈ xtbl := xmemp 23 (by decide +kernel) rfl
theorem ws_X5_noWrite : Cond.selects yX5_noWrite.cls yX5_noWrite yX5_noWrite ∈ xtbl := xmemp 24 (by decide +kernel) rfl
theorem ws_X5_cellKind : Cond.selects yX5_cellKind.cls yX5_cellKind yX5_cellKind ∈ xtbl := xmemp 25 (by decide +kernel) rfl
theorem ws_X5_isCable : Cond.selects yX5_isCable.cls yX5_isCable yX5_isCable ∈ xtbl := xmemp 26 (by decide +kernel) rfl
theorem ws_X5_carries : Cond.selects yX5_carries.cls yX5_carries yX5_carries ∈ xtbl := xmemp 27 (by decide +kernel) rfl
theorem ws_X5_changes : Cond.selects yX5_changes.cls yX5_changes yX5_changes ∈ xtbl := xmemp 28 (by decide +kernel) rfl
theorem ws_X5_numberOf : Cond.selects yX5_numberOf.cls yX5_numberOf yX5_numberOf ∈ xtbl := xmemp 29 (by decide +kernel) rfl
theorem ws_X5_passes : Cond.selects yX5_passes.cls yX5_passes yX5_passes ∈ xtbl := xmemp 30 (by decide +kernel) rfl
theorem ws_X5_fails : Cond.selects yX5_fails.cls yX5_fails yX5_fails ∈ xtbl := xmemp 31 (by decide +kernel) rfl
theorem ws_X5_moves : Cond.selects yX5_moves.cls yX5_moves yX5_moves ∈ xtbl := xmemp 32 (by decide +kernel) rfl
theorem v_X0_init : xvok kX0_init := ⟨wcode_X0_init, wini_RX0, by decide +kernel, by decide +kernel⟩
theorem n_X0_init : (parseMethodDescriptor kX0_init.1.desc).map (fun d => d.parameters.length) = some 4 := by decide +kernel
theorem v_X0_strike : xvok kX0_strike := ⟨wcode_X0_strike, wini_RX0, by decide +kernel, by decide +kernel⟩
theorem n_X0_strike : (parseMethodDescriptor kX0_strike.1.desc).map (fun d => d.parameters.length) = some 0 := by decide +kernel
theorem v_X1_init : xvok kX1_init := ⟨wcode_X1_init, wini_RX1, by decide +kernel, by decide +kernel⟩
theorem n_X1_init : (parseMethodDescriptor kX1_init.1.desc).map (fun d => d.parameters.length) = some 0 := by decide +kernel
theorem v_X1_become : xvok kX1_become := ⟨wcode_X1_become, wini_RX1, by decide +kernel, by decide +kernel⟩
theorem n_X1_become : (parseMethodDescriptor kX1_become.1.desc).map (fun d => d.parameters.length) = some 3 := by decide +kernel
theorem v_X2_init : xvok kX2_init := ⟨wcode_X2_init, wini_RX2, by decide +kernel, by decide +kernel⟩
theorem n_X2_init : (parseMethodDescriptor kX2_init.1.desc).map (fun d => d.parameters.length) = some 1 := by decide +kernel
theorem v_X2_hold : xvok kX2_hold := ⟨wcode_X2_hold, wini_RX2, by decide +kernel, by decide +kernel⟩
theorem n_X2_hold : (parseMethodDescriptor kX2_hold.1.desc).map (fun d => d.parameters.length) = some 2 := by decide +kernel
theorem v_X2_has : xvok kX2_has := ⟨wcode_X2_has, wini_RX2, by decide +kernel, by decide +kernel⟩
theorem n_X2_has : (parseMethodDescriptor kX2_has.1.desc).map (fun d => d.parameters.length) = some 0 := by decide +kernel
theorem v_X2_refusalWithoutTape : xvok kX2_refusalWithoutTape := ⟨wcode_X2_refusalWithoutTape, wini_RX2, by decide +kernel, by decide +kernel⟩
theorem n_X2_refusalWithoutTape : (parseMethodDescriptor kX2_refusalWithoutTape.1.desc).map (fun d => d.parameters.length) = some 0 := by decide +kernel
theorem v_X2_refusalOfPlain : xvok kX2_refusalOfPlain := ⟨wcode_X2_refusalOfPlain, wini_RX2, by decide +kernel, by decide +kernel⟩
theorem n_X2_refusalOfPlain : (parseMethodDescriptor kX2_refusalOfPlain.1.desc).map (fun d => d.parameters.length) = some 0 := by decide +kernel
theorem v_X2_read : xvok kX2_read := ⟨wcode_X2_read, wini_RX2, by decide +kernel, by decide +kernel⟩
theorem n_X2_read : (parseMethodDescriptor kX2_read.1.desc).map (fun d => d.parameters.length) = some 2 := by decide +kernel
theorem v_X2_write : xvok kX2_write := ⟨wcode_X2_write, wini_RX2, by decide +kernel, by decide +kernel⟩
theorem n_X2_write : (parseMethodDescriptor kX2_write.1.desc).map (fun d => d.parameters.length) = some 2 := by decide +kernel
theorem v_X2_asCell : xvok kX2_asCell := ⟨wcode_X2_asCell, wini_RX2, by decide +kernel, by decide +kernel⟩
theorem n_X2_asCell : (parseMethodDescriptor kX2_asCell.1.desc).map (fun d => d.parameters.length) = some 1 := by decide +kernel
theorem v_X3_init : xvok kX3_init := ⟨wcode_X3_init, wini_RX3, by decide +kernel, by decide +kernel⟩
theorem n_X3_init : (parseMethodDescriptor kX3_init.1.desc).map (fun d => d.parameters.length) = some 2 := by decide +kernel
theorem v_X3_copyTo : xvok kX3_copyTo := ⟨wcode_X3_copyTo, wini_RX3, by decide +kernel, by decide +kernel⟩
theorem n_X3_copyTo : (parseMethodDescriptor kX3_copyTo.1.desc).map (fun d => d.parameters.length) = some 2 := by decide +kernel
theorem v_X3_accept : xvok kX3_accept := ⟨wcode_X3_accept, wini_RX3, by decide +kernel, by decide +kernel⟩
theorem n_X3_accept : (parseMethodDescriptor kX3_accept.1.desc).map (fun d => d.parameters.length) = some 2 := by decide +kernel
theorem v_X4_init : xvok kX4_init := ⟨wcode_X4_init, wini_RX4, by decide +kernel, by decide +kernel⟩
theorem n_X4_init : (parseMethodDescriptor kX4_init.1.desc).map (fun d => d.parameters.length) = some 0 := by decide +kernel
theorem v_X4_tape : xvok kX4_tape := ⟨wcode_X4_tape, wini_RX4, by decide +kernel, by decide +kernel⟩
theorem n_X4_tape : (parseMethodDescriptor kX4_tape.1.desc).map (fun d => d.parameters.length) = some 3 := by decide +kernel
theorem v_X4_plug : xvok kX4_plug := ⟨wcode_X4_plug, wini_RX4, by decide +kernel, by decide +kernel⟩
theorem n_X4_plug : (parseMethodDescriptor kX4_plug.1.desc).map (fun d => d.parameters.length) = some 1 := by decide +kernel
theorem v_X4_strip : xvok kX4_strip := ⟨wcode_X4_strip, wini_RX4, by decide +kernel, by decide +kernel⟩
theorem n_X4_strip : (parseMethodDescriptor kX4_strip.1.desc).map (fun d => d.parameters.length) = some 1 := by decide +kernel
theorem v_X4_share : xvok kX4_share := ⟨wcode_X4_share, wini_RX4, by decide +kernel, by decide +kernel⟩
theorem n_X4_share : (parseMethodDescriptor kX4_share.1.desc).map (fun d => d.parameters.length) = some 2 := by decide +kernel
theorem v_X4_head : xvok kX4_head := ⟨wcode_X4_head, wini_RX4, by decide +kernel, by decide +kernel⟩
theorem n_X4_head : (parseMethodDescriptor kX4_head.1.desc).map (fun d => d.parameters.length) = some 2 := by decide +kernel
theorem v_X4_step : xvok kX4_step := ⟨wcode_X4_step, wini_RX4, by decide +kernel, by decide +kernel⟩
theorem n_X4_step : (parseMethodDescriptor kX4_step.1.desc).map (fun d => d.parameters.length) = some 2 := by decide +kernel
theorem v_X4_loop : xvok kX4_loop := ⟨wcode_X4_loop, wini_RX4, by decide +kernel, by decide +kernel⟩
theorem n_X4_loop : (parseMethodDescriptor kX4_loop.1.desc).map (fun d => d.parameters.length) = some 2 := by decide +kernel
theorem v_X4_stamp : xvok kX4_stamp := ⟨wcode_X4_stamp, wini_RX4, by decide +kernel, by decide +kernel⟩
theorem n_X4_stamp : (parseMethodDescriptor kX4_stamp.1.desc).map (fun d => d.parameters.length) = some 4 := by decide +kernel
theorem v_X4_probe : xvok kX4_probe := ⟨wcode_X4_probe, wini_RX4, by decide +kernel, by decide +kernel⟩
theorem n_X4_probe : (parseMethodDescriptor kX4_probe.1.desc).map (fun d => d.parameters.length) = some 3 := by decide +kernel
theorem v_X4_tag : xvok kX4_tag := ⟨wcode_X4_tag, wini_RX4, by decide +kernel, by decide +kernel⟩
theorem n_X4_tag : (parseMethodDescriptor kX4_tag.1.desc).map (fun d => d.parameters.length) = some 3 := by decide +kernel
theorem v_X4_rack : xvok kX4_rack := ⟨wcode_X4_rack, wini_RX4, by decide +kernel, by decide +kernel⟩
theorem n_X4_rack : (parseMethodDescriptor kX4_rack.1.desc).map (fun d => d.parameters.length) = some 3 := by decide +kernel
theorem v_X4_unrack : xvok kX4_unrack := ⟨wcode_X4_unrack, wini_RX4, by decide +kernel, by decide +kernel⟩
theorem n_X4_unrack : (parseMethodDescriptor kX4_unrack.1.desc).map (fun d => d.parameters.length) = some 3 := by decide +kernel
theorem v_X4_cable : xvok kX4_cable := ⟨wcode_X4_cable, wini_RX4, by decide +kernel, by decide +kernel⟩
theorem n_X4_cable : (parseMethodDescriptor kX4_cable.1.desc).map (fun d => d.parameters.length) = some 3 := by decide +kernel
theorem v_X4_patience : xvok kX4_patience := ⟨wcode_X4_patience, wini_RX4, by decide +kernel, by decide +kernel⟩
theorem n_X4_patience : (parseMethodDescriptor kX4_patience.1.desc).map (fun d => d.parameters.length) = some 2 := by decide +kernel
theorem v_X4_pull : xvok kX4_pull := ⟨wcode_X4_pull, wini_RX4, by decide +kernel, by decide +kernel⟩
theorem n_X4_pull : (parseMethodDescriptor kX4_pull.1.desc).map (fun d => d.parameters.length) = some 1 := by decide +kernel
theorem v_X4_plugIn : xvok kX4_plugIn := ⟨wcode_X4_plugIn, wini_RX4, by decide +kernel, by decide +kernel⟩
theorem n_X4_plugIn : (parseMethodDescriptor kX4_plugIn.1.desc).map (fun d => d.parameters.length) = some 1 := by decide +kernel
theorem v_X4_tick : xvok kX4_tick := ⟨wcode_X4_tick, wini_RX4, by decide +kernel, by decide +kernel⟩
theorem n_X4_tick : (parseMethodDescriptor kX4_tick.1.desc).map (fun d => d.parameters.length) = some 0 := by decide +kernel
theorem v_X4_splice : xvok kX4_splice := ⟨wcode_X4_splice, wini_RX4, by decide +kernel, by decide +kernel⟩
theorem n_X4_splice : (parseMethodDescriptor kX4_splice.1.desc).map (fun d => d.parameters.length) = some 5 := by decide +kernel
theorem v_X4_dub : xvok kX4_dub := ⟨wcode_X4_dub, wini_RX4, by decide +kernel, by decide +kernel⟩
theorem n_X4_dub : (parseMethodDescriptor kX4_dub.1.desc).map (fun d => d.parameters.length) = some 3 := by decide +kernel
theorem v_X4_sum : xvok kX4_sum := ⟨wcode_X4_sum, wini_RX4, by decide +kernel, by decide +kernel⟩
theorem n_X4_sum : (parseMethodDescriptor kX4_sum.1.desc).map (fun d => d.parameters.length) = some 1 := by decide +kernel
theorem v_X4_match : xvok kX4_match := ⟨wcode_X4_match, wini_RX4, by decide +kernel, by decide +kernel⟩
theorem n_X4_match : (parseMethodDescriptor kX4_match.1.desc).map (fun d => d.parameters.length) = some 2 := by decide +kernel
theorem v_X4_why : xvok kX4_why := ⟨wcode_X4_why, wini_RX4, by decide +kernel, by decide +kernel⟩
theorem n_X4_why : (parseMethodDescriptor kX4_why.1.desc).map (fun d => d.parameters.length) = some 0 := by decide +kernel
theorem v_X4_number : xvok kX4_number := ⟨wcode_X4_number, wini_RX4, by decide +kernel, by decide +kernel⟩
theorem n_X4_number : (parseMethodDescriptor kX4_number.1.desc).map (fun d => d.parameters.length) = some 2 := by decide +kernel
theorem v_X4_kind : xvok kX4_kind := ⟨wcode_X4_kind, wini_RX4, by decide +kernel, by decide +kernel⟩
theorem n_X4_kind : (parseMethodDescriptor kX4_kind.1.desc).map (fun d => d.parameters.length) = some 2 := by decide +kernel
theorem v_X4_cells : xvok kX4_cells := ⟨wcode_X4_cells, wini_RX4, by decide +kernel, by decide +kernel⟩
theorem n_X4_cells : (parseMethodDescriptor kX4_cells.1.desc).map (fun d => d.parameters.length) = some 1 := by decide +kernel
theorem v_X4_of : xvok kX4_of := ⟨wcode_X4_of, wini_RX4, by decide +kernel, by decide +kernel⟩
theorem n_X4_of : (parseMethodDescriptor kX4_of.1.desc).map (fun d => d.parameters.length) = some 2 := by decide +kernel
theorem v_X4_told : xvok kX4_told := ⟨wcode_X4_told, wini_RX4, by decide +kernel, by decide +kernel⟩
theorem n_X4_told : (parseMethodDescriptor kX4_told.1.desc).map (fun d => d.parameters.length) = some 2 := by decide +kernel
theorem v_X4_fault : xvok kX4_fault := ⟨wcode_X4_fault, wini_RX4, by decide +kernel, by decide +kernel⟩
theorem n_X4_fault : (parseMethodDescriptor kX4_fault.1.desc).map (fun d => d.parameters.length) = some 2 := by decide +kernel
theorem v_X4_count : xvok kX4_count := ⟨wcode_X4_count, wini_RX4, by decide +kernel, by decide +kernel⟩
theorem n_X4_count : (parseMethodDescriptor kX4_count.1.desc).map (fun d => d.parameters.length) = some 1 := by decide +kernel
theorem v_X4_channelAt : xvok kX4_channelAt := ⟨wcode_X4_channelAt, wini_RX4, by decide +kernel, by decide +kernel⟩
theorem n_X4_channelAt : (parseMethodDescriptor kX4_channelAt.1.desc).map (fun d => d.parameters.length) = some 1 := by decide +kernel
theorem v_X4_cableAt : xvok kX4_cableAt := ⟨wcode_X4_cableAt, wini_RX4, by decide +kernel, by decide +kernel⟩
theorem n_X4_cableAt : (parseMethodDescriptor kX4_cableAt.1.desc).map (fun d => d.parameters.length) = some 1 := by decide +kernel
theorem v_X4_isPlain : xvok kX4_isPlain := ⟨wcode_X4_isPlain, wini_RX4, by decide +kernel, by decide +kernel⟩
theorem n_X4_isPlain : (parseMethodDescriptor kX4_isPlain.1.desc).map (fun d => d.parameters.length) = some 1 := by decide +kernel
theorem v_X4_isTapeKind : xvok kX4_isTapeKind := ⟨wcode_X4_isTapeKind, wini_RX4, by decide +kernel, by decide +kernel⟩
theorem n_X4_isTapeKind : (parseMethodDescriptor kX4_isTapeKind.1.desc).map (fun d => d.parameters.length) = some 1 := by decide +kernel
theorem v_X4_takes : xvok kX4_takes := ⟨wcode_X4_takes, wini_RX4, by decide +kernel, by decide +kernel⟩
theorem n_X4_takes : (parseMethodDescriptor kX4_takes.1.desc).map (fun d => d.parameters.length) = some 2 := by decide +kernel
theorem v_X4_fitted : xvok kX4_fitted := ⟨wcode_X4_fitted, wini_RX4, by decide +kernel, by decide +kernel⟩
theorem n_X4_fitted : (parseMethodDescriptor kX4_fitted.1.desc).map (fun d => d.parameters.length) = some 2 := by decide +kernel
theorem v_X4_meet : xvok kX4_meet := ⟨wcode_X4_meet, wini_RX4, by decide +kernel, by decide +kernel⟩
theorem n_X4_meet : (parseMethodDescriptor kX4_meet.1.desc).map (fun d => d.parameters.length) = some 1 := by decide +kernel
theorem v_X4_timesMet : xvok kX4_timesMet := ⟨wcode_X4_timesMet, wini_RX4, by decide +kernel, by decide +kernel⟩
theorem n_X4_timesMet : (parseMethodDescriptor kX4_timesMet.1.desc).map (fun d => d.parameters.length) = some 1 := by decide +kernel
theorem v_X4_note : xvok kX4_note := ⟨wcode_X4_note, wini_RX4, by decide +kernel, by decide +kernel⟩
theorem n_X4_note : (parseMethodDescriptor kX4_note.1.desc).map (fun d => d.parameters.length) = some 1 := by decide +kernel
theorem v_X4_answer : xvok kX4_answer := ⟨wcode_X4_answer, wini_RX4, by decide +kernel, by decide +kernel⟩
theorem n_X4_answer : (parseMethodDescriptor kX4_answer.1.desc).map (fun d => d.parameters.length) = some 2 := by decide +kernel
theorem v_X4_noteFault : xvok kX4_noteFault := ⟨wcode_X4_noteFault, wini_RX4, by decide +kernel, by decide +kernel⟩
theorem n_X4_noteFault : (parseMethodDescriptor kX4_noteFault.1.desc).map (fun d => d.parameters.length) = some 2 := by decide +kernel
theorem v_X4_keepBooks : xvok kX4_keepBooks := ⟨wcode_X4_keepBooks, wini_RX4, by decide +kernel, by decide +kernel⟩
theorem n_X4_keepBooks : (parseMethodDescriptor kX4_keepBooks.1.desc).map (fun d => d.parameters.length) = some 2 := by decide +kernel
theorem v_X4_carry : xvok kX4_carry := ⟨wcode_X4_carry, wini_RX4, by decide +kernel, by decide +kernel⟩
theorem n_X4_carry : (parseMethodDescriptor kX4_carry.1.desc).map (fun d => d.parameters.length) = some 1 := by decide +kernel
theorem v_X4_wire : xvok kX4_wire := ⟨wcode_X4_wire, wini_RX4, by decide +kernel, by decide +kernel⟩
theorem n_X4_wire : (parseMethodDescriptor kX4_wire.1.desc).map (fun d => d.parameters.length) = some 4 := by decide +kernel
theorem v_X4_gate : xvok kX4_gate := ⟨wcode_X4_gate, wini_RX4, by decide +kernel, by decide +kernel⟩
theorem n_X4_gate : (parseMethodDescriptor kX4_gate.1.desc).map (fun d => d.parameters.length) = some 4 := by decide +kernel
theorem v_X4_pair : xvok kX4_pair := ⟨wcode_X4_pair, wini_RX4, by decide +kernel, by decide +kernel⟩
theorem n_X4_pair : (parseMethodDescriptor kX4_pair.1.desc).map (fun d => d.parameters.length) = some 4 := by decide +kernel
theorem v_X4_swap : xvok kX4_swap := ⟨wcode_X4_swap, wini_RX4, by decide +kernel, by decide +kernel⟩
theorem n_X4_swap : (parseMethodDescriptor kX4_swap.1.desc).map (fun d => d.parameters.length) = some 4 := by decide +kernel
theorem v_X4_move : xvok kX4_move := ⟨wcode_X4_move, wini_RX4, by decide +kernel, by decide +kernel⟩
theorem n_X4_move : (parseMethodDescriptor kX4_move.1.desc).map (fun d => d.parameters.length) = some 1 := by decide +kernel
theorem v_X5_init : xvok kX5_init := ⟨wcode_X5_init, wini_RX5, by decide +kernel, by decide +kernel⟩
theorem n_X5_init : (parseMethodDescriptor kX5_init.1.desc).map (fun d => d.parameters.length) = some 0 := by decide +kernel
theorem v_X5_isIn : xvok kX5_isIn := ⟨wcode_X5_isIn, wini_RX5, by decide +kernel, by decide +kernel⟩
theorem n_X5_isIn : (parseMethodDescriptor kX5_isIn.1.desc).map (fun d => d.parameters.length) = some 3 := by decide +kernel
theorem v_X5_isChannel : xvok kX5_isChannel := ⟨wcode_X5_isChannel, wini_RX5, by decide +kernel, by decide +kernel⟩
theorem n_X5_isChannel : (parseMethodDescriptor kX5_isChannel.1.desc).map (fun d => d.parameters.length) = some 1 := by decide +kernel
theorem v_X5_isCable : xvok kX5_isCable := ⟨wcode_X5_isCable, wini_RX5, by decide +kernel, by decide +kernel⟩
theorem n_X5_isCable : (parseMethodDescriptor kX5_isCable.1.desc).map (fun d => d.parameters.length) = some 1 := by decide +kernel
theorem v_X5_met : xvok kX5_met := ⟨wcode_X5_met, wini_RX5, by decide +kernel, by decide +kernel⟩
theorem n_X5_met : (parseMethodDescriptor kX5_met.1.desc).map (fun d => d.parameters.length) = some 1 := by decide +kernel
theorem v_X5_sort : xvok kX5_sort := ⟨wcode_X5_sort, wini_RX5, by decide +kernel, by decide +kernel⟩
theorem n_X5_sort : (parseMethodDescriptor kX5_sort.1.desc).map (fun d => d.parameters.length) = some 1 := by decide +kernel
theorem v_X5_freeTape : xvok kX5_freeTape := ⟨wcode_X5_freeTape, wini_RX5, by decide +kernel, by decide +kernel⟩
theorem n_X5_freeTape : (parseMethodDescriptor kX5_freeTape.1.desc).map (fun d => d.parameters.length) = some 0 := by decide +kernel
theorem v_X5_newTape : xvok kX5_newTape := ⟨wcode_X5_newTape, wini_RX5, by decide +kernel, by decide +kernel⟩
theorem n_X5_newTape : (parseMethodDescriptor kX5_newTape.1.desc).map (fun d => d.parameters.length) = some 2 := by decide +kernel
theorem v_X5_nearest : xvok kX5_nearest := ⟨wcode_X5_nearest, wini_RX5, by decide +kernel, by decide +kernel⟩
theorem n_X5_nearest : (parseMethodDescriptor kX5_nearest.1.desc).map (fun d => d.parameters.length) = some 2 := by decide +kernel
theorem v_X5_made : xvok kX5_made := ⟨wcode_X5_made, wini_RX5, by decide +kernel, by decide +kernel⟩
theorem n_X5_made : (parseMethodDescriptor kX5_made.1.desc).map (fun d => d.parameters.length) = some 2 := by decide +kernel
theorem v_X5_takes : xvok kX5_takes := ⟨wcode_X5_takes, wini_RX5, by decide +kernel, by decide +kernel⟩
theorem n_X5_takes : (parseMethodDescriptor kX5_takes.1.desc).map (fun d => d.parameters.length) = some 2 := by decide +kernel
theorem v_X5_cellKind : xvok kX5_cellKind := ⟨wcode_X5_cellKind, wini_RX5, by decide +kernel, by decide +kernel⟩
theorem n_X5_cellKind : (parseMethodDescriptor kX5_cellKind.1.desc).map (fun d => d.parameters.length) = some 2 := by decide +kernel
theorem v_X5_numberOf : xvok kX5_numberOf := ⟨wcode_X5_numberOf, wini_RX5, by decide +kernel, by decide +kernel⟩
theorem n_X5_numberOf : (parseMethodDescriptor kX5_numberOf.1.desc).map (fun d => d.parameters.length) = some 2 := by decide +kernel
theorem v_X5_kept : xvok kX5_kept := ⟨wcode_X5_kept, wini_RX5, by decide +kernel, by decide +kernel⟩
theorem n_X5_kept : (parseMethodDescriptor kX5_kept.1.desc).map (fun d => d.parameters.length) = some 2 := by decide +kernel
theorem v_X5_noTape : xvok kX5_noTape := ⟨wcode_X5_noTape, wini_RX5, by decide +kernel, by decide +kernel⟩
theorem n_X5_noTape : (parseMethodDescriptor kX5_noTape.1.desc).map (fun d => d.parameters.length) = some 1 := by decide +kernel
theorem v_X5_noPlace : xvok kX5_noPlace := ⟨wcode_X5_noPlace, wini_RX5, by decide +kernel, by decide +kernel⟩
theorem n_X5_noPlace : (parseMethodDescriptor kX5_noPlace.1.desc).map (fun d => d.parameters.length) = some 2 := by decide +kernel
theorem v_X5_kindOf : xvok kX5_kindOf := ⟨wcode_X5_kindOf, wini_RX5, by decide +kernel, by decide +kernel⟩
theorem n_X5_kindOf : (parseMethodDescriptor kX5_kindOf.1.desc).map (fun d => d.parameters.length) = some 1 := by decide +kernel
theorem v_X5_at : xvok kX5_at := ⟨wcode_X5_at, wini_RX5, by decide +kernel, by decide +kernel⟩
theorem n_X5_at : (parseMethodDescriptor kX5_at.1.desc).map (fun d => d.parameters.length) = some 2 := by decide +kernel
theorem v_X5_noTake : xvok kX5_noTake := ⟨wcode_X5_noTake, wini_RX5, by decide +kernel, by decide +kernel⟩
theorem n_X5_noTake : (parseMethodDescriptor kX5_noTake.1.desc).map (fun d => d.parameters.length) = some 2 := by decide +kernel
theorem v_X5_noWrite : xvok kX5_noWrite := ⟨wcode_X5_noWrite, wini_RX5, by decide +kernel, by decide +kernel⟩
theorem n_X5_noWrite : (parseMethodDescriptor kX5_noWrite.1.desc).map (fun d => d.parameters.length) = some 3 := by decide +kernel
theorem v_X5_writes : xvok kX5_writes := ⟨wcode_X5_writes, wini_RX5, by decide +kernel, by decide +kernel⟩
theorem n_X5_writes : (parseMethodDescriptor kX5_writes.1.desc).map (fun d => d.parameters.length) = some 4 := by decide +kernel
theorem v_X5_passes : xvok kX5_passes := ⟨wcode_X5_passes, wini_RX5, by decide +kernel, by decide +kernel⟩
theorem n_X5_passes : (parseMethodDescriptor kX5_passes.1.desc).map (fun d => d.parameters.length) = some 4 := by decide +kernel
theorem v_X5_tape : xvok kX5_tape := ⟨wcode_X5_tape, wini_RX5, by decide +kernel, by decide +kernel⟩
theorem n_X5_tape : (parseMethodDescriptor kX5_tape.1.desc).map (fun d => d.parameters.length) = some 3 := by decide +kernel
theorem v_X5_plug : xvok kX5_plug := ⟨wcode_X5_plug, wini_RX5, by decide +kernel, by decide +kernel⟩
theorem n_X5_plug : (parseMethodDescriptor kX5_plug.1.desc).map (fun d => d.parameters.length) = some 1 := by decide +kernel
theorem v_X5_strip : xvok kX5_strip := ⟨wcode_X5_strip, wini_RX5, by decide +kernel, by decide +kernel⟩
theorem n_X5_strip : (parseMethodDescriptor kX5_strip.1.desc).map (fun d => d.parameters.length) = some 1 := by decide +kernel
theorem v_X5_share : xvok kX5_share := ⟨wcode_X5_share, wini_RX5, by decide +kernel, by decide +kernel⟩
theorem n_X5_share : (parseMethodDescriptor kX5_share.1.desc).map (fun d => d.parameters.length) = some 2 := by decide +kernel
theorem v_X5_head : xvok kX5_head := ⟨wcode_X5_head, wini_RX5, by decide +kernel, by decide +kernel⟩
theorem n_X5_head : (parseMethodDescriptor kX5_head.1.desc).map (fun d => d.parameters.length) = some 2 := by decide +kernel
theorem v_X5_step : xvok kX5_step := ⟨wcode_X5_step, wini_RX5, by decide +kernel, by decide +kernel⟩
theorem n_X5_step : (parseMethodDescriptor kX5_step.1.desc).map (fun d => d.parameters.length) = some 2 := by decide +kernel
theorem v_X5_loop : xvok kX5_loop := ⟨wcode_X5_loop, wini_RX5, by decide +kernel, by decide +kernel⟩
theorem n_X5_loop : (parseMethodDescriptor kX5_loop.1.desc).map (fun d => d.parameters.length) = some 2 := by decide +kernel
theorem v_X5_noPlain : xvok kX5_noPlain := ⟨wcode_X5_noPlain, wini_RX5, by decide +kernel, by decide +kernel⟩
theorem n_X5_noPlain : (parseMethodDescriptor kX5_noPlain.1.desc).map (fun d => d.parameters.length) = some 2 := by decide +kernel
theorem v_X5_stamp : xvok kX5_stamp := ⟨wcode_X5_stamp, wini_RX5, by decide +kernel, by decide +kernel⟩
theorem n_X5_stamp : (parseMethodDescriptor kX5_stamp.1.desc).map (fun d => d.parameters.length) = some 4 := by decide +kernel
theorem v_X5_probe : xvok kX5_probe := ⟨wcode_X5_probe, wini_RX5, by decide +kernel, by decide +kernel⟩
theorem n_X5_probe : (parseMethodDescriptor kX5_probe.1.desc).map (fun d => d.parameters.length) = some 3 := by decide +kernel
theorem v_X5_tag : xvok kX5_tag := ⟨wcode_X5_tag, wini_RX5, by decide +kernel, by decide +kernel⟩
theorem n_X5_tag : (parseMethodDescriptor kX5_tag.1.desc).map (fun d => d.parameters.length) = some 3 := by decide +kernel
theorem v_X5_rack : xvok kX5_rack := ⟨wcode_X5_rack, wini_RX5, by decide +kernel, by decide +kernel⟩
theorem n_X5_rack : (parseMethodDescriptor kX5_rack.1.desc).map (fun d => d.parameters.length) = some 3 := by decide +kernel
theorem v_X5_unrack : xvok kX5_unrack := ⟨wcode_X5_unrack, wini_RX5, by decide +kernel, by decide +kernel⟩
theorem n_X5_unrack : (parseMethodDescriptor kX5_unrack.1.desc).map (fun d => d.parameters.length) = some 3 := by decide +kernel
theorem v_X5_cable : xvok kX5_cable := ⟨wcode_X5_cable, wini_RX5, by decide +kernel, by decide +kernel⟩
theorem n_X5_cable : (parseMethodDescriptor kX5_cable.1.desc).map (fun d => d.parameters.length) = some 3 := by decide +kernel
theorem v_X5_patience : xvok kX5_patience := ⟨wcode_X5_patience, wini_RX5, by decide +kernel, by decide +kernel⟩
theorem n_X5_patience : (parseMethodDescriptor kX5_patience.1.desc).map (fun d => d.parameters.length) = some 2 := by decide +kernel
theorem v_X5_pull : xvok kX5_pull := ⟨wcode_X5_pull, wini_RX5, by decide +kernel, by decide +kernel⟩
theorem n_X5_pull : (parseMethodDescriptor kX5_pull.1.desc).map (fun d => d.parameters.length) = some 1 := by decide +kernel
theorem v_X5_plugIn : xvok kX5_plugIn := ⟨wcode_X5_plugIn, wini_RX5, by decide +kernel, by decide +kernel⟩
theorem n_X5_plugIn : (parseMethodDescriptor kX5_plugIn.1.desc).map (fun d => d.parameters.length) = some 1 := by decide +kernel
theorem v_X5_changes : xvok kX5_changes := ⟨wcode_X5_changes, wini_RX5, by decide +kernel, by decide +kernel⟩
theorem n_X5_changes : (parseMethodDescriptor kX5_changes.1.desc).map (fun d => d.parameters.length) = some 4 := by decide +kernel
theorem v_X5_carries : xvok kX5_carries := ⟨wcode_X5_carries, wini_RX5, by decide +kernel, by decide +kernel⟩
theorem n_X5_carries : (parseMethodDescriptor kX5_carries.1.desc).map (fun d => d.parameters.length) = some 1 := by decide +kernel
theorem v_X5_fails : xvok kX5_fails := ⟨wcode_X5_fails, wini_RX5, by decide +kernel, by decide +kernel⟩
theorem n_X5_fails : (parseMethodDescriptor kX5_fails.1.desc).map (fun d => d.parameters.length) = some 2 := by decide +kernel
theorem v_X5_moves : xvok kX5_moves := ⟨wcode_X5_moves, wini_RX5, by decide +kernel, by decide +kernel⟩
theorem n_X5_moves : (parseMethodDescriptor kX5_moves.1.desc).map (fun d => d.parameters.length) = some 1 := by decide +kernel
theorem v_X5_tick : xvok kX5_tick := ⟨wcode_X5_tick, wini_RX5, by decide +kernel, by decide +kernel⟩
theorem n_X5_tick : (parseMethodDescriptor kX5_tick.1.desc).map (fun d => d.parameters.length) = some 0 := by decide +kernel
theorem v_X5_splice : xvok kX5_splice := ⟨wcode_X5_splice, wini_RX5, by decide +kernel, by decide +kernel⟩
theorem n_X5_splice : (parseMethodDescriptor kX5_splice.1.desc).map (fun d => d.parameters.length) = some 5 := by decide +kernel
theorem v_X5_dub : xvok kX5_dub := ⟨wcode_X5_dub, wini_RX5, by decide +kernel, by decide +kernel⟩
theorem n_X5_dub : (parseMethodDescriptor kX5_dub.1.desc).map (fun d => d.parameters.length) = some 3 := by decide +kernel
theorem v_X5_sum : xvok kX5_sum := ⟨wcode_X5_sum, wini_RX5, by decide +kernel, by decide +kernel⟩
theorem n_X5_sum : (parseMethodDescriptor kX5_sum.1.desc).map (fun d => d.parameters.length) = some 1 := by decide +kernel
theorem v_X5_match : xvok kX5_match := ⟨wcode_X5_match, wini_RX5, by decide +kernel, by decide +kernel⟩
theorem n_X5_match : (parseMethodDescriptor kX5_match.1.desc).map (fun d => d.parameters.length) = some 2 := by decide +kernel
theorem v_X5_why : xvok kX5_why := ⟨wcode_X5_why, wini_RX5, by decide +kernel, by decide +kernel⟩
theorem n_X5_why : (parseMethodDescriptor kX5_why.1.desc).map (fun d => d.parameters.length) = some 0 := by decide +kernel
theorem v_X5_number : xvok kX5_number := ⟨wcode_X5_number, wini_RX5, by decide +kernel, by decide +kernel⟩
theorem n_X5_number : (parseMethodDescriptor kX5_number.1.desc).map (fun d => d.parameters.length) = some 2 := by decide +kernel
theorem v_X5_kind : xvok kX5_kind := ⟨wcode_X5_kind, wini_RX5, by decide +kernel, by decide +kernel⟩
theorem n_X5_kind : (parseMethodDescriptor kX5_kind.1.desc).map (fun d => d.parameters.length) = some 2 := by decide +kernel
theorem v_X5_cells : xvok kX5_cells := ⟨wcode_X5_cells, wini_RX5, by decide +kernel, by decide +kernel⟩
theorem n_X5_cells : (parseMethodDescriptor kX5_cells.1.desc).map (fun d => d.parameters.length) = some 1 := by decide +kernel
theorem v_X5_of : xvok kX5_of := ⟨wcode_X5_of, wini_RX5, by decide +kernel, by decide +kernel⟩
theorem n_X5_of : (parseMethodDescriptor kX5_of.1.desc).map (fun d => d.parameters.length) = some 2 := by decide +kernel
theorem v_X5_told : xvok kX5_told := ⟨wcode_X5_told, wini_RX5, by decide +kernel, by decide +kernel⟩
theorem n_X5_told : (parseMethodDescriptor kX5_told.1.desc).map (fun d => d.parameters.length) = some 2 := by decide +kernel
theorem v_X5_fault : xvok kX5_fault := ⟨wcode_X5_fault, wini_RX5, by decide +kernel, by decide +kernel⟩
theorem n_X5_fault : (parseMethodDescriptor kX5_fault.1.desc).map (fun d => d.parameters.length) = some 2 := by decide +kernel
theorem v_X5_count : xvok kX5_count := ⟨wcode_X5_count, wini_RX5, by decide +kernel, by decide +kernel⟩
theorem n_X5_count : (parseMethodDescriptor kX5_count.1.desc).map (fun d => d.parameters.length) = some 1 := by decide +kernel
theorem v_J9_floorMod_7cf53 : xvok kJ9_floorMod_7cf53 := ⟨wcode_J9_floorMod_7cf53, wini_RJ9, by decide +kernel, by decide +kernel⟩
theorem n_J9_floorMod_7cf53 : (parseMethodDescriptor kJ9_floorMod_7cf53.1.desc).map (fun d => d.parameters.length) = some 2 := by decide +kernel
theorem v_J9_min_7cf53 : xvok kJ9_min_7cf53 := ⟨wcode_J9_min_7cf53, wini_RJ9, by decide +kernel, by decide +kernel⟩
theorem n_J9_min_7cf53 : (parseMethodDescriptor kJ9_min_7cf53.1.desc).map (fun d => d.parameters.length) = some 2 := by decide +kernel
end
section
/-! calls by the number of their arguments and the kind of their answer (laid by wip/whole/mksugar.py) -/
theorem X.cV0v {k k' : xk} {sc : xsc} {pc : Nat} {lv : Nat → Option Value} {st : List Value} {μ : xM} {Q : Option Value → xM → Prop} {a c n idx : Nat} (d : decode k.2.1 pc = .ok (.invokevirtual idx, 3)) (hT : mT μ a = (c, n)) (hc : c < 6 ∧ xC c = k'.1.cls) (hv : xvok k') (w1 : Cond.methodLink k.1.cls idx k'.1 ∈ xtbl) (w2 : Cond.instanceMethod k'.1 ∈ xtbl) (w3 : Cond.selects k'.1.cls k'.1 k'.1 ∈ xtbl) (hr : xrmok k k') (hn : (parseMethodDescriptor k'.1.desc).map (fun d => d.parameters.length) = some 0) (hst : xcats st ≤ 8) (hm : Mt k' [.ref a] μ (fun r μ' => r = none ∧ X k sc (pc + 3) lv st μ' Q)) : X k sc pc lv (.ref a :: st) μ Q :=
  X.callV (as := []) d hT hc hv w1 w2 w3 hr hn hst (hm.mono (fun r μ' h9 => by obtain ⟨e, h⟩ := h9; subst e; exact h))
theorem X.cV0i {k k' : xk} {sc : xsc} {pc : Nat} {lv : Nat → Option Value} {st : List Value} {μ : xM} {Q : Option Value → xM → Prop} {a c n idx : Nat} (d : decode k.2.1 pc = .ok (.invokevirtual idx, 3)) (hT : mT μ a = (c, n)) (hc : c < 6 ∧ xC c = k'.1.cls) (hv : xvok k') (w1 : Cond.methodLink k.1.cls idx k'.1 ∈ xtbl) (w2 : Cond.instanceMethod k'.1 ∈ xtbl) (w3 : Cond.selects k'.1.cls k'.1 k'.1 ∈ xtbl) (hr : xrmok k k') (hn : (parseMethodDescriptor k'.1.desc).map (fun d => d.parameters.length) = some 0) (hst : xcats st ≤ 8) (hm : Mt k' [.ref a] μ (fun r μ' => ∃ v : Int32, r = some (.int v) ∧ X k sc (pc + 3) lv (.int v :: st) μ' Q)) : X k sc pc lv (.ref a :: st) μ Q :=
  X.callV (as := []) d hT hc hv w1 w2 w3 hr hn hst (hm.mono (fun r μ' h9 => by obtain ⟨v, e, h⟩ := h9; subst e; exact h))
theorem X.cV0l {k k' : xk} {sc : xsc} {pc : Nat} {lv : Nat → Option Value} {st : List Value} {μ : xM} {Q : Option Value → xM → Prop} {a c n idx : Nat} (d : decode k.2.1 pc = .ok (.invokevirtual idx, 3)) (hT : mT μ a = (c, n)) (hc : c < 6 ∧ xC c = k'.1.cls) (hv : xvok k') (w1 : Cond.methodLink k.1.cls idx k'.1 ∈ xtbl) (w2 : Cond.instanceMethod k'.1 ∈ xtbl) (w3 : Cond.selects k'.1.cls k'.1 k'.1 ∈ xtbl) (hr : xrmok k k') (hn : (parseMethodDescriptor k'.1.desc).map (fun d => d.parameters.length) = some 0) (hst : xcats st ≤ 8) (hm : Mt k' [.ref a] μ (fun r μ' => ∃ v : Int64, r = some (.long v) ∧ X k sc (pc + 3) lv (.long v :: st) μ' Q)) : X k sc pc lv (.ref a :: st) μ Q :=
  X.callV (as := []) d hT hc hv w1 w2 w3 hr hn hst (hm.mono (fun r μ' h9 => by obtain ⟨v, e, h⟩ := h9; subst e; exact h))
theorem X.cV0a {k k' : xk} {sc : xsc} {pc : Nat} {lv : Nat → Option Value} {st : List Value} {μ : xM} {Q : Option Value → xM → Prop} {a c n idx : Nat} (d : decode k.2.1 pc = .ok (.invokevirtual idx, 3)) (hT : mT μ a = (c, n)) (hc : c < 6 ∧ xC c = k'.1.cls) (hv : xvok k') (w1 : Cond.methodLink k.1.cls idx k'.1 ∈ xtbl) (w2 : Cond.instanceMethod k'.1 ∈ xtbl) (w3 : Cond.selects k'.1.cls k'.1 k'.1 ∈ xtbl) (hr : xrmok k k') (hn : (parseMethodDescriptor k'.1.desc).map (fun d => d.parameters.length) = some 0) (hst : xcats st ≤ 8) (hm : Mt k' [.ref a] μ (fun r μ' => ∃ v : Nat, r = some (.ref v) ∧ X k sc (pc + 3) lv (.ref v :: st) μ' Q)) : X k sc pc lv (.ref a :: st) μ Q :=
  X.callV (as := []) d hT hc hv w1 w2 w3 hr hn hst (hm.mono (fun r μ' h9 => by obtain ⟨v, e, h⟩ := h9; subst e; exact h))
theorem X.cV0n {k k' : xk} {sc : xsc} {pc : Nat} {lv : Nat → Option Value} {st : List Value} {μ : xM} {Q : Option Value → xM → Prop} {a c n idx : Nat} (d : decode k.2.1 pc = .ok (.invokevirtual idx, 3)) (hT : mT μ a = (c, n)) (hc : c < 6 ∧ xC c = k'.1.cls) (hv : xvok k') (w1 : Cond.methodLink k.1.cls idx k'.1 ∈ xtbl) (w2 : Cond.instanceMethod k'.1 ∈ xtbl) (w3 : Cond.selects k'.1.cls k'.1 k'.1 ∈ xtbl) (hr : xrmok k k') (hn : (parseMethodDescriptor k'.1.desc).map (fun d => d.parameters.length) = some 0) (hst : xcats st ≤ 8) (hm : Mt k' [.ref a] μ (fun r μ' => r = some .null ∧ X k sc (pc + 3) lv (.null :: st) μ' Q)) : X k sc pc lv (.ref a :: st) μ Q :=
  X.callV (as := []) d hT hc hv w1 w2 w3 hr hn hst (hm.mono (fun r μ' h9 => by obtain ⟨e, h⟩ := h9; subst e; exact h))
theorem X.cV1v {k k' : xk} {sc : xsc} {pc : Nat} {lv : Nat → Option Value} {st : List Value} {μ : xM} {Q : Option Value → xM → Prop} {a c n idx : Nat} {x1 : Value} (d : decode k.2.1 pc = .ok (.invokevirtual idx, 3)) (hT : mT μ a = (c, n)) (hc : c < 6 ∧ xC c = k'.1.cls) (hv : xvok k') (w1 : Cond.methodLink k.1.cls idx k'.1 ∈ xtbl) (w2 : Cond.instanceMethod k'.1 ∈ xtbl) (w3 : Cond.selects k'.1.cls k'.1 k'.1 ∈ xtbl) (hr : xrmok k k') (hn : (parseMethodDescriptor k'.1.desc).map (fun d => d.parameters.length) = some 1) (hst : xcats st ≤ 8) (hm : Mt k' [.ref a, x1] μ (fun r μ' => r = none ∧ X k sc (pc + 3) lv st μ' Q)) : X k sc pc lv (x1 :: .ref a :: st) μ Q :=
  X.callV (as := [x1]) d hT hc hv w1 w2 w3 hr hn hst (hm.mono (fun r μ' h9 => by obtain ⟨e, h⟩ := h9; subst e; exact h))
theorem X.cV1i {k k' : xk} {sc : xsc} {pc : Nat} {lv : Nat → Option Value} {st : List Value} {μ : xM} {Q : Option Value → xM → Prop} {a c n idx : Nat} {x1 : Value} (d : decode k.2.1 pc = .ok (.invokevirtual idx, 3)) (hT : mT μ a = (c, n)) (hc : c < 6 ∧ xC c = k'.1.cls) (hv : xvok k') (w1 : Cond.methodLink k.1.cls idx k'.1 ∈ xtbl) (w2 : Cond.instanceMethod k'.1 ∈ xtbl) (w3 : Cond.selects k'.1.cls k'.1 k'.1 ∈ xtbl) (hr : xrmok k k') (hn : (parseMethodDescriptor k'.1.desc).map (fun d => d.parameters.length) = some 1) (hst : xcats st ≤ 8) (hm : Mt k' [.ref a, x1] μ (fun r μ' => ∃ v : Int32, r = some (.int v) ∧ X k sc (pc + 3) lv (.int v :: st) μ' Q)) : X k sc pc lv (x1 :: .ref a :: st) μ Q :=
  X.callV (as := [x1]) d hT hc hv w1 w2 w3 hr hn hst (hm.mono (fun r μ' h9 => by obtain ⟨v, e, h⟩ := h9; subst e; exact h))
theorem X.cV1l {k k' : xk} {sc : xsc} {pc : Nat} {lv : Nat → Option Value} {st : List Value} {μ : xM} {Q : Option Value → xM → Prop} {a c n idx : Nat} {x1 : Value} (d : decode k.2.1 pc = .ok (.invokevirtual idx, 3)) (hT : mT μ a = (c, n)) (hc : c < 6 ∧ xC c = k'.1.cls) (hv : xvok k') (w1 : Cond.methodLink k.1.cls idx k'.1 ∈ xtbl) (w2 : Cond.instanceMethod k'.1 ∈ xtbl) (w3 : Cond.selects k'.1.cls k'.1 k'.1 ∈ xtbl) (hr : xrmok k k') (hn : (parseMethodDescriptor k'.1.desc).map (fun d => d.parameters.length) = some 1) (hst : xcats st ≤ 8) (hm : Mt k' [.ref a, x1] μ (fun r μ' => ∃ v : Int64, r = some (.long v) ∧ X k sc (pc + 3) lv (.long v :: st) μ' Q)) : X k sc pc lv (x1 :: .ref a :: st) μ Q :=
  X.callV (as := [x1]) d hT hc hv w1 w2 w3 hr hn hst (hm.mono (fun r μ' h9 => by obtain ⟨v, e, h⟩ := h9; subst e; exact h))
theorem X.cV1a {k k' : xk} {sc : xsc} {pc : Nat} {lv : Nat → Option Value} {st : List Value} {μ : xM} {Q : Option Value → xM → Prop} {a c n idx : Nat} {x1 : Value} (d : decode k.2.1 pc = .ok (.invokevirtual idx, 3)) (hT : mT μ a = (c, n)) (hc : c < 6 ∧ xC c = k'.1.cls) (hv : xvok k') (w1 : Cond.methodLink k.1.cls idx k'.1 ∈ xtbl) (w2 : Cond.instanceMethod k'.1 ∈ xtbl) (w3 : Cond.selects k'.1.cls k'.1 k'.1 ∈ xtbl) (hr : xrmok k k') (hn : (parseMethodDescriptor k'.1.desc).map (fun d => d.parameters.length) = some 1) (hst : xcats st ≤ 8) (hm : Mt k' [.ref a, x1] μ (fun r μ' => ∃ v : Nat, r = some (.ref v) ∧ X k sc (pc + 3) lv (.ref v :: st) μ' Q)) : X k sc pc lv (x1 :: .ref a :: st) μ Q :=
  X.callV (as := [x1]) d hT hc hv w1 w2 w3 hr hn hst (hm.mono (fun r μ' h9 => by obtain ⟨v, e, h⟩ := h9; subst e; exact h))
theorem X.cV1n {k k' : xk} {sc : xsc} {pc : Nat} {lv : Nat → Option Value} {st : List Value} {μ : xM} {Q : Option Value → xM → Prop} {a c n idx : Nat} {x1 : Value} (d : decode k.2.1 pc = .ok (.invokevirtual idx, 3)) (hT : mT μ a = (c, n)) (hc : c < 6 ∧ xC c = k'.1.cls) (hv : xvok k') (w1 : Cond.methodLink k.1.cls idx k'.1 ∈ xtbl) (w2 : Cond.instanceMethod k'.1 ∈ xtbl) (w3 : Cond.selects k'.1.cls k'.1 k'.1 ∈ xtbl) (hr : xrmok k k') (hn : (parseMethodDescriptor k'.1.desc).map (fun d => d.parameters.length) = some 1) (hst : xcats st ≤ 8) (hm : Mt k' [.ref a, x1] μ (fun r μ' => r = some .null ∧ X k sc (pc + 3) lv (.null :: st) μ' Q)) : X k sc pc lv (x1 :: .ref a :: st) μ Q :=
  X.callV (as := [x1]) d hT hc hv w1 w2 w3 hr hn hst (hm.mono (fun r μ' h9 => by obtain ⟨e, h⟩ := h9; subst e; exact h))
theorem X.cV2v {k k' : xk} {sc : xsc} {pc : Nat} {lv : Nat → Option Value} {st : List Value} {μ : xM} {Q : Option Value → xM → Prop} {a c n idx : Nat} {x1 x2 : Value} (d : decode k.2.1 pc = .ok (.invokevirtual idx, 3)) (hT : mT μ a = (c, n)) (hc : c < 6 ∧ xC c = k'.1.cls) (hv : xvok k') (w1 : Cond.methodLink k.1.cls idx k'.1 ∈ xtbl) (w2 : Cond.instanceMethod k'.1 ∈ xtbl) (w3 : Cond.selects k'.1.cls k'.1 k'.1 ∈ xtbl) (hr : xrmok k k') (hn : (parseMethodDescriptor k'.1.desc).map (fun d => d.parameters.length) = some 2) (hst : xcats st ≤ 8) (hm : Mt k' [.ref a, x1, x2] μ (fun r μ' => r = none ∧ X k sc (pc + 3) lv st μ' Q)) : X k sc pc lv (x2 :: x1 :: .ref a :: st) μ Q :=
  X.callV (as := [x1, x2]) d hT hc hv w1 w2 w3 hr hn hst (hm.mono (fun r μ' h9 => by obtain ⟨e, h⟩ := h9; subst e; exact h))
theorem X.cV2i {k k' : xk} {sc : xsc} {pc : Nat} {lv : Nat → Option Value} {st : List Value} {μ : xM} {Q : Option Value → xM → Prop} {a c n idx : Nat} {x1 x2 : Value} (d : decode k.2.1 pc = .ok (.invokevirtual idx, 3)) (hT : mT μ a = (c, n)) (hc : c < 6 ∧ xC c = k'.1.cls) (hv : xvok k') (w1 : Cond.methodLink k.1.cls idx k'.1 ∈ xtbl) (w2 : Cond.instanceMethod k'.1 ∈ xtbl) (w3 : Cond.selects k'.1.cls k'.1 k'.1 ∈ xtbl) (hr : xrmok k k') (hn : (parseMethodDescriptor k'.1.desc).map (fun d => d.parameters.length) = some 2) (hst : xcats st ≤ 8) (hm : Mt k' [.ref a, x1, x2] μ (fun r μ' => ∃ v : Int32, r = some (.int v) ∧ X k sc (pc + 3) lv (.int v :: st) μ' Q)) : X k sc pc lv (x2 :: x1 :: .ref a :: st) μ Q :=
  X.callV (as := [x1, x2]) d hT hc hv w1 w2 w3 hr hn hst (hm.mono (fun r μ' h9 => by obtain ⟨v, e, h⟩ := h9; subst e; exact h))
theorem X.cV2l {k k' : xk} {sc : xsc} {pc : Nat} {lv : Nat → Option Value} {st : List Value} {μ : xM} {Q : Option Value → xM → Prop} {a c n idx : Nat} {x1 x2 : Value} (d : decode k.2.1 pc = .ok (.invokevirtual idx, 3)) (hT : mT μ a = (c, n)) (hc : c < 6 ∧ xC c = k'.1.cls) (hv : xvok k') (w1 : Cond.methodLink k.1.cls idx k'.1 ∈ xtbl) (w2 : Cond.instanceMethod k'.1 ∈ xtbl) (w3 : Cond.selects k'.1.cls k'.1 k'.1 ∈ xtbl) (hr : xrmok k k') (hn : (parseMethodDescriptor k'.1.desc).map (fun d => d.parameters.length) = some 2) (hst : xcats st ≤ 8) (hm : Mt k' [.ref a, x1, x2] μ (fun r μ' => ∃ v : Int64, r = some (.long v) ∧ X k sc (pc + 3) lv (.long v :: st) μ' Q)) : X k sc pc lv (x2 :: x1 :: .ref a :: st) μ Q :=
  X.callV (as := [x1, x2]) d hT hc hv w1 w2 w3 hr hn hst (hm.mono (fun r μ' h9 => by obtain ⟨v, e, h⟩ := h9; subst e; exact h))
theorem X.cV2a {k k' : xk} {sc : xsc} {pc : Nat} {lv : Nat → Option Value} {st : List Value} {μ : xM} {Q : Option Value → xM → Prop} {a c n idx : Nat} {x1 x2 : Value} (d : decode k.2.1 pc = .ok (.invokevirtual idx, 3)) (hT : mT μ a = (c, n)) (hc : c < 6 ∧ xC c = k'.1.cls) (hv : xvok k') (w1 : Cond.methodLink k.1.cls idx k'.1 ∈ xtbl) (w2 : Cond.instanceMethod k'.1 ∈ xtbl) (w3 : Cond.selects k'.1.cls k'.1 k'.1 ∈ xtbl) (hr : xrmok k k') (hn : (parseMethodDescriptor k'.1.desc).map (fun d => d.parameters.length) = some 2) (hst : xcats st ≤ 8) (hm : Mt k' [.ref a, x1, x2] μ (fun r μ' => ∃ v : Nat, r = some (.ref v) ∧ X k sc (pc + 3) lv (.ref v :: st) μ' Q)) : X k sc pc lv (x2 :: x1 :: .ref a :: st) μ Q :=
  X.callV (as := [x1, x2]) d hT hc hv w1 w2 w3 hr hn hst (hm.mono (fun r μ' h9 => by obtain ⟨v, e, h⟩ := h9; subst e; exact h))
theorem X.cV2n {k k' : xk} {sc : xsc} {pc : Nat} {lv : Nat → Option Value} {st : List Value} {μ : xM} {Q : Option Value → xM → Prop} {a c n idx : Nat} {x1 x2 : Value} (d : decode k.2.1 pc = .ok (.invokevirtual idx, 3)) (hT : mT μ a = (c, n)) (hc : c < 6 ∧ xC c = k'.1.cls) (hv : xvok k') (w1 : Cond.methodLink k.1.cls idx k'.1 ∈ xtbl) (w2 : Cond.instanceMethod k'.1 ∈ xtbl) (w3 : Cond.selects k'.1.cls k'.1 k'.1 ∈ xtbl) (hr : xrmok k k') (hn : (parseMethodDescriptor k'.1.desc).map (fun d => d.parameters.length) = some 2) (hst : xcats st ≤ 8) (hm : Mt k' [.ref a, x1, x2] μ (fun r μ' => r = some .null ∧ X k sc (pc + 3) lv (.null :: st) μ' Q)) : X k sc pc lv (x2 :: x1 :: .ref a :: st) μ Q :=
  X.callV (as := [x1, x2]) d hT hc hv w1 w2 w3 hr hn hst (hm.mono (fun r μ' h9 => by obtain ⟨e, h⟩ := h9; subst e; exact h))
theorem X.cV3v {k k' : xk} {sc : xsc} {pc : Nat} {lv : Nat → Option Value} {st : List Value} {μ : xM} {Q : Option Value → xM → Prop} {a c n idx : Nat} {x1 x2 x3 : Value} (d : decode k.2.1 pc = .ok (.invokevirtual idx, 3)) (hT : mT μ a = (c, n)) (hc : c < 6 ∧ xC c = k'.1.cls) (hv : xvok k') (w1 : Cond.methodLink k.1.cls idx k'.1 ∈ xtbl) (w2 : Cond.instanceMethod k'.1 ∈ xtbl) (w3 : Cond.selects k'.1.cls k'.1 k'.1 ∈ xtbl) (hr : xrmok k k') (hn : (parseMethodDescriptor k'.1.desc).map (fun d => d.parameters.length) = some 3) (hst : xcats st ≤ 8) (hm : Mt k' [.ref a, x1, x2, x3] μ (fun r μ' => r = none ∧ X k sc (pc + 3) lv st μ' Q)) : X k sc pc lv (x3 :: x2 :: x1 :: .ref a :: st) μ Q :=
  X.callV (as := [x1, x2, x3]) d hT hc hv w1 w2 w3 hr hn hst (hm.mono (fun r μ' h9 => by obtain ⟨e, h⟩ := h9; subst e; exact h))
theorem X.cV3i {k k' : xk} {sc : xsc} {pc : Nat} {lv : Nat → Option Value} {st : List Value} {μ : xM} {Q : Option Value → xM → Prop} {a c n idx : Nat} {x1 x2 x3 : Value} (d : decode k.2.1 pc = .ok (.invokevirtual idx, 3)) (hT : mT μ a = (c, n)) (hc : c < 6 ∧ xC c = k'.1.cls) (hv : xvok k') (w1 : Cond.methodLink k.1.cls idx k'.1 ∈ xtbl) (w2 : Cond.instanceMethod k'.1 ∈ xtbl) (w3 : Cond.selects k'.1.cls k'.1 k'.1 ∈ xtbl) (hr : xrmok k k') (hn : (parseMethodDescriptor k'.1.desc).map (fun d => d.parameters.length) = some 3) (hst : xcats st ≤ 8) (hm : Mt k' [.ref a, x1, x2, x3] μ (fun r μ' => ∃ v : Int32, r = some (.int v) ∧ X k sc (pc + 3) lv (.int v :: st) μ' Q)) : X k sc pc lv (x3 :: x2 :: x1 :: .ref a :: st) μ Q :=
  X.callV (as := [x1, x2, x3]) d hT hc hv w1 w2 w3 hr hn hst (hm.mono (fun r μ' h9 => by obtain ⟨v, e, h⟩ := h9; subst e; exact h))
theorem X.cV3l {k k' : xk} {sc : xsc} {pc : Nat} {lv : Nat → Option Value} {st : List Value} {μ : xM} {Q : Option Value → xM → Prop} {a c n idx : Nat} {x1 x2 x3 : Value} (d : decode k.2.1 pc = .ok (.invokevirtual idx, 3)) (hT : mT μ a = (c, n)) (hc : c < 6 ∧ xC c = k'.1.cls) (hv : xvok k') (w1 : Cond.methodLink k.1.cls idx k'.1 ∈ xtbl) (w2 : Cond.instanceMethod k'.1 ∈ xtbl) (w3 : Cond.selects k'.1.cls k'.1 k'.1 ∈ xtbl) (hr : xrmok k k') (hn : (parseMethodDescriptor k'.1.desc).map (fun d => d.parameters.length) = some 3) (hst : xcats st ≤ 8) (hm : Mt k' [.ref a, x1, x2, x3] μ (fun r μ' => ∃ v : Int64, r = some (.long v) ∧ X k sc (pc + 3) lv (.long v :: st) μ' Q)) : X k sc pc lv (x3 :: x2 :: x1 :: .ref a :: st) μ Q :=
  X.callV (as := [x1, x2, x3]) d hT hc hv w1 w2 w3 hr hn hst (hm.mono (fun r μ' h9 => by obtain ⟨v, e, h⟩ := h9; subst e; exact h))
theorem X.cV3a {k k' : xk} {sc : xsc} {pc : Nat} {lv : Nat → Option Value} {st : List Value} {μ : xM} {Q : Option Value → xM → Prop} {a c n idx : Nat} {x1 x2 x3 : Value} (d : decode k.2.1 pc = .ok (.invokevirtual idx, 3)) (hT : mT μ a = (c, n)) (hc : c < 6 ∧ xC c = k'.1.cls) (hv : xvok k') (w1 : Cond.methodLink k.1.cls idx k'.1 ∈ xtbl) (w2 : Cond.instanceMethod k'.1 ∈ xtbl) (w3 : Cond.selects k'.1.cls k'.1 k'.1 ∈ xtbl) (hr : xrmok k k') (hn : (parseMethodDescriptor k'.1.desc).map (fun d => d.parameters.length) = some 3) (hst : xcats st ≤ 8) (hm : Mt k' [.ref a, x1, x2, x3] μ (fun r μ' => ∃ v : Nat, r = some (.ref v) ∧ X k sc (pc + 3) lv (.ref v :: st) μ' Q)) : X k sc pc lv (x3 :: x2 :: x1 :: .ref a :: st) μ Q :=
  X.callV (as := [x1, x2, x3]) d hT hc hv w1 w2 w3 hr hn hst (hm.mono (fun r μ' h9 => by obtain ⟨v, e, h⟩ := h9; subst e; exact h))
theorem X.cV3n {k k' : xk} {sc : xsc} {pc : Nat} {lv : Nat → Option Value} {st : List Value} {μ : xM} {Q : Option Value → xM → Prop} {a c n idx : Nat} {x1 x2 x3 : Value} (d : decode k.2.1 pc = .ok (.invokevirtual idx, 3)) (hT : mT μ a = (c, n)) (hc : c < 6 ∧ xC c = k'.1.cls) (hv : xvok k') (w1 : Cond.methodLink k.1.cls idx k'.1 ∈ xtbl) (w2 : Cond.instanceMethod k'.1 ∈ xtbl) (w3 : Cond.selects k'.1.cls k'.1 k'.1 ∈ xtbl) (hr : xrmok k k') (hn : (parseMethodDescriptor k'.1.desc).map (fun d => d.parameters.length) = some 3) (hst : xcats st ≤ 8) (hm : Mt k' [.ref a, x1, x2, x3] μ (fun r μ' => r = some .null ∧ X k sc (pc + 3) lv (.null :: st) μ' Q)) : X k sc pc lv (x3 :: x2 :: x1 :: .ref a :: st) μ Q :=
  X.callV (as := [x1, x2, x3]) d hT hc hv w1 w2 w3 hr hn hst (hm.mono (fun r μ' h9 => by obtain ⟨e, h⟩ := h9; subst e; exact h))
theorem X.cV4v {k k' : xk} {sc : xsc} {pc : Nat} {lv : Nat → Option Value} {st : List Value} {μ : xM} {Q : Option Value → xM → Prop} {a c n idx : Nat} {x1 x2 x3 x4 : Value} (d : decode k.2.1 pc = .ok (.invokevirtual idx, 3)) (hT : mT μ a = (c, n)) (hc : c < 6 ∧ xC c = k'.1.cls) (hv : xvok k') (w1 : Cond.methodLink k.1.cls idx k'.1 ∈ xtbl) (w2 : Cond.instanceMethod k'.1 ∈ xtbl) (w3 : Cond.selects k'.1.cls k'.1 k'.1 ∈ xtbl) (hr : xrmok k k') (hn : (parseMethodDescriptor k'.1.desc).map (fun d => d.parameters.length) = some 4) (hst : xcats st ≤ 8) (hm : Mt k' [.ref a, x1, x2, x3, x4] μ (fun r μ' => r = none ∧ X k sc (pc + 3) lv st μ' Q)) : X k sc pc lv (x4 :: x3 :: x2 :: x1 :: .ref a :: st) μ Q :=
  X.callV (as := [x1, x2, x3, x4]) d hT hc hv w1 w2 w3 hr hn hst (hm.mono (fun r μ' h9 => by obtain ⟨e, h⟩ := h9; subst e; exact h))
theorem X.cV4i {k k' : xk} {sc : xsc} {pc : Nat} {lv : Nat → Option Value} {st : List Value} {μ : xM} {Q : Option Value → xM → Prop} {a c n idx : Nat} {x1 x2 x3 x4 : Value} (d : decode k.2.1 pc = .ok (.invokevirtual idx, 3)) (hT : mT μ a = (c, n)) (hc : c < 6 ∧ xC c = k'.1.cls) (hv : xvok k') (w1 : Cond.methodLink k.1.cls idx k'.1 ∈ xtbl) (w2 : Cond.instanceMethod k'.1 ∈ xtbl) (w3 : Cond.selects k'.1.cls k'.1 k'.1 ∈ xtbl) (hr : xrmok k k') (hn : (parseMethodDescriptor k'.1.desc).map (fun d => d.parameters.length) = some 4) (hst : xcats st ≤ 8) (hm : Mt k' [.ref a, x1, x2, x3, x4] μ (fun r μ' => ∃ v : Int32, r = some (.int v) ∧ X k sc (pc + 3) lv (.int v :: st) μ' Q)) : X k sc pc lv (x4 :: x3 :: x2 :: x1 :: .ref a :: st) μ Q :=
  X.callV (as := [x1, x2, x3, x4]) d hT hc hv w1 w2 w3 hr hn hst (hm.mono (fun r μ' h9 => by obtain ⟨v, e, h⟩ := h9; subst e; exact h))
theorem X.cV4l {k k' : xk} {sc : xsc} {pc : Nat} {lv : Nat → Option Value} {st : List Value} {μ : xM} {Q : Option Value → xM → Prop} {a c n idx : Nat} {x1 x2 x3 x4 : Value} (d : decode k.2.1 pc = .ok (.invokevirtual idx, 3)) (hT : mT μ a = (c, n)) (hc : c < 6 ∧ xC c = k'.1.cls) (hv : xvok k') (w1 : Cond.methodLink k.1.cls idx k'.1 ∈ xtbl) (w2 : Cond.instanceMethod k'.1 ∈ xtbl) (w3 : Cond.selects k'.1.cls k'.1 k'.1 ∈ xtbl) (hr : xrmok k k') (hn : (parseMethodDescriptor k'.1.desc).map (fun d => d.parameters.length) = some 4) (hst : xcats st ≤ 8) (hm : Mt k' [.ref a, x1, x2, x3, x4] μ (fun r μ' => ∃ v : Int64, r = some (.long v) ∧ X k sc (pc + 3) lv (.long v :: st) μ' Q)) : X k sc pc lv (x4 :: x3 :: x2 :: x1 :: .ref a :: st) μ Q :=
  X.callV (as := [x1, x2, x3, x4]) d hT hc hv w1 w2 w3 hr hn hst (hm.mono (fun r μ' h9 => by obtain ⟨v, e, h⟩ := h9; subst e; exact h))
theorem X.cV4a {k k' : xk} {sc : xsc} {pc : Nat} {lv : Nat → Option Value} {st : List Value} {μ : xM} {Q : Option Value → xM → Prop} {a c n idx : Nat} {x1 x2 x3 x4 : Value} (d : decode k.2.1 pc = .ok (.invokevirtual idx, 3)) (hT : mT μ a = (c, n)) (hc : c < 6 ∧ xC c = k'.1.cls) (hv : xvok k') (w1 : Cond.methodLink k.1.cls idx k'.1 ∈ xtbl) (w2 : Cond.instanceMethod k'.1 ∈ xtbl) (w3 : Cond.selects k'.1.cls k'.1 k'.1 ∈ xtbl) (hr : xrmok k k') (hn : (parseMethodDescriptor k'.1.desc).map (fun d => d.parameters.length) = some 4) (hst : xcats st ≤ 8) (hm : Mt k' [.ref a, x1, x2, x3, x4] μ (fun r μ' => ∃ v : Nat, r = some (.ref v) ∧ X k sc (pc + 3) lv (.ref v :: st) μ' Q)) : X k sc pc lv (x4 :: x3 :: x2 :: x1 :: .ref a :: st) μ Q :=
  X.callV (as := [x1, x2, x3, x4]) d hT hc hv w1 w2 w3 hr hn hst (hm.mono (fun r μ' h9 => by obtain ⟨v, e, h⟩ := h9; subst e; exact h))
theorem X.cV4n {k k' : xk} {sc : xsc} {pc : Nat} {lv : Nat → Option Value} {st : List Value} {μ : xM} {Q : Option Value → xM → Prop} {a c n idx : Nat} {x1 x2 x3 x4 : Value} (d : decode k.2.1 pc = .ok (.invokevirtual idx, 3)) (hT : mT μ a = (c, n)) (hc : c < 6 ∧ xC c = k'.1.cls) (hv : xvok k') (w1 : Cond.methodLink k.1.cls idx k'.1 ∈ xtbl) (w2 : Cond.instanceMethod k'.1 ∈ xtbl) (w3 : Cond.selects k'.1.cls k'.1 k'.1 ∈ xtbl) (hr : xrmok k k') (hn : (parseMethodDescriptor k'.1.desc).map (fun d => d.parameters.length) = some 4) (hst : xcats st ≤ 8) (hm : Mt k' [.ref a, x1, x2, x3, x4] μ (fun r μ' => r = some .null ∧ X k sc (pc + 3) lv (.null :: st) μ' Q)) : X k sc pc lv (x4 :: x3 :: x2 :: x1 :: .ref a :: st) μ Q :=
  X.callV (as := [x1, x2, x3, x4]) d hT hc hv w1 w2 w3 hr hn hst (hm.mono (fun r μ' h9 => by obtain ⟨e, h⟩ := h9; subst e; exact h))
theorem X.cV5v {k k' : xk} {sc : xsc} {pc : Nat} {lv : Nat → Option Value} {st : List Value} {μ : xM} {Q : Option Value → xM → Prop} {a c n idx : Nat} {x1 x2 x3 x4 x5 : Value} (d : decode k.2.1 pc = .ok (.invokevirtual idx, 3)) (hT : mT μ a = (c, n)) (hc : c < 6 ∧ xC c = k'.1.cls) (hv : xvok k') (w1 : Cond.methodLink k.1.cls idx k'.1 ∈ xtbl) (w2 : Cond.instanceMethod k'.1 ∈ xtbl) (w3 : Cond.selects k'.1.cls k'.1 k'.1 ∈ xtbl) (hr : xrmok k k') (hn : (parseMethodDescriptor k'.1.desc).map (fun d => d.parameters.length) = some 5) (hst : xcats st ≤ 8) (hm : Mt k' [.ref a, x1, x2, x3, x4, x5] μ (fun r μ' => r = none ∧ X k sc (pc + 3) lv st μ' Q)) : X k sc pc lv (x5 :: x4 :: x3 :: x2 :: x1 :: .ref a :: st) μ Q :=
  X.callV (as := [x1, x2, x3, x4, x5]) d hT hc hv w1 w2 w3 hr hn hst (hm.mono (fun r μ' h9 => by obtain ⟨e, h⟩ := h9; subst e; exact h))
theorem X.cV5i {k k' : xk} {sc : xsc} {pc : Nat} {lv : Nat → Option Value} {st : List Value} {μ : xM} {Q : Option Value → xM → Prop} {a c n idx : Nat} {x1 x2 x3 x4 x5 : Value} (d : decode k.2.1 pc = .ok (.invokevirtual idx, 3)) (hT : mT μ a = (c, n)) (hc : c < 6 ∧ xC c = k'.1.cls) (hv : xvok k') (w1 : Cond.methodLink k.1.cls idx k'.1 ∈ xtbl) (w2 : Cond.instanceMethod k'.1 ∈ xtbl) (w3 : Cond.selects k'.1.cls k'.1 k'.1 ∈ xtbl) (hr : xrmok k k') (hn : (parseMethodDescriptor k'.1.desc).map (fun d => d.parameters.length) = some 5) (hst : xcats st ≤ 8) (hm : Mt k' [.ref a, x1, x2, x3, x4, x5] μ (fun r μ' => ∃ v : Int32, r = some (.int v) ∧ X k sc (pc + 3) lv (.int v :: st) μ' Q)) : X k sc pc lv (x5 :: x4 :: x3 :: x2 :: x1 :: .ref a :: st) μ Q :=
  X.callV (as := [x1, x2, x3, x4, x5]) d hT hc hv w1 w2 w3 hr hn hst (hm.mono (fun r μ' h9 => by obtain ⟨v, e, h⟩ := h9; subst e; exact h))
theorem X.cV5l {k k' : xk} {sc : xsc} {pc : Nat} {lv : Nat → Option Value} {st : List Value} {μ : xM} {Q : Option Value → xM → Prop} {a c n idx : Nat} {x1 x2 x3 x4 x5 : Value} (d : decode k.2.1 pc = .ok (.invokevirtual idx, 3)) (hT : mT μ a = (c, n)) (hc : c < 6 ∧ xC c = k'.1.cls) (hv : xvok k') (w1 : Cond.methodLink k.1.cls idx k'.1 ∈ xtbl) (w2 : Cond.instanceMethod k'.1 ∈ xtbl) (w3 : Cond.selects k'.1.cls k'.1 k'.1 ∈ xtbl) (hr : xrmok k k') (hn : (parseMethodDescriptor k'.1.desc).map (fun d => d.parameters.length) = some 5) (hst : xcats st ≤ 8) (hm : Mt k' [.ref a, x1, x2, x3, x4, x5] μ (fun r μ' => ∃ v : Int64, r = some (.long v) ∧ X k sc (pc + 3) lv (.long v :: st) μ' Q)) : X k sc pc lv (x5 :: x4 :: x3 :: x2 :: x1 :: .ref a :: st) μ Q :=
  X.callV (as := [x1, x2, x3, x4, x5]) d hT hc hv w1 w2 w3 hr hn hst (hm.mono (fun r μ' h9 => by obtain ⟨v, e, h⟩ := h9; subst e; exact h))
theorem X.cV5a {k k' : xk} {sc : xsc} {pc : Nat} {lv : Nat → Option Value} {st : List Value} {μ : xM} {Q : Option Value → xM → Prop} {a c n idx : Nat} {x1 x2 x3 x4 x5 : Value} (d : decode k.2.1 pc = .ok (.invokevirtual idx, 3)) (hT : mT μ a = (c, n)) (hc : c < 6 ∧ xC c = k'.1.cls) (hv : xvok k') (w1 : Cond.methodLink k.1.cls idx k'.1 ∈ xtbl) (w2 : Cond.instanceMethod k'.1 ∈ xtbl) (w3 : Cond.selects k'.1.cls k'.1 k'.1 ∈ xtbl) (hr : xrmok k k') (hn : (parseMethodDescriptor k'.1.desc).map (fun d => d.parameters.length) = some 5) (hst : xcats st ≤ 8) (hm : Mt k' [.ref a, x1, x2, x3, x4, x5] μ (fun r μ' => ∃ v : Nat, r = some (.ref v) ∧ X k sc (pc + 3) lv (.ref v :: st) μ' Q)) : X k sc pc lv (x5 :: x4 :: x3 :: x2 :: x1 :: .ref a :: st) μ Q :=
  X.callV (as := [x1, x2, x3, x4, x5]) d hT hc hv w1 w2 w3 hr hn hst (hm.mono (fun r μ' h9 => by obtain ⟨v, e, h⟩ := h9; subst e; exact h))
theorem X.cV5n {k k' : xk} {sc : xsc} {pc : Nat} {lv : Nat → Option Value} {st : List Value} {μ : xM} {Q : Option Value → xM → Prop} {a c n idx : Nat} {x1 x2 x3 x4 x5 : Value} (d : decode k.2.1 pc = .ok (.invokevirtual idx, 3)) (hT : mT μ a = (c, n)) (hc : c < 6 ∧ xC c = k'.1.cls) (hv : xvok k') (w1 : Cond.methodLink k.1.cls idx k'.1 ∈ xtbl) (w2 : Cond.instanceMethod k'.1 ∈ xtbl) (w3 : Cond.selects k'.1.cls k'.1 k'.1 ∈ xtbl) (hr : xrmok k k') (hn : (parseMethodDescriptor k'.1.desc).map (fun d => d.parameters.length) = some 5) (hst : xcats st ≤ 8) (hm : Mt k' [.ref a, x1, x2, x3, x4, x5] μ (fun r μ' => r = some .null ∧ X k sc (pc + 3) lv (.null :: st) μ' Q)) : X k sc pc lv (x5 :: x4 :: x3 :: x2 :: x1 :: .ref a :: st) μ Q :=
  X.callV (as := [x1, x2, x3, x4, x5]) d hT hc hv w1 w2 w3 hr hn hst (hm.mono (fun r μ' h9 => by obtain ⟨e, h⟩ := h9; subst e; exact h))
theorem X.cS1i {k k' : xk} {sc : xsc} {pc : Nat} {lv : Nat → Option Value} {st : List Value} {μ : xM} {Q : Option Value → xM → Prop} {idx : Nat} {x1 : Value} (d : decode k.2.1 pc = .ok (.invokestatic idx, 3)) (hv : xvok k') (w1 : Cond.methodLink k.1.cls idx k'.1 ∈ xtbl) (w2 : Cond.static k'.1 ∈ xtbl) (hr : xrmok k k') (hn : (parseMethodDescriptor k'.1.desc).map (fun d => d.parameters.length) = some 1) (hst : xcats st ≤ 8) (hm : Mt k' [x1] μ (fun r μ' => ∃ v : Int32, r = some (.int v) ∧ X k sc (pc + 3) lv (.int v :: st) μ' Q)) : X k sc pc lv (x1 :: st) μ Q :=
  X.callS (as := [x1]) d hv w1 w2 hr hn hst (hm.mono (fun r μ' h9 => by obtain ⟨v, e, h⟩ := h9; subst e; exact h))
theorem X.cS1l {k k' : xk} {sc : xsc} {pc : Nat} {lv : Nat → Option Value} {st : List Value} {μ : xM} {Q : Option Value → xM → Prop} {idx : Nat} {x1 : Value} (d : decode k.2.1 pc = .ok (.invokestatic idx, 3)) (hv : xvok k') (w1 : Cond.methodLink k.1.cls idx k'.1 ∈ xtbl) (w2 : Cond.static k'.1 ∈ xtbl) (hr : xrmok k k') (hn : (parseMethodDescriptor k'.1.desc).map (fun d => d.parameters.length) = some 1) (hst : xcats st ≤ 8) (hm : Mt k' [x1] μ (fun r μ' => ∃ v : Int64, r = some (.long v) ∧ X k sc (pc + 3) lv (.long v :: st) μ' Q)) : X k sc pc lv (x1 :: st) μ Q :=
  X.callS (as := [x1]) d hv w1 w2 hr hn hst (hm.mono (fun r μ' h9 => by obtain ⟨v, e, h⟩ := h9; subst e; exact h))
theorem X.cS2i {k k' : xk} {sc : xsc} {pc : Nat} {lv : Nat → Option Value} {st : List Value} {μ : xM} {Q : Option Value → xM → Prop} {idx : Nat} {x1 x2 : Value} (d : decode k.2.1 pc = .ok (.invokestatic idx, 3)) (hv : xvok k') (w1 : Cond.methodLink k.1.cls idx k'.1 ∈ xtbl) (w2 : Cond.static k'.1 ∈ xtbl) (hr : xrmok k k') (hn : (parseMethodDescriptor k'.1.desc).map (fun d => d.parameters.length) = some 2) (hst : xcats st ≤ 8) (hm : Mt k' [x1, x2] μ (fun r μ' => ∃ v : Int32, r = some (.int v) ∧ X k sc (pc + 3) lv (.int v :: st) μ' Q)) : X k sc pc lv (x2 :: x1 :: st) μ Q :=
  X.callS (as := [x1, x2]) d hv w1 w2 hr hn hst (hm.mono (fun r μ' h9 => by obtain ⟨v, e, h⟩ := h9; subst e; exact h))
theorem X.cS2l {k k' : xk} {sc : xsc} {pc : Nat} {lv : Nat → Option Value} {st : List Value} {μ : xM} {Q : Option Value → xM → Prop} {idx : Nat} {x1 x2 : Value} (d : decode k.2.1 pc = .ok (.invokestatic idx, 3)) (hv : xvok k') (w1 : Cond.methodLink k.1.cls idx k'.1 ∈ xtbl) (w2 : Cond.static k'.1 ∈ xtbl) (hr : xrmok k k') (hn : (parseMethodDescriptor k'.1.desc).map (fun d => d.parameters.length) = some 2) (hst : xcats st ≤ 8) (hm : Mt k' [x1, x2] μ (fun r μ' => ∃ v : Int64, r = some (.long v) ∧ X k sc (pc + 3) lv (.long v :: st) μ' Q)) : X k sc pc lv (x2 :: x1 :: st) μ Q :=
  X.callS (as := [x1, x2]) d hv w1 w2 hr hn hst (hm.mono (fun r μ' h9 => by obtain ⟨v, e, h⟩ := h9; subst e; exact h))
theorem X.cS3i {k k' : xk} {sc : xsc} {pc : Nat} {lv : Nat → Option Value} {st : List Value} {μ : xM} {Q : Option Value → xM → Prop} {idx : Nat} {x1 x2 x3 : Value} (d : decode k.2.1 pc = .ok (.invokestatic idx, 3)) (hv : xvok k') (w1 : Cond.methodLink k.1.cls idx k'.1 ∈ xtbl) (w2 : Cond.static k'.1 ∈ xtbl) (hr : xrmok k k') (hn : (parseMethodDescriptor k'.1.desc).map (fun d => d.parameters.length) = some 3) (hst : xcats st ≤ 8) (hm : Mt k' [x1, x2, x3] μ (fun r μ' => ∃ v : Int32, r = some (.int v) ∧ X k sc (pc + 3) lv (.int v :: st) μ' Q)) : X k sc pc lv (x3 :: x2 :: x1 :: st) μ Q :=
  X.callS (as := [x1, x2, x3]) d hv w1 w2 hr hn hst (hm.mono (fun r μ' h9 => by obtain ⟨v, e, h⟩ := h9; subst e; exact h))
theorem X.cS3l {k k' : xk} {sc : xsc} {pc : Nat} {lv : Nat → Option Value} {st : List Value} {μ : xM} {Q : Option Value → xM → Prop} {idx : Nat} {x1 x2 x3 : Value} (d : decode k.2.1 pc = .ok (.invokestatic idx, 3)) (hv : xvok k') (w1 : Cond.methodLink k.1.cls idx k'.1 ∈ xtbl) (w2 : Cond.static k'.1 ∈ xtbl) (hr : xrmok k k') (hn : (parseMethodDescriptor k'.1.desc).map (fun d => d.parameters.length) = some 3) (hst : xcats st ≤ 8) (hm : Mt k' [x1, x2, x3] μ (fun r μ' => ∃ v : Int64, r = some (.long v) ∧ X k sc (pc + 3) lv (.long v :: st) μ' Q)) : X k sc pc lv (x3 :: x2 :: x1 :: st) μ Q :=
  X.callS (as := [x1, x2, x3]) d hv w1 w2 hr hn hst (hm.mono (fun r μ' h9 => by obtain ⟨v, e, h⟩ := h9; subst e; exact h))
theorem X.cS4i {k k' : xk} {sc : xsc} {pc : Nat} {lv : Nat → Option Value} {st : List Value} {μ : xM} {Q : Option Value → xM → Prop} {idx : Nat} {x1 x2 x3 x4 : Value} (d : decode k.2.1 pc = .ok (.invokestatic idx, 3)) (hv : xvok k') (w1 : Cond.methodLink k.1.cls idx k'.1 ∈ xtbl) (w2 : Cond.static k'.1 ∈ xtbl) (hr : xrmok k k') (hn : (parseMethodDescriptor k'.1.desc).map (fun d => d.parameters.length) = some 4) (hst : xcats st ≤ 8) (hm : Mt k' [x1, x2, x3, x4] μ (fun r μ' => ∃ v : Int32, r = some (.int v) ∧ X k sc (pc + 3) lv (.int v :: st) μ' Q)) : X k sc pc lv (x4 :: x3 :: x2 :: x1 :: st) μ Q :=
  X.callS (as := [x1, x2, x3, x4]) d hv w1 w2 hr hn hst (hm.mono (fun r μ' h9 => by obtain ⟨v, e, h⟩ := h9; subst e; exact h))
theorem X.cS4l {k k' : xk} {sc : xsc} {pc : Nat} {lv : Nat → Option Value} {st : List Value} {μ : xM} {Q : Option Value → xM → Prop} {idx : Nat} {x1 x2 x3 x4 : Value} (d : decode k.2.1 pc = .ok (.invokestatic idx, 3)) (hv : xvok k') (w1 : Cond.methodLink k.1.cls idx k'.1 ∈ xtbl) (w2 : Cond.static k'.1 ∈ xtbl) (hr : xrmok k k') (hn : (parseMethodDescriptor k'.1.desc).map (fun d => d.parameters.length) = some 4) (hst : xcats st ≤ 8) (hm : Mt k' [x1, x2, x3, x4] μ (fun r μ' => ∃ v : Int64, r = some (.long v) ∧ X k sc (pc + 3) lv (.long v :: st) μ' Q)) : X k sc pc lv (x4 :: x3 :: x2 :: x1 :: st) μ Q :=
  X.callS (as := [x1, x2, x3, x4]) d hv w1 w2 hr hn hst (hm.mono (fun r μ' h9 => by obtain ⟨v, e, h⟩ := h9; subst e; exact h))
theorem X.cS5i {k k' : xk} {sc : xsc} {pc : Nat} {lv : Nat → Option Value} {st : List Value} {μ : xM} {Q : Option Value → xM → Prop} {idx : Nat} {x1 x2 x3 x4 x5 : Value} (d : decode k.2.1 pc = .ok (.invokestatic idx, 3)) (hv : xvok k') (w1 : Cond.methodLink k.1.cls idx k'.1 ∈ xtbl) (w2 : Cond.static k'.1 ∈ xtbl) (hr : xrmok k k') (hn : (parseMethodDescriptor k'.1.desc).map (fun d => d.parameters.length) = some 5) (hst : xcats st ≤ 8) (hm : Mt k' [x1, x2, x3, x4, x5] μ (fun r μ' => ∃ v : Int32, r = some (.int v) ∧ X k sc (pc + 3) lv (.int v :: st) μ' Q)) : X k sc pc lv (x5 :: x4 :: x3 :: x2 :: x1 :: st) μ Q :=
  X.callS (as := [x1, x2, x3, x4, x5]) d hv w1 w2 hr hn hst (hm.mono (fun r μ' h9 => by obtain ⟨v, e, h⟩ := h9; subst e; exact h))
theorem X.cS5l {k k' : xk} {sc : xsc} {pc : Nat} {lv : Nat → Option Value} {st : List Value} {μ : xM} {Q : Option Value → xM → Prop} {idx : Nat} {x1 x2 x3 x4 x5 : Value} (d : decode k.2.1 pc = .ok (.invokestatic idx, 3)) (hv : xvok k') (w1 : Cond.methodLink k.1.cls idx k'.1 ∈ xtbl) (w2 : Cond.static k'.1 ∈ xtbl) (hr : xrmok k k') (hn : (parseMethodDescriptor k'.1.desc).map (fun d => d.parameters.length) = some 5) (hst : xcats st ≤ 8) (hm : Mt k' [x1, x2, x3, x4, x5] μ (fun r μ' => ∃ v : Int64, r = some (.long v) ∧ X k sc (pc + 3) lv (.long v :: st) μ' Q)) : X k sc pc lv (x5 :: x4 :: x3 :: x2 :: x1 :: st) μ Q :=
  X.callS (as := [x1, x2, x3, x4, x5]) d hv w1 w2 hr hn hst (hm.mono (fun r μ' h9 => by obtain ⟨v, e, h⟩ := h9; subst e; exact h))
theorem X.cSN1i {k k' : xk} {sc : xsc} {pc : Nat} {lv : Nat → Option Value} {st : List Value} {μ : xM} {Q : Option Value → xM → Prop} {idx : Nat} {host : String} {x1 : Value} (d : decode k.2.1 pc = .ok (.invokestatic idx, 3)) (hv : xvok k') (w1 : (k.1.cls, idx, k'.1, host) ∈ xnest) (w2 : Cond.static k'.1 ∈ xtbl) (hr : xrmok k k') (hn : (parseMethodDescriptor k'.1.desc).map (fun d => d.parameters.length) = some 1) (hst : xcats st ≤ 8) (hm : Mt k' [x1] μ (fun r μ' => ∃ v : Int32, r = some (.int v) ∧ X k sc (pc + 3) lv (.int v :: st) μ' Q)) : X k sc pc lv (x1 :: st) μ Q :=
  X.callSN (as := [x1]) d hv w1 w2 hr hn hst (hm.mono (fun r μ' h9 => by obtain ⟨v, e, h⟩ := h9; subst e; exact h))
theorem X.cSN1l {k k' : xk} {sc : xsc} {pc : Nat} {lv : Nat → Option Value} {st : List Value} {μ : xM} {Q : Option Value → xM → Prop} {idx : Nat} {host : String} {x1 : Value} (d : decode k.2.1 pc = .ok (.invokestatic idx, 3)) (hv : xvok k') (w1 : (k.1.cls, idx, k'.1, host) ∈ xnest) (w2 : Cond.static k'.1 ∈ xtbl) (hr : xrmok k k') (hn : (parseMethodDescriptor k'.1.desc).map (fun d => d.parameters.length) = some 1) (hst : xcats st ≤ 8) (hm : Mt k' [x1] μ (fun r μ' => ∃ v : Int64, r = some (.long v) ∧ X k sc (pc + 3) lv (.long v :: st) μ' Q)) : X k sc pc lv (x1 :: st) μ Q :=
  X.callSN (as := [x1]) d hv w1 w2 hr hn hst (hm.mono (fun r μ' h9 => by obtain ⟨v, e, h⟩ := h9; subst e; exact h))
theorem X.cSN2i {k k' : xk} {sc : xsc} {pc : Nat} {lv : Nat → Option Value} {st : List Value} {μ : xM} {Q : Option Value → xM → Prop} {idx : Nat} {host : String} {x1 x2 : Value} (d : decode k.2.1 pc = .ok (.invokestatic idx, 3)) (hv : xvok k') (w1 : (k.1.cls, idx, k'.1, host) ∈ xnest) (w2 : Cond.static k'.1 ∈ xtbl) (hr : xrmok k k') (hn : (parseMethodDescriptor k'.1.desc).map (fun d => d.parameters.length) = some 2) (hst : xcats st ≤ 8) (hm : Mt k' [x1, x2] μ (fun r μ' => ∃ v : Int32, r = some (.int v) ∧ X k sc (pc + 3) lv (.int v :: st) μ' Q)) : X k sc pc lv (x2 :: x1 :: st) μ Q :=
  X.callSN (as := [x1, x2]) d hv w1 w2 hr hn hst (hm.mono (fun r μ' h9 => by obtain ⟨v, e, h⟩ := h9; subst e; exact h))
theorem X.cSN2l {k k' : xk} {sc : xsc} {pc : Nat} {lv : Nat → Option Value} {st : List Value} {μ : xM} {Q : Option Value → xM → Prop} {idx : Nat} {host : String} {x1 x2 : Value} (d : decode k.2.1 pc = .ok (.invokestatic idx, 3)) (hv : xvok k') (w1 : (k.1.cls, idx, k'.1, host) ∈ xnest) (w2 : Cond.static k'.1 ∈ xtbl) (hr : xrmok k k') (hn : (parseMethodDescriptor k'.1.desc).map (fun d => d.parameters.length) = some 2) (hst : xcats st ≤ 8) (hm : Mt k' [x1, x2] μ (fun r μ' => ∃ v : Int64, r = some (.long v) ∧ X k sc (pc + 3) lv (.long v :: st) μ' Q)) : X k sc pc lv (x2 :: x1 :: st) μ Q :=
  X.callSN (as := [x1, x2]) d hv w1 w2 hr hn hst (hm.mono (fun r μ' h9 => by obtain ⟨v, e, h⟩ := h9; subst e; exact h))
theorem X.cI0v {k k' : xk} {sc : xsc} {pc : Nat} {lv : Nat → Option Value} {st : List Value} {μ : xM} {Q : Option Value → xM → Prop} {a idx : Nat} (d : decode k.2.1 pc = .ok (.invokespecial idx, 3)) (hk : k'.2.2.2.1 = none ∧ k'.1.name = "<init>") (hv : xvok k') (w1 : Cond.methodLink k.1.cls idx k'.1 ∈ xtbl) (w2 : Cond.instanceMethod k'.1 ∈ xtbl) (hr : xrmok k k') (hn : (parseMethodDescriptor k'.1.desc).map (fun d => d.parameters.length) = some 0) (hst : xcats st ≤ 8) (hm : Mt k' [.ref a] μ (fun r μ' => r = none ∧ X k sc (pc + 3) lv st μ' Q)) : X k sc pc lv (.ref a :: st) μ Q :=
  X.callI (as := []) d hk hv w1 w2 hr hn hst (hm.mono (fun r μ' h9 => by obtain ⟨e, h⟩ := h9; subst e; exact h))
theorem X.cI1v {k k' : xk} {sc : xsc} {pc : Nat} {lv : Nat → Option Value} {st : List Value} {μ : xM} {Q : Option Value → xM → Prop} {a idx : Nat} {x1 : Value} (d : decode k.2.1 pc = .ok (.invokespecial idx, 3)) (hk : k'.2.2.2.1 = none ∧ k'.1.name = "<init>") (hv : xvok k') (w1 : Cond.methodLink k.1.cls idx k'.1 ∈ xtbl) (w2 : Cond.instanceMethod k'.1 ∈ xtbl) (hr : xrmok k k') (hn : (parseMethodDescriptor k'.1.desc).map (fun d => d.parameters.length) = some 1) (hst : xcats st ≤ 8) (hm : Mt k' [.ref a, x1] μ (fun r μ' => r = none ∧ X k sc (pc + 3) lv st μ' Q)) : X k sc pc lv (x1 :: .ref a :: st) μ Q :=
  X.callI (as := [x1]) d hk hv w1 w2 hr hn hst (hm.mono (fun r μ' h9 => by obtain ⟨e, h⟩ := h9; subst e; exact h))
theorem X.cI2v {k k' : xk} {sc : xsc} {pc : Nat} {lv : Nat → Option Value} {st : List Value} {μ : xM} {Q : Option Value → xM → Prop} {a idx : Nat} {x1 x2 : Value} (d : decode k.2.1 pc = .ok (.invokespecial idx, 3)) (hk : k'.2.2.2.1 = none ∧ k'.1.name = "<init>") (hv : xvok k') (w1 : Cond.methodLink k.1.cls idx k'.1 ∈ xtbl) (w2 : Cond.instanceMethod k'.1 ∈ xtbl) (hr : xrmok k k') (hn : (parseMethodDescriptor k'.1.desc).map (fun d => d.parameters.length) = some 2) (hst : xcats st ≤ 8) (hm : Mt k' [.ref a, x1, x2] μ (fun r μ' => r = none ∧ X k sc (pc + 3) lv st μ' Q)) : X k sc pc lv (x2 :: x1 :: .ref a :: st) μ Q :=
  X.callI (as := [x1, x2]) d hk hv w1 w2 hr hn hst (hm.mono (fun r μ' h9 => by obtain ⟨e, h⟩ := h9; subst e; exact h))
theorem X.cI3v {k k' : xk} {sc : xsc} {pc : Nat} {lv : Nat → Option Value} {st : List Value} {μ : xM} {Q : Option Value → xM → Prop} {a idx : Nat} {x1 x2 x3 : Value} (d : decode k.2.1 pc = .ok (.invokespecial idx, 3)) (hk : k'.2.2.2.1 = none ∧ k'.1.name = "<init>") (hv : xvok k') (w1 : Cond.methodLink k.1.cls idx k'.1 ∈ xtbl) (w2 : Cond.instanceMethod k'.1 ∈ xtbl) (hr : xrmok k k') (hn : (parseMethodDescriptor k'.1.desc).map (fun d => d.parameters.length) = some 3) (hst : xcats st ≤ 8) (hm : Mt k' [.ref a, x1, x2, x3] μ (fun r μ' => r = none ∧ X k sc (pc + 3) lv st μ' Q)) : X k sc pc lv (x3 :: x2 :: x1 :: .ref a :: st) μ Q :=
  X.callI (as := [x1, x2, x3]) d hk hv w1 w2 hr hn hst (hm.mono (fun r μ' h9 => by obtain ⟨e, h⟩ := h9; subst e; exact h))
theorem X.cI4v {k k' : xk} {sc : xsc} {pc : Nat} {lv : Nat → Option Value} {st : List Value} {μ : xM} {Q : Option Value → xM → Prop} {a idx : Nat} {x1 x2 x3 x4 : Value} (d : decode k.2.1 pc = .ok (.invokespecial idx, 3)) (hk : k'.2.2.2.1 = none ∧ k'.1.name = "<init>") (hv : xvok k') (w1 : Cond.methodLink k.1.cls idx k'.1 ∈ xtbl) (w2 : Cond.instanceMethod k'.1 ∈ xtbl) (hr : xrmok k k') (hn : (parseMethodDescriptor k'.1.desc).map (fun d => d.parameters.length) = some 4) (hst : xcats st ≤ 8) (hm : Mt k' [.ref a, x1, x2, x3, x4] μ (fun r μ' => r = none ∧ X k sc (pc + 3) lv st μ' Q)) : X k sc pc lv (x4 :: x3 :: x2 :: x1 :: .ref a :: st) μ Q :=
  X.callI (as := [x1, x2, x3, x4]) d hk hv w1 w2 hr hn hst (hm.mono (fun r μ' h9 => by obtain ⟨e, h⟩ := h9; subst e; exact h))
theorem X.cI5v {k k' : xk} {sc : xsc} {pc : Nat} {lv : Nat → Option Value} {st : List Value} {μ : xM} {Q : Option Value → xM → Prop} {a idx : Nat} {x1 x2 x3 x4 x5 : Value} (d : decode k.2.1 pc = .ok (.invokespecial idx, 3)) (hk : k'.2.2.2.1 = none ∧ k'.1.name = "<init>") (hv : xvok k') (w1 : Cond.methodLink k.1.cls idx k'.1 ∈ xtbl) (w2 : Cond.instanceMethod k'.1 ∈ xtbl) (hr : xrmok k k') (hn : (parseMethodDescriptor k'.1.desc).map (fun d => d.parameters.length) = some 5) (hst : xcats st ≤ 8) (hm : Mt k' [.ref a, x1, x2, x3, x4, x5] μ (fun r μ' => r = none ∧ X k sc (pc + 3) lv st μ' Q)) : X k sc pc lv (x5 :: x4 :: x3 :: x2 :: x1 :: .ref a :: st) μ Q :=
  X.callI (as := [x1, x2, x3, x4, x5]) d hk hv w1 w2 hr hn hst (hm.mono (fun r μ' h9 => by obtain ⟨e, h⟩ := h9; subst e; exact h))
theorem X.cIN0v {k k' : xk} {sc : xsc} {pc : Nat} {lv : Nat → Option Value} {st : List Value} {μ : xM} {Q : Option Value → xM → Prop} {a idx : Nat} {host : String} (d : decode k.2.1 pc = .ok (.invokespecial idx, 3)) (hk : k'.2.2.2.1 = none ∧ k'.1.name = "<init>") (hv : xvok k') (w1 : (k.1.cls, idx, k'.1, host) ∈ xnest) (w2 : Cond.instanceMethod k'.1 ∈ xtbl) (hr : xrmok k k') (hn : (parseMethodDescriptor k'.1.desc).map (fun d => d.parameters.length) = some 0) (hst : xcats st ≤ 8) (hm : Mt k' [.ref a] μ (fun r μ' => r = none ∧ X k sc (pc + 3) lv st μ' Q)) : X k sc pc lv (.ref a :: st) μ Q :=
  X.callIN (as := []) d hk hv w1 w2 hr hn hst (hm.mono (fun r μ' h9 => by obtain ⟨e, h⟩ := h9; subst e; exact h))
theorem X.cIN1v {k k' : xk} {sc : xsc} {pc : Nat} {lv : Nat → Option Value} {st : List Value} {μ : xM} {Q : Option Value → xM → Prop} {a idx : Nat} {host : String} {x1 : Value} (d : decode k.2.1 pc = .ok (.invokespecial idx, 3)) (hk : k'.2.2.2.1 = none ∧ k'.1.name = "<init>") (hv : xvok k') (w1 : (k.1.cls, idx, k'.1, host) ∈ xnest) (w2 : Cond.instanceMethod k'.1 ∈ xtbl) (hr : xrmok k k') (hn : (parseMethodDescriptor k'.1.desc).map (fun d => d.parameters.length) = some 1) (hst : xcats st ≤ 8) (hm : Mt k' [.ref a, x1] μ (fun r μ' => r = none ∧ X k sc (pc + 3) lv st μ' Q)) : X k sc pc lv (x1 :: .ref a :: st) μ Q :=
  X.callIN (as := [x1]) d hk hv w1 w2 hr hn hst (hm.mono (fun r μ' h9 => by obtain ⟨e, h⟩ := h9; subst e; exact h))
theorem X.cIN2v {k k' : xk} {sc : xsc} {pc : Nat} {lv : Nat → Option Value} {st : List Value} {μ : xM} {Q : Option Value → xM → Prop} {a idx : Nat} {host : String} {x1 x2 : Value} (d : decode k.2.1 pc = .ok (.invokespecial idx, 3)) (hk : k'.2.2.2.1 = none ∧ k'.1.name = "<init>") (hv : xvok k') (w1 : (k.1.cls, idx, k'.1, host) ∈ xnest) (w2 : Cond.instanceMethod k'.1 ∈ xtbl) (hr : xrmok k k') (hn : (parseMethodDescriptor k'.1.desc).map (fun d => d.parameters.length) = some 2) (hst : xcats st ≤ 8) (hm : Mt k' [.ref a, x1, x2] μ (fun r μ' => r = none ∧ X k sc (pc + 3) lv st μ' Q)) : X k sc pc lv (x2 :: x1 :: .ref a :: st) μ Q :=
  X.callIN (as := [x1, x2]) d hk hv w1 w2 hr hn hst (hm.mono (fun r μ' h9 => by obtain ⟨e, h⟩ := h9; subst e; exact h))
theorem X.cIN3v {k k' : xk} {sc : xsc} {pc : Nat} {lv : Nat → Option Value} {st : List Value} {μ : xM} {Q : Option Value → xM → Prop} {a idx : Nat} {host : String} {x1 x2 x3 : Value} (d : decode k.2.1 pc = .ok (.invokespecial idx, 3)) (hk : k'.2.2.2.1 = none ∧ k'.1.name = "<init>") (hv : xvok k') (w1 : (k.1.cls, idx, k'.1, host) ∈ xnest) (w2 : Cond.instanceMethod k'.1 ∈ xtbl) (hr : xrmok k k') (hn : (parseMethodDescriptor k'.1.desc).map (fun d => d.parameters.length) = some 3) (hst : xcats st ≤ 8) (hm : Mt k' [.ref a, x1, x2, x3] μ (fun r μ' => r = none ∧ X k sc (pc + 3) lv st μ' Q)) : X k sc pc lv (x3 :: x2 :: x1 :: .ref a :: st) μ Q :=
  X.callIN (as := [x1, x2, x3]) d hk hv w1 w2 hr hn hst (hm.mono (fun r μ' h9 => by obtain ⟨e, h⟩ := h9; subst e; exact h))
theorem X.cIN4v {k k' : xk} {sc : xsc} {pc : Nat} {lv : Nat → Option Value} {st : List Value} {μ : xM} {Q : Option Value → xM → Prop} {a idx : Nat} {host : String} {x1 x2 x3 x4 : Value} (d : decode k.2.1 pc = .ok (.invokespecial idx, 3)) (hk : k'.2.2.2.1 = none ∧ k'.1.name = "<init>") (hv : xvok k') (w1 : (k.1.cls, idx, k'.1, host) ∈ xnest) (w2 : Cond.instanceMethod k'.1 ∈ xtbl) (hr : xrmok k k') (hn : (parseMethodDescriptor k'.1.desc).map (fun d => d.parameters.length) = some 4) (hst : xcats st ≤ 8) (hm : Mt k' [.ref a, x1, x2, x3, x4] μ (fun r μ' => r = none ∧ X k sc (pc + 3) lv st μ' Q)) : X k sc pc lv (x4 :: x3 :: x2 :: x1 :: .ref a :: st) μ Q :=
  X.callIN (as := [x1, x2, x3, x4]) d hk hv w1 w2 hr hn hst (hm.mono (fun r μ' h9 => by obtain ⟨e, h⟩ := h9; subst e; exact h))
theorem X.cIN5v {k k' : xk} {sc : xsc} {pc : Nat} {lv : Nat → Option Value} {st : List Value} {μ : xM} {Q : Option Value → xM → Prop} {a idx : Nat} {host : String} {x1 x2 x3 x4 x5 : Value} (d : decode k.2.1 pc = .ok (.invokespecial idx, 3)) (hk : k'.2.2.2.1 = none ∧ k'.1.name = "<init>") (hv : xvok k') (w1 : (k.1.cls, idx, k'.1, host) ∈ xnest) (w2 : Cond.instanceMethod k'.1 ∈ xtbl) (hr : xrmok k k') (hn : (parseMethodDescriptor k'.1.desc).map (fun d => d.parameters.length) = some 5) (hst : xcats st ≤ 8) (hm : Mt k' [.ref a, x1, x2, x3, x4, x5] μ (fun r μ' => r = none ∧ X k sc (pc + 3) lv st μ' Q)) : X k sc pc lv (x5 :: x4 :: x3 :: x2 :: x1 :: .ref a :: st) μ Q :=
  X.callIN (as := [x1, x2, x3, x4, x5]) d hk hv w1 w2 hr hn hst (hm.mono (fun r μ' h9 => by obtain ⟨e, h⟩ := h9; subst e; exact h))
theorem X.iinc1 {k : xk} {sc : xsc} {pc : Nat} {lv : Nat → Option Value} {st : List Value} {μ : xM} {Q : Option Value → xM → Prop} {i : Nat} {x : Int32} (d : decode k.2.1 pc = .ok (.iinc i 1, 3)) (h : lv i = some (.int x)) (hn : i < k.2.2.1) (kk : X k sc (pc + 3) (up1 i (.int (x + 1)) lv) st μ Q) : X k sc pc lv st μ Q := X.iinc d h rfl hn kk
end
section
/-! ranges; the reference's own cells -/
def rng (c : Int32) (n : Nat) : Option Nat := if 0 ≤ c.toInt ∧ c.toInt < n then some c.toInt.toNat else none
theorem rng_some {c : Int32} {n i : Nat} (h : rng c n = some i) : c = nI i ∧ i < n := by
  unfold rng at h
  by_cases q : 0 ≤ c.toInt ∧ c.toInt < n
  · rw [if_pos q] at h
    have hi : c.toInt.toNat = i := Option.some.inj h
    have hlt := Int32.toInt_lt c
    have e : c.toInt = i := by omega
    refine ⟨Int32.toInt_inj.mp ?_, by omega⟩
    rw [nI_toInt (by omega)]
    exact e
  · rw [if_neg q] at h; cases h
theorem rng_none {c : Int32} {n : Nat} (h : rng c n = none) : ¬ (0 ≤ c.toInt ∧ c.toInt < n) := by
  unfold rng at h
  by_cases q : 0 ≤ c.toInt ∧ c.toInt < n
  · rw [if_pos q] at h; cases h
  · exact q
theorem rng_nI {n i : Nat} (h : i < n) (hn : n < 2 ^ 31) : rng (nI i) n = some i := by
  unfold rng
  rw [nI_toInt (by omega), if_pos (by omega)]
  rfl
theorem rng_out {n i : Nat} (h : n ≤ i) (hn : i < 2 ^ 31) : rng (nI i) n = none := by
  unfold rng
  rw [nI_toInt (by omega), if_neg (by omega)]
theorem rng_lt {c : Int32} {n i : Nat} (h : rng c n = some i) : i < n := (rng_some h).2
theorem i0 : (0 : Int32).toInt = 0 := by decide
theorem nI_m1 {n : Nat} (hn : n < 2 ^ 30) : (nI n - 1).toInt = (n : Int) - 1 := by
  have := pk_sub_toInt (a := n) (b := 1) hn (by decide)
  exact this
theorem rng_in {c hi : Int32} {n i : Nat} (h : rng c n = some i) (hn : n < 2 ^ 30) (e : hi = nI n - 1) : (0 : Int32) ≤ c ∧ c ≤ hi := by
  obtain ⟨rfl, hi⟩ := rng_some h
  subst e
  rw [Int32.le_iff_toInt_le, Int32.le_iff_toInt_le, nI_m1 hn, nI_toInt (by omega), i0]
  omega
theorem rng_no {c hi : Int32} {n : Nat} (h : rng c n = none) (hn : n < 2 ^ 30) (e : hi = nI n - 1) : ¬ ((0 : Int32) ≤ c ∧ c ≤ hi) := by
  have := rng_none h
  subst e
  rw [Int32.le_iff_toInt_le, Int32.le_iff_toInt_le, nI_m1 hn, i0]
  omega
/-! sets that set nothing -/
theorem up2_self {α : Type} (f : Nat → Nat → α) (a k : Nat) : up2 f a k (f a k) = f := by
  funext b j
  unfold up2
  by_cases h : b = a ∧ j = k
  · rw [if_pos h, h.1, h.2]
  · rw [if_neg h]
theorem sI_self (μ : xM) (a k : Nat) : sI μ a k (mI μ a k) = μ := by
  unfold sI
  rw [up2_self]
  rfl
theorem sJ_self (μ : xM) (a k : Nat) : sJ μ a k (mJ μ a k) = μ := by
  unfold sJ
  rw [up2_self]
  rfl
/-! the reference: its object is 44, its arrays 45 .. 65 -/
def shp : Nat → Nat × Nat := fun a => match a with
  | 44 => (5, 0)
  | 45 => (6, 560)
  | 46 => (6, 560)
  | 47 => (8, 560)
  | 48 => (7, 17920)
  | 49 => (8, 201)
  | 50 => (6, 16)
  | 51 => (6, 16)
  | 52 => (6, 16)
  | 53 => (8, 16)
  | 54 => (6, 24)
  | 55 => (6, 24)
  | 56 => (6, 24)
  | 57 => (8, 24)
  | 58 => (6, 24)
  | 59 => (6, 24)
  | 60 => (6, 24)
  | 61 => (6, 24)
  | 62 => (6, 20)
  | 63 => (6, 20)
  | 64 => (6, 20)
  | _ => (6, 6)
def mfld : Nat → Option Nat := fun k => match k with
  | 0 => some 45
  | 1 => some 46
  | 2 => some 47
  | 3 => some 48
  | 5 => some 49
  | 6 => some 50
  | 7 => some 51
  | 8 => some 52
  | 9 => some 53
  | 11 => some 54
  | 12 => some 55
  | 13 => some 56
  | 14 => some 57
  | 15 => some 58
  | 16 => some 59
  | 17 => some 60
  | 18 => some 61
  | 21 => some 62
  | 22 => some 63
  | 23 => some 64
  | 24 => some 65
  | _ => none
def ShM (μ : xM) : Prop := (∀ a, 44 ≤ a → a < 66 → mT μ a = shp a) ∧ ∀ k, k < 26 → mR μ 44 k = mfld k
end
section
/-! the reference's small methods (laid by wip/whole/mkmodel1.py) -/
set_option maxRecDepth 100000 in
set_option maxHeartbeats 4000000 in
theorem m_isIn_t {v lo hi : Int32} {μ : xM} {Q : Option Value → xM → Prop} (h : lo ≤ v ∧ v ≤ hi) (hq : Q (some (.int 1)) μ) : Mt kX5_isIn [.int v, .int lo, .int hi] μ Q := by
  refine Mt.enter rfl (Nat.le_of_ble_eq_true rfl) ?_
  refine X.iload_n dX5_isIn_0 rfl ?_
  refine X.iload_n dX5_isIn_1 rfl ?_
  refine X.icmp_lt_f (tgt := 14) dX5_isIn_2 (by decide) (Int32.not_lt.mpr h.1) ?_
  refine X.iload_n dX5_isIn_5 rfl ?_
  refine X.iload_n dX5_isIn_6 rfl ?_
  refine X.icmp_gt_f (tgt := 14) dX5_isIn_7 (by decide) (Int32.not_lt.mpr h.2) ?_
  refine X.iconst (v := 1) dX5_isIn_10 (by decide) ?_
  refine X.goto (tgt := 15) dX5_isIn_11 (by decide) ?_
  refine X.ret dX5_isIn_15 ⟨(by first | exact Or.inl rfl | exact Or.inr rfl), ?_⟩
  exact hq
set_option maxRecDepth 100000 in
set_option maxHeartbeats 4000000 in
theorem m_isIn_f {v lo hi : Int32} {μ : xM} {Q : Option Value → xM → Prop} (h : ¬ (lo ≤ v ∧ v ≤ hi)) (hq : Q (some (.int 0)) μ) : Mt kX5_isIn [.int v, .int lo, .int hi] μ Q := by
  refine Mt.enter rfl (Nat.le_of_ble_eq_true rfl) ?_
  refine X.iload_n dX5_isIn_0 rfl ?_
  refine X.iload_n dX5_isIn_1 rfl ?_
  refine X.icmp_lt (tgt := 14) dX5_isIn_2 (by decide) (fun c2 => ?_) (fun c2 => ?_)
  · refine X.iconst (v := 0) dX5_isIn_14 (by decide) ?_
    refine X.ret dX5_isIn_15 ⟨(by first | exact Or.inl rfl | exact Or.inr rfl), ?_⟩
    exact hq
  · refine X.iload_n dX5_isIn_5 rfl ?_
    refine X.iload_n dX5_isIn_6 rfl ?_
    refine X.icmp_gt (tgt := 14) dX5_isIn_7 (by decide) (fun c7 => ?_) (fun c7 => ?_)
    · refine X.iconst (v := 0) dX5_isIn_14 (by decide) ?_
      refine X.ret dX5_isIn_15 ⟨(by first | exact Or.inl rfl | exact Or.inr rfl), ?_⟩
      exact hq
    · exact absurd ⟨Int32.not_lt.mp c2, Int32.not_lt.mp c7⟩ h
set_option maxRecDepth 100000 in
set_option maxHeartbeats 4000000 in
theorem m_isChannel_t {c : Int32} {i : Nat} {μ : xM} {Q : Option Value → xM → Prop} (h : rng c 16 = some i) (hq : Q (some (.int 1)) μ) : Mt kX5_isChannel [.int c] μ Q := by
  refine Mt.enter rfl (Nat.le_of_ble_eq_true rfl) ?_
  refine X.iload_n dX5_isChannel_0 rfl ?_
  refine X.iconst (v := 0) dX5_isChannel_1 (by decide) ?_
  refine X.bipush (v := 15) dX5_isChannel_2 (by decide) ?_
  refine X.cS3i (k' := kX5_isIn) dX5_isChannel_4 v_X5_isIn wm_X5_75 wt_X5_isIn ⟨Nat.le_of_ble_eq_true rfl, Nat.le_of_ble_eq_true rfl⟩ n_X5_isIn (Nat.le_of_ble_eq_true rfl) ?_
  refine m_isIn_t (rng_in h (by decide) rfl) ?_
  refine ⟨_, rfl, ?_⟩
  refine X.ret dX5_isChannel_7 ⟨(by first | exact Or.inl rfl | exact Or.inr rfl), ?_⟩
  exact hq
set_option maxRecDepth 100000 in
set_option maxHeartbeats 4000000 in
theorem m_isChannel_f {c : Int32} {μ : xM} {Q : Option Value → xM → Prop} (h : rng c 16 = none) (hq : Q (some (.int 0)) μ) : Mt kX5_isChannel [.int c] μ Q := by
  refine Mt.enter rfl (Nat.le_of_ble_eq_true rfl) ?_
  refine X.iload_n dX5_isChannel_0 rfl ?_
  refine X.iconst (v := 0) dX5_isChannel_1 (by decide) ?_
  refine X.bipush (v := 15) dX5_isChannel_2 (by decide) ?_
  refine X.cS3i (k' := kX5_isIn) dX5_isChannel_4 v_X5_isIn wm_X5_75 wt_X5_isIn ⟨Nat.le_of_ble_eq_true rfl, Nat.le_of_ble_eq_true rfl⟩ n_X5_isIn (Nat.le_of_ble_eq_true rfl) ?_
  refine m_isIn_f (rng_no h (by decide) rfl) ?_
  refine ⟨_, rfl, ?_⟩
  refine X.ret dX5_isChannel_7 ⟨(by first | exact Or.inl rfl | exact Or.inr rfl), ?_⟩
  exact hq
/-- a refusal is noted: why() and the counts -/
def metM (μ : xM) (r : Nat) : xM := sI (sI μ 44 25 (nI r)) 65 r (if r = 0 then mI μ 65 0 else mI μ 65 r + 1)
def sortM (μ : xM) (c : Nat) : Int32 := if mI μ 50 c = -1 then 0 else if mI μ 50 c = -2 then 2 else 1
def noTapeM (μ : xM) (c : Nat) : Nat := if mI μ 50 c = -1 then 1 else if mI μ 50 c = -2 then 2 else 0
theorem metM_0 (μ : xM) : metM μ 0 = sI μ 44 25 (nI 0) := by
  unfold metM
  rw [if_pos rfl]
  exact sI_self (sI μ 44 25 (nI 0)) 65 0
theorem metM_pos (μ : xM) {r : Nat} (h : r ≠ 0) : metM μ r = sI (sI μ 44 25 (nI r)) 65 r (mI (sI μ 44 25 (nI r)) 65 r + 1) := by
  unfold metM
  rw [if_neg h]
  rfl
theorem nI_le0 {r : Nat} (h : nI r ≤ 0) (hr : r < 2 ^ 31) : r = 0 := by
  rcases Nat.eq_zero_or_pos r with e | e
  · exact e
  · exact absurd h (nI_nle e hr)
theorem ShM.met {μ : xM} (h : ShM μ) (r : Nat) : ShM (metM μ r) := h
theorem noTapeM_le (μ : xM) (c : Nat) : noTapeM μ c ≤ 2 := by unfold noTapeM; split <;> (try split) <;> omega
set_option maxRecDepth 100000 in
set_option maxHeartbeats 4000000 in
theorem m_isCable_t {c : Int32} {i q : Nat} {μ : xM} {Q : Option Value → xM → Prop} (hM : ShM μ) (hc : mI μ 44 10 = nI q) (hlt : q ≤ 24) (h : rng c q = some i) (hq : Q (some (.int 1)) μ) : Mt kX5_isCable [.ref 44, .int c] μ Q := by
  refine Mt.enter rfl (Nat.le_of_ble_eq_true rfl) ?_
  refine X.iload_n dX5_isCable_0 rfl ?_
  refine X.iconst (v := 0) dX5_isCable_1 (by decide) ?_
  refine X.aload_n dX5_isCable_2 rfl ?_
  refine X.getI (kf := 10) dX5_isCable_3 (hM.1 44 (by decide) (by decide)) (by decide) (by decide) rfl wf_X5_79 ?_
  refine X.iconst (v := 1) dX5_isCable_6 (by decide) ?_
  refine X.isub dX5_isCable_7 ?_
  refine X.cS3i (k' := kX5_isIn) dX5_isCable_8 v_X5_isIn wm_X5_75 wt_X5_isIn ⟨Nat.le_of_ble_eq_true rfl, Nat.le_of_ble_eq_true rfl⟩ n_X5_isIn (Nat.le_of_ble_eq_true rfl) ?_
  refine m_isIn_t (rng_in h (by omega) (by rw [hc])) ?_
  refine ⟨_, rfl, ?_⟩
  refine X.ret dX5_isCable_11 ⟨(by first | exact Or.inl rfl | exact Or.inr rfl), ?_⟩
  exact hq
set_option maxRecDepth 100000 in
set_option maxHeartbeats 4000000 in
theorem m_isCable_f {c : Int32} {q : Nat} {μ : xM} {Q : Option Value → xM → Prop} (hM : ShM μ) (hc : mI μ 44 10 = nI q) (hlt : q ≤ 24) (h : rng c q = none) (hq : Q (some (.int 0)) μ) : Mt kX5_isCable [.ref 44, .int c] μ Q := by
  refine Mt.enter rfl (Nat.le_of_ble_eq_true rfl) ?_
  refine X.iload_n dX5_isCable_0 rfl ?_
  refine X.iconst (v := 0) dX5_isCable_1 (by decide) ?_
  refine X.aload_n dX5_isCable_2 rfl ?_
  refine X.getI (kf := 10) dX5_isCable_3 (hM.1 44 (by decide) (by decide)) (by decide) (by decide) rfl wf_X5_79 ?_
  refine X.iconst (v := 1) dX5_isCable_6 (by decide) ?_
  refine X.isub dX5_isCable_7 ?_
  refine X.cS3i (k' := kX5_isIn) dX5_isCable_8 v_X5_isIn wm_X5_75 wt_X5_isIn ⟨Nat.le_of_ble_eq_true rfl, Nat.le_of_ble_eq_true rfl⟩ n_X5_isIn (Nat.le_of_ble_eq_true rfl) ?_
  refine m_isIn_f (rng_no h (by omega) (by rw [hc])) ?_
  refine ⟨_, rfl, ?_⟩
  refine X.ret dX5_isCable_11 ⟨(by first | exact Or.inl rfl | exact Or.inr rfl), ?_⟩
  exact hq
set_option maxRecDepth 100000 in
set_option maxHeartbeats 4000000 in
theorem m_met {r : Nat} {μ : xM} {Q : Option Value → xM → Prop} (hM : ShM μ) (hr : r < 6) (hq : Q (some (.int (nI r))) (metM μ r)) : Mt kX5_met [.ref 44, .int (nI r)] μ Q := by
  refine Mt.enter rfl (Nat.le_of_ble_eq_true rfl) ?_
  refine X.aload_n dX5_met_0 rfl ?_
  refine X.iload_n dX5_met_1 rfl ?_
  refine X.putI (kf := 25) dX5_met_2 (hM.1 44 (by decide) (by decide)) (by decide) (by decide) rfl (Or.inl rfl) ⟨rfl, rfl⟩ wf_X5_83 ?_
  refine X.iload_n dX5_met_5 rfl ?_
  refine X.if_le (tgt := 19) dX5_met_6 (by decide) (fun c6 => ?_) (fun c6 => ?_)
  · refine X.iload_n dX5_met_19 rfl ?_
    refine X.ret dX5_met_20 ⟨trivial, ?_⟩
    first
      | (have e := nI_le0 c6 (by omega); subst e; rw [metM_0] at hq; exact hq)
      | (rw [metM_pos μ (fun e => c6 (by rw [e]; decide))] at hq; exact hq)
  · refine X.aload_n dX5_met_9 rfl ?_
    refine X.getR (b := 65) (kf := 24) dX5_met_10 (hM.1 44 (by decide) (by decide)) (by decide) (by decide) rfl wf_X5_72 (hM.2 24 (by decide)) ?_
    refine X.iload_n dX5_met_13 rfl ?_
    refine X.dup2 dX5_met_14 ?_
    refine X.iald dX5_met_15 (hM.1 65 (by decide) (by decide)) (rfl) (hr) (by decide) ?_
    refine X.iconst (v := 1) dX5_met_16 (by decide) ?_
    refine X.iadd dX5_met_17 ?_
    refine X.iast dX5_met_18 (hM.1 65 (by decide) (by decide)) (rfl) (hr) (by decide) ?_
    refine X.iload_n dX5_met_19 rfl ?_
    refine X.ret dX5_met_20 ⟨trivial, ?_⟩
    first
      | (have e := nI_le0 c6 (by omega); subst e; rw [metM_0] at hq; exact hq)
      | (rw [metM_pos μ (fun e => c6 (by rw [e]; decide))] at hq; exact hq)
set_option maxRecDepth 100000 in
set_option maxHeartbeats 4000000 in
theorem m_sort {c : Nat} {μ : xM} {Q : Option Value → xM → Prop} (hM : ShM μ) (hc : c < 16) (hq : Q (some (.int (sortM μ c))) μ) : Mt kX5_sort [.ref 44, .int (nI c)] μ Q := by
  refine Mt.enter rfl (Nat.le_of_ble_eq_true rfl) ?_
  refine X.aload_n dX5_sort_0 rfl ?_
  refine X.getR (b := 50) (kf := 6) dX5_sort_1 (hM.1 44 (by decide) (by decide)) (by decide) (by decide) rfl wf_X5_27 (hM.2 6 (by decide)) ?_
  refine X.iload_n dX5_sort_4 rfl ?_
  refine X.iald dX5_sort_5 (hM.1 50 (by decide) (by decide)) (rfl) (hc) (by decide) ?_
  refine X.iconst (v := -1) dX5_sort_6 (by decide) ?_
  refine X.icmp_ne (tgt := 14) dX5_sort_7 (by decide) (fun c7 => ?_) (fun c7 => ?_)
  · refine X.aload_n dX5_sort_14 rfl ?_
    refine X.getR (b := 50) (kf := 6) dX5_sort_15 (hM.1 44 (by decide) (by decide)) (by decide) (by decide) rfl wf_X5_27 (hM.2 6 (by decide)) ?_
    refine X.iload_n dX5_sort_18 rfl ?_
    refine X.iald dX5_sort_19 (hM.1 50 (by decide) (by decide)) (rfl) (hc) (by decide) ?_
    refine X.bipush (v := -2) dX5_sort_20 (by decide) ?_
    refine X.icmp_ne (tgt := 29) dX5_sort_22 (by decide) (fun c22 => ?_) (fun c22 => ?_)
    · refine X.iconst (v := 1) dX5_sort_29 (by decide) ?_
      refine X.ret dX5_sort_30 ⟨trivial, ?_⟩
      unfold sortM at hq; simp only [*, ↓reduceIte] at hq; exact hq
    · refine X.iconst (v := 2) dX5_sort_25 (by decide) ?_
      refine X.goto (tgt := 30) dX5_sort_26 (by decide) ?_
      refine X.ret dX5_sort_30 ⟨trivial, ?_⟩
      unfold sortM at hq; simp only [*, ↓reduceIte] at hq; exact hq
  · refine X.iconst (v := 0) dX5_sort_10 (by decide) ?_
    refine X.goto (tgt := 30) dX5_sort_11 (by decide) ?_
    refine X.ret dX5_sort_30 ⟨trivial, ?_⟩
    unfold sortM at hq; simp only [*, ↓reduceIte] at hq; exact hq
set_option maxRecDepth 100000 in
set_option maxHeartbeats 4000000 in
theorem m_noTape {c : Nat} {μ : xM} {Q : Option Value → xM → Prop} (hM : ShM μ) (hc : c < 16) (hq : Q (some (.int (nI (noTapeM μ c)))) μ) : Mt kX5_noTape [.ref 44, .int (nI c)] μ Q := by
  refine Mt.enter rfl (Nat.le_of_ble_eq_true rfl) ?_
  refine X.aload_n dX5_noTape_0 rfl ?_
  refine X.getR (b := 50) (kf := 6) dX5_noTape_1 (hM.1 44 (by decide) (by decide)) (by decide) (by decide) rfl wf_X5_27 (hM.2 6 (by decide)) ?_
  refine X.iload_n dX5_noTape_4 rfl ?_
  refine X.iald dX5_noTape_5 (hM.1 50 (by decide) (by decide)) (rfl) (hc) (by decide) ?_
  refine X.iconst (v := -1) dX5_noTape_6 (by decide) ?_
  refine X.icmp_ne (tgt := 14) dX5_noTape_7 (by decide) (fun c7 => ?_) (fun c7 => ?_)
  · refine X.aload_n dX5_noTape_14 rfl ?_
    refine X.getR (b := 50) (kf := 6) dX5_noTape_15 (hM.1 44 (by decide) (by decide)) (by decide) (by decide) rfl wf_X5_27 (hM.2 6 (by decide)) ?_
    refine X.iload_n dX5_noTape_18 rfl ?_
    refine X.iald dX5_noTape_19 (hM.1 50 (by decide) (by decide)) (rfl) (hc) (by decide) ?_
    refine X.bipush (v := -2) dX5_noTape_20 (by decide) ?_
    refine X.icmp_ne (tgt := 29) dX5_noTape_22 (by decide) (fun c22 => ?_) (fun c22 => ?_)
    · refine X.iconst (v := 0) dX5_noTape_29 (by decide) ?_
      refine X.ret dX5_noTape_30 ⟨trivial, ?_⟩
      unfold noTapeM at hq; simp only [*, ↓reduceIte] at hq; exact hq
    · refine X.iconst (v := 2) dX5_noTape_25 (by decide) ?_
      refine X.goto (tgt := 30) dX5_noTape_26 (by decide) ?_
      refine X.ret dX5_noTape_30 ⟨trivial, ?_⟩
      unfold noTapeM at hq; simp only [*, ↓reduceIte] at hq; exact hq
  · refine X.iconst (v := 1) dX5_noTape_10 (by decide) ?_
    refine X.goto (tgt := 30) dX5_noTape_11 (by decide) ?_
    refine X.ret dX5_noTape_30 ⟨trivial, ?_⟩
    unfold noTapeM at hq; simp only [*, ↓reduceIte] at hq; exact hq
end
section
/-! the reference: tapes and cells (laid by wip/whole/mkmodel2.py) -/
def kd (μ : xM) (t : Nat) : Nat := (mI μ 45 t).toNatClampNeg
def sz (μ : xM) (t : Nat) : Nat := (mI μ 46 t).toNatClampNeg
def tp (μ : xM) (c : Nat) : Nat := (mI μ 50 c).toNatClampNeg
def cv (μ : xM) (t j : Nat) : Int64 := mJ μ 48 (32 * t + j)
def ix (i : Int32) : Nat := i.toInt.toNat
def lx (v : Int64) : Nat := v.toInt.toNat
def qM (μ : xM) : Nat := (mI μ 44 10).toNatClampNeg
def gM (μ : xM) : Nat := (mI μ 44 4).toNatClampNeg
def fM (μ : xM) : Nat := (mI μ 44 20).toNatClampNeg
/-- channels and tapes of the reference stand well -/
def WFt (μ : xM) : Prop := (∀ c, c < 16 → noTapeM μ c = 0 → tp μ c < 560 ∧ mI μ 50 c = nI (tp μ c)) ∧
  (∀ t, t < 560 → (mI μ 45 t = nI (kd μ t) ∧ kd μ t ≤ 10) ∧ mI μ 46 t = nI (sz μ t) ∧ sz μ t ≤ 32) ∧
  ∀ t, t < 560 → 8 ≤ kd μ t → ∀ j, j < sz μ t → cv μ t j = lN (lx (cv μ t j)) ∧ lx (cv μ t j) ≤ 560 ∧ (kd μ t < 10 → lx (cv μ t j) ≤ 200)
def noPlaceM (μ : xM) (c : Nat) (i : Int32) : Nat := if noTapeM μ c = 0 then (match rng i (sz μ (tp μ c)) with
  | none => 3
  | some _ => 0) else noTapeM μ c
def cellKindM (μ : xM) (t j : Nat) : Nat := if kd μ t < 8 then kd μ t else if cv μ t j = 0 then 11 else if kd μ t = 10 then 10 else if mI μ 49 (lx (cv μ t j)) = 0 then 8 else 9
def numM (μ : xM) (t j : Nat) : Int64 := if kd μ t = 10 then (if 0 < cv μ t j then (mI μ 46 (lx (cv μ t j) - 1)).toInt64 else cv μ t j) else cv μ t j
def takesM (k o : Nat) : Bool := if 7 < k then (o == 11 || o == k || (k == 8 && o == 9)) else if k = o then true else if k = 2 then o == 1 else (decide (3 < k) && decide (0 < o) && decide (o < k))
def noTakeM (k o : Nat) : Nat := if takesM k o then 0 else 2
def fitM (k : Nat) (v : Int64) : Int64 := match k with
  | 0 => if v = 0 then 0 else 1
  | 1 => v.toInt32.toInt8.toInt32.toInt64
  | 2 => v.toInt32.toInt16.toInt32.toInt64
  | 3 => v &&& 65535
  | 4 => v.toInt32.toInt64
  | 5 => v
  | 6 => FP.f2l (FP.l2f v)
  | 7 => FP.d2l (FP.l2d v)
  | _ => v
def noWriteM (μ : xM) (c : Nat) (i : Int32) (K : Nat) : Nat := if noTapeM μ c = 0 then (if kd μ (tp μ c) < 8 ∧ K = 11 then 2 else if noPlaceM μ c i = 0 then noTakeM (kd μ (tp μ c)) K else noPlaceM μ c i) else noTapeM μ c
def writesM (μ : xM) (c : Nat) (i : Int32) (K : Nat) (v : Int64) : xM := if noWriteM μ c i K = 0 then sJ μ 48 (32 * tp μ c + ix i) (fitM (kd μ (tp μ c)) v) else μ
theorem nI_32 : (32 : Int32) = nI 32 := rfl
theorem at_eq {μ : xM} {c j : Nat} (e : mI μ 50 c = nI (tp μ c)) : 32 * mI μ 50 c + nI j = nI (32 * tp μ c + j) := by rw [e, nI_32, pk_mul, nI_add]
theorem at_eq2 (t j : Nat) : 32 * nI t + nI j = nI (32 * t + j) := by rw [nI_32, pk_mul, nI_add]
theorem ix_nI {j : Nat} (h : j < 2 ^ 31) : ix (nI j) = j := by
  unfold ix
  rw [nI_toInt h]
  rfl
theorem noPlace_le (μ : xM) (c : Nat) (i : Int32) : noPlaceM μ c i < 6 := by
  unfold noPlaceM
  have := noTapeM_le μ c
  split
  · split <;> omega
  · omega
theorem noPlace_0 {μ : xM} {c : Nat} {i : Int32} (h : noPlaceM μ c i = 0) : noTapeM μ c = 0 ∧ rng i (sz μ (tp μ c)) = some (ix i) ∧ i = nI (ix i) ∧ ix i < sz μ (tp μ c) := by
  unfold noPlaceM at h
  by_cases h0 : noTapeM μ c = 0
  · rw [if_pos h0] at h
    cases hr : rng i (sz μ (tp μ c)) with
    | none => rw [hr] at h; cases h
    | some j =>
      obtain ⟨rfl, hj⟩ := rng_some hr
      have hz : sz μ (tp μ c) < 2 ^ 31 ∨ 2 ^ 31 ≤ sz μ (tp μ c) := by omega
      unfold rng at hr
      by_cases hq : 0 ≤ (nI j).toInt ∧ (nI j).toInt < sz μ (tp μ c)
      · rw [if_pos hq] at hr
        have e : ix (nI j) = j := Option.some.inj hr
        rw [e]
        exact ⟨h0, rfl, rfl, hj⟩
      · rw [if_neg hq] at hr; cases hr
  · rw [if_neg h0] at h
    exact absurd h h0
theorem noTake_le (k o : Nat) : noTakeM k o < 6 := by unfold noTakeM; split <;> omega
theorem noWrite_le (μ : xM) (c : Nat) (i : Int32) (K : Nat) : noWriteM μ c i K < 6 := by
  unfold noWriteM
  have h1 := noTapeM_le μ c
  have h2 := noPlace_le μ c i
  have h3 := noTake_le (kd μ (tp μ c)) K
  split
  · split
    · omega
    · split <;> omega
  · omega
theorem nI_gt0 {r : Nat} (h : ¬ nI r ≤ 0) : r ≠ 0 := fun e => h (by rw [e]; decide)
set_option maxRecDepth 100000 in
set_option maxHeartbeats 4000000 in
theorem m_kindOf {c : Nat} {μ : xM} {Q : Option Value → xM → Prop} (hM : ShM μ) (hw : WFt μ) (hc : c < 16) (h0 : noTapeM μ c = 0) (hq : Q (some (.int (nI (kd μ (tp μ c))))) μ) : Mt kX5_kindOf [.ref 44, .int (nI c)] μ Q := by
  obtain ⟨ht, et⟩ := hw.1 c hc h0
  obtain ⟨⟨ek, lk⟩, es, ls⟩ := hw.2.1 _ ht
  refine Mt.enter rfl (Nat.le_of_ble_eq_true rfl) ?_
  refine X.aload_n dX5_kindOf_0 rfl ?_
  refine X.getR (b := 45) (kf := 0) dX5_kindOf_1 (hM.1 44 (by decide) (by decide)) (by decide) (by decide) rfl wf_X5_7 (hM.2 0 (by decide)) ?_
  refine X.aload_n dX5_kindOf_4 rfl ?_
  refine X.getR (b := 50) (kf := 6) dX5_kindOf_5 (hM.1 44 (by decide) (by decide)) (by decide) (by decide) rfl wf_X5_27 (hM.2 6 (by decide)) ?_
  refine X.iload_n dX5_kindOf_8 rfl ?_
  refine X.iald dX5_kindOf_9 (hM.1 50 (by decide) (by decide)) (rfl) (hc) (by decide) ?_
  refine X.iald dX5_kindOf_10 (hM.1 45 (by decide) (by decide)) (et) (ht) (by decide) ?_
  refine X.ret dX5_kindOf_11 ⟨trivial, ?_⟩
  rw [ek]
  exact hq
set_option maxRecDepth 100000 in
set_option maxHeartbeats 4000000 in
theorem m_at {c j : Nat} {μ : xM} {Q : Option Value → xM → Prop} (hM : ShM μ) (hw : WFt μ) (hc : c < 16) (h0 : noTapeM μ c = 0) (hq : Q (some (.int (nI (32 * tp μ c + j)))) μ) : Mt kX5_at [.ref 44, .int (nI c), .int (nI j)] μ Q := by
  obtain ⟨ht, et⟩ := hw.1 c hc h0
  obtain ⟨⟨ek, lk⟩, es, ls⟩ := hw.2.1 _ ht
  refine Mt.enter rfl (Nat.le_of_ble_eq_true rfl) ?_
  refine X.bipush (v := 32) dX5_at_0 (by decide) ?_
  refine X.aload_n dX5_at_2 rfl ?_
  refine X.getR (b := 50) (kf := 6) dX5_at_3 (hM.1 44 (by decide) (by decide)) (by decide) (by decide) rfl wf_X5_27 (hM.2 6 (by decide)) ?_
  refine X.iload_n dX5_at_6 rfl ?_
  refine X.iald dX5_at_7 (hM.1 50 (by decide) (by decide)) (rfl) (hc) (by decide) ?_
  refine X.imul dX5_at_8 ?_
  refine X.iload_n dX5_at_9 rfl ?_
  refine X.iadd dX5_at_10 ?_
  refine X.ret dX5_at_11 ⟨trivial, ?_⟩
  rw [at_eq et]
  exact hq
set_option maxRecDepth 100000 in
set_option maxHeartbeats 4000000 in
theorem np_out {c : Nat} {i : Int32} {μ : xM} {Q : Option Value → xM → Prop} (hM : ShM μ) (hw : WFt μ) (hc : c < 16) (h0 : noTapeM μ c = 0) (hr : rng i (sz μ (tp μ c)) = none) (hq : Q (some (.int (nI 3))) μ) : Mt kX5_noPlace [.ref 44, .int (nI c), .int i] μ Q := by
  obtain ⟨ht, et⟩ := hw.1 c hc h0
  obtain ⟨⟨ek, lk⟩, es, ls⟩ := hw.2.1 _ ht
  refine Mt.enter rfl (Nat.le_of_ble_eq_true rfl) ?_
  refine X.aload_n dX5_noPlace_0 rfl ?_
  refine X.iload_n dX5_noPlace_1 rfl ?_
  refine X.cV1i (k' := kX5_noTape) dX5_noPlace_2 (hM.1 44 (by decide) (by decide)) ⟨by decide, rfl⟩ v_X5_noTape wm_X5_102 wi_X5_noTape ws_X5_noTape ⟨Nat.le_of_ble_eq_true rfl, Nat.le_of_ble_eq_true rfl⟩ n_X5_noTape (Nat.le_of_ble_eq_true rfl) ?_
  refine m_noTape hM hc ?_
  refine ⟨_, rfl, ?_⟩
  refine X.istore_n dX5_noPlace_5 (Nat.le_of_ble_eq_true rfl) ?_
  refine X.iload_n dX5_noPlace_6 rfl ?_
  refine X.if_le_t (tgt := 14) dX5_noPlace_7 (by decide) ((by rw [h0]; decide)) ?_
  refine X.iload_n dX5_noPlace_14 rfl ?_
  refine X.iconst (v := 0) dX5_noPlace_15 (by decide) ?_
  refine X.aload_n dX5_noPlace_16 rfl ?_
  refine X.getR (b := 46) (kf := 1) dX5_noPlace_17 (hM.1 44 (by decide) (by decide)) (by decide) (by decide) rfl wf_X5_13 (hM.2 1 (by decide)) ?_
  refine X.aload_n dX5_noPlace_20 rfl ?_
  refine X.getR (b := 50) (kf := 6) dX5_noPlace_21 (hM.1 44 (by decide) (by decide)) (by decide) (by decide) rfl wf_X5_27 (hM.2 6 (by decide)) ?_
  refine X.iload_n dX5_noPlace_24 rfl ?_
  refine X.iald dX5_noPlace_25 (hM.1 50 (by decide) (by decide)) (rfl) (hc) (by decide) ?_
  refine X.iald dX5_noPlace_26 (hM.1 46 (by decide) (by decide)) (et) (ht) (by decide) ?_
  refine X.iconst (v := 1) dX5_noPlace_27 (by decide) ?_
  refine X.isub dX5_noPlace_28 ?_
  refine X.cS3i (k' := kX5_isIn) dX5_noPlace_29 v_X5_isIn wm_X5_75 wt_X5_isIn ⟨Nat.le_of_ble_eq_true rfl, Nat.le_of_ble_eq_true rfl⟩ n_X5_isIn (Nat.le_of_ble_eq_true rfl) ?_
  refine m_isIn_f (rng_no hr (by omega) (by rw [es])) ?_
  refine ⟨_, rfl, ?_⟩
  refine X.if_eq_t (tgt := 39) dX5_noPlace_32 (by decide) (by decide) ?_
  refine X.iconst (v := 3) dX5_noPlace_39 (by decide) ?_
  refine X.ret dX5_noPlace_40 ⟨trivial, ?_⟩
  exact hq
set_option maxRecDepth 100000 in
set_option maxHeartbeats 4000000 in
theorem np_in {c j : Nat} {i : Int32} {μ : xM} {Q : Option Value → xM → Prop} (hM : ShM μ) (hw : WFt μ) (hc : c < 16) (h0 : noTapeM μ c = 0) (hr : rng i (sz μ (tp μ c)) = some j) (hq : Q (some (.int (nI 0))) μ) : Mt kX5_noPlace [.ref 44, .int (nI c), .int i] μ Q := by
  obtain ⟨ht, et⟩ := hw.1 c hc h0
  obtain ⟨⟨ek, lk⟩, es, ls⟩ := hw.2.1 _ ht
  refine Mt.enter rfl (Nat.le_of_ble_eq_true rfl) ?_
  refine X.aload_n dX5_noPlace_0 rfl ?_
  refine X.iload_n dX5_noPlace_1 rfl ?_
  refine X.cV1i (k' := kX5_noTape) dX5_noPlace_2 (hM.1 44 (by decide) (by decide)) ⟨by decide, rfl⟩ v_X5_noTape wm_X5_102 wi_X5_noTape ws_X5_noTape ⟨Nat.le_of_ble_eq_true rfl, Nat.le_of_ble_eq_true rfl⟩ n_X5_noTape (Nat.le_of_ble_eq_true rfl) ?_
  refine m_noTape hM hc ?_
  refine ⟨_, rfl, ?_⟩
  refine X.istore_n dX5_noPlace_5 (Nat.le_of_ble_eq_true rfl) ?_
  refine X.iload_n dX5_noPlace_6 rfl ?_
  refine X.if_le_t (tgt := 14) dX5_noPlace_7 (by decide) ((by rw [h0]; decide)) ?_
  refine X.iload_n dX5_noPlace_14 rfl ?_
  refine X.iconst (v := 0) dX5_noPlace_15 (by decide) ?_
  refine X.aload_n dX5_noPlace_16 rfl ?_
  refine X.getR (b := 46) (kf := 1) dX5_noPlace_17 (hM.1 44 (by decide) (by decide)) (by decide) (by decide) rfl wf_X5_13 (hM.2 1 (by decide)) ?_
  refine X.aload_n dX5_noPlace_20 rfl ?_
  refine X.getR (b := 50) (kf := 6) dX5_noPlace_21 (hM.1 44 (by decide) (by decide)) (by decide) (by decide) rfl wf_X5_27 (hM.2 6 (by decide)) ?_
  refine X.iload_n dX5_noPlace_24 rfl ?_
  refine X.iald dX5_noPlace_25 (hM.1 50 (by decide) (by decide)) (rfl) (hc) (by decide) ?_
  refine X.iald dX5_noPlace_26 (hM.1 46 (by decide) (by decide)) (et) (ht) (by decide) ?_
  refine X.iconst (v := 1) dX5_noPlace_27 (by decide) ?_
  refine X.isub dX5_noPlace_28 ?_
  refine X.cS3i (k' := kX5_isIn) dX5_noPlace_29 v_X5_isIn wm_X5_75 wt_X5_isIn ⟨Nat.le_of_ble_eq_true rfl, Nat.le_of_ble_eq_true rfl⟩ n_X5_isIn (Nat.le_of_ble_eq_true rfl) ?_
  refine m_isIn_t (rng_in hr (by omega) (by rw [es])) ?_
  refine ⟨_, rfl, ?_⟩
  refine X.if_eq_f (tgt := 39) dX5_noPlace_32 (by decide) (by decide) ?_
  refine X.iconst (v := 0) dX5_noPlace_35 (by decide) ?_
  refine X.goto (tgt := 40) dX5_noPlace_36 (by decide) ?_
  refine X.ret dX5_noPlace_40 ⟨trivial, ?_⟩
  exact hq
set_option maxRecDepth 100000 in
set_option maxHeartbeats 4000000 in
theorem m_noPlace {c : Nat} {i : Int32} {μ : xM} {Q : Option Value → xM → Prop} (hM : ShM μ) (hw : WFt μ) (hc : c < 16) (hq : Q (some (.int (nI (noPlaceM μ c i)))) μ) : Mt kX5_noPlace [.ref 44, .int (nI c), .int i] μ Q := by
  by_cases h0 : ¬ noTapeM μ c = 0
  · have e1 : noPlaceM μ c i = noTapeM μ c := by unfold noPlaceM; rw [if_neg h0]
    rw [e1] at hq
    refine Mt.enter rfl (Nat.le_of_ble_eq_true rfl) ?_
    refine X.aload_n dX5_noPlace_0 rfl ?_
    refine X.iload_n dX5_noPlace_1 rfl ?_
    refine X.cV1i (k' := kX5_noTape) dX5_noPlace_2 (hM.1 44 (by decide) (by decide)) ⟨by decide, rfl⟩ v_X5_noTape wm_X5_102 wi_X5_noTape ws_X5_noTape ⟨Nat.le_of_ble_eq_true rfl, Nat.le_of_ble_eq_true rfl⟩ n_X5_noTape (Nat.le_of_ble_eq_true rfl) ?_
    refine m_noTape hM hc ?_
    refine ⟨_, rfl, ?_⟩
    refine X.istore_n dX5_noPlace_5 (Nat.le_of_ble_eq_true rfl) ?_
    refine X.iload_n dX5_noPlace_6 rfl ?_
    refine X.if_le_f (tgt := 14) dX5_noPlace_7 (by decide) (fun q => h0 (nI_le0 q (by have := noTapeM_le μ c; omega))) ?_
    refine X.iload_n dX5_noPlace_10 rfl ?_
    refine X.goto (tgt := 40) dX5_noPlace_11 (by decide) ?_
    refine X.ret dX5_noPlace_40 ⟨trivial, ?_⟩
    exact hq
  · have h0 : noTapeM μ c = 0 := Decidable.not_not.mp h0
    cases hr : rng i (sz μ (tp μ c)) with
    | none =>
      have e1 : noPlaceM μ c i = 3 := by unfold noPlaceM; rw [if_pos h0, hr]
      rw [e1] at hq
      exact np_out hM hw hc h0 hr hq
    | some j =>
      have e1 : noPlaceM μ c i = 0 := by unfold noPlaceM; rw [if_pos h0, hr]
      rw [e1] at hq
      exact np_in hM hw hc h0 hr hq
set_option maxRecDepth 100000 in
set_option maxHeartbeats 4000000 in
theorem m_takesF {k : Fin 11} {o : Fin 13} {μ : xM} {Q : Option Value → xM → Prop} (hq : Q (some (.int (if takesM k.val o.val then 1 else 0))) μ) : Mt kX5_takes [.int (nI k.val), .int (nI o.val)] μ Q := by
  refine Mt.enter rfl (Nat.le_of_ble_eq_true rfl) ?_
  refine X.iload_n dX5_takes_0 rfl ?_
  refine X.bipush (v := 7) dX5_takes_1 (by decide) ?_
  refine X.icmp_le (tgt := 35) dX5_takes_3 (by decide) (fun c3 => ?_) (fun c3 => ?_)
  · refine X.iload_n dX5_takes_35 rfl ?_
    refine X.iload_n dX5_takes_36 rfl ?_
    refine X.icmp_ne (tgt := 42) dX5_takes_37 (by decide) (fun c37 => ?_) (fun c37 => ?_)
    · refine X.iload_n dX5_takes_42 rfl ?_
      refine X.iconst (v := 2) dX5_takes_43 (by decide) ?_
      refine X.icmp_ne (tgt := 58) dX5_takes_44 (by decide) (fun c44 => ?_) (fun c44 => ?_)
      · refine X.iload_n dX5_takes_58 rfl ?_
        refine X.iconst (v := 3) dX5_takes_59 (by decide) ?_
        refine X.icmp_le (tgt := 76) dX5_takes_60 (by decide) (fun c60 => ?_) (fun c60 => ?_)
        · refine X.iconst (v := 0) dX5_takes_76 (by decide) ?_
          refine X.ret dX5_takes_77 ⟨(by first | exact Or.inl rfl | exact Or.inr rfl), ?_⟩
          first
            | (have e : takesM k.val o.val = true := by clear hq; revert k o; decide +kernel
               rw [e] at hq; exact hq)
            | (have e : takesM k.val o.val = false := by clear hq; revert k o; decide +kernel
               rw [e] at hq; exact hq)
        · refine X.iload_n dX5_takes_63 rfl ?_
          refine X.if_le (tgt := 76) dX5_takes_64 (by decide) (fun c64 => ?_) (fun c64 => ?_)
          · refine X.iconst (v := 0) dX5_takes_76 (by decide) ?_
            refine X.ret dX5_takes_77 ⟨(by first | exact Or.inl rfl | exact Or.inr rfl), ?_⟩
            first
              | (have e : takesM k.val o.val = true := by clear hq; revert k o; decide +kernel
                 rw [e] at hq; exact hq)
              | (have e : takesM k.val o.val = false := by clear hq; revert k o; decide +kernel
                 rw [e] at hq; exact hq)
          · refine X.iload_n dX5_takes_67 rfl ?_
            refine X.iload_n dX5_takes_68 rfl ?_
            refine X.icmp_ge (tgt := 76) dX5_takes_69 (by decide) (fun c69 => ?_) (fun c69 => ?_)
            · refine X.iconst (v := 0) dX5_takes_76 (by decide) ?_
              refine X.ret dX5_takes_77 ⟨(by first | exact Or.inl rfl | exact Or.inr rfl), ?_⟩
              first
                | (have e : takesM k.val o.val = true := by clear hq; revert k o; decide +kernel
                   rw [e] at hq; exact hq)
                | (have e : takesM k.val o.val = false := by clear hq; revert k o; decide +kernel
                   rw [e] at hq; exact hq)
            · refine X.iconst (v := 1) dX5_takes_72 (by decide) ?_
              refine X.goto (tgt := 77) dX5_takes_73 (by decide) ?_
              refine X.ret dX5_takes_77 ⟨(by first | exact Or.inl rfl | exact Or.inr rfl), ?_⟩
              first
                | (have e : takesM k.val o.val = true := by clear hq; revert k o; decide +kernel
                   rw [e] at hq; exact hq)
                | (have e : takesM k.val o.val = false := by clear hq; revert k o; decide +kernel
                   rw [e] at hq; exact hq)
      · refine X.iload_n dX5_takes_47 rfl ?_
        refine X.iconst (v := 1) dX5_takes_48 (by decide) ?_
        refine X.icmp_ne (tgt := 56) dX5_takes_49 (by decide) (fun c49 => ?_) (fun c49 => ?_)
        · refine X.iconst (v := 0) dX5_takes_56 (by decide) ?_
          refine X.ret dX5_takes_57 ⟨(by first | exact Or.inl rfl | exact Or.inr rfl), ?_⟩
          first
            | (have e : takesM k.val o.val = true := by clear hq; revert k o; decide +kernel
               rw [e] at hq; exact hq)
            | (have e : takesM k.val o.val = false := by clear hq; revert k o; decide +kernel
               rw [e] at hq; exact hq)
        · refine X.iconst (v := 1) dX5_takes_52 (by decide) ?_
          refine X.goto (tgt := 57) dX5_takes_53 (by decide) ?_
          refine X.ret dX5_takes_57 ⟨(by first | exact Or.inl rfl | exact Or.inr rfl), ?_⟩
          first
            | (have e : takesM k.val o.val = true := by clear hq; revert k o; decide +kernel
               rw [e] at hq; exact hq)
            | (have e : takesM k.val o.val = false := by clear hq; revert k o; decide +kernel
               rw [e] at hq; exact hq)
    · refine X.iconst (v := 1) dX5_takes_40 (by decide) ?_
      refine X.ret dX5_takes_41 ⟨(by first | exact Or.inl rfl | exact Or.inr rfl), ?_⟩
      first
        | (have e : takesM k.val o.val = true := by clear hq; revert k o; decide +kernel
           rw [e] at hq; exact hq)
        | (have e : takesM k.val o.val = false := by clear hq; revert k o; decide +kernel
           rw [e] at hq; exact hq)
  · refine X.iload_n dX5_takes_6 rfl ?_
    refine X.bipush (v := 11) dX5_takes_7 (by decide) ?_
    refine X.icmp_eq (tgt := 29) dX5_takes_9 (by decide) (fun c9 => ?_) (fun c9 => ?_)
    · refine X.iconst (v := 1) dX5_takes_29 (by decide) ?_
      refine X.goto (tgt := 34) dX5_takes_30 (by decide) ?_
      refine X.ret dX5_takes_34 ⟨(by first | exact Or.inl rfl | exact Or.inr rfl), ?_⟩
      first
        | (have e : takesM k.val o.val = true := by clear hq; revert k o; decide +kernel
           rw [e] at hq; exact hq)
        | (have e : takesM k.val o.val = false := by clear hq; revert k o; decide +kernel
           rw [e] at hq; exact hq)
    · refine X.iload_n dX5_takes_12 rfl ?_
      refine X.iload_n dX5_takes_13 rfl ?_
      refine X.icmp_eq (tgt := 29) dX5_takes_14 (by decide) (fun c14 => ?_) (fun c14 => ?_)
      · refine X.iconst (v := 1) dX5_takes_29 (by decide) ?_
        refine X.goto (tgt := 34) dX5_takes_30 (by decide) ?_
        refine X.ret dX5_takes_34 ⟨(by first | exact Or.inl rfl | exact Or.inr rfl), ?_⟩
        first
          | (have e : takesM k.val o.val = true := by clear hq; revert k o; decide +kernel
             rw [e] at hq; exact hq)
          | (have e : takesM k.val o.val = false := by clear hq; revert k o; decide +kernel
             rw [e] at hq; exact hq)
      · refine X.iload_n dX5_takes_17 rfl ?_
        refine X.bipush (v := 8) dX5_takes_18 (by decide) ?_
        refine X.icmp_ne (tgt := 33) dX5_takes_20 (by decide) (fun c20 => ?_) (fun c20 => ?_)
        · refine X.iconst (v := 0) dX5_takes_33 (by decide) ?_
          refine X.ret dX5_takes_34 ⟨(by first | exact Or.inl rfl | exact Or.inr rfl), ?_⟩
          first
            | (have e : takesM k.val o.val = true := by clear hq; revert k o; decide +kernel
               rw [e] at hq; exact hq)
            | (have e : takesM k.val o.val = false := by clear hq; revert k o; decide +kernel
               rw [e] at hq; exact hq)
        · refine X.iload_n dX5_takes_23 rfl ?_
          refine X.bipush (v := 9) dX5_takes_24 (by decide) ?_
          refine X.icmp_ne (tgt := 33) dX5_takes_26 (by decide) (fun c26 => ?_) (fun c26 => ?_)
          · refine X.iconst (v := 0) dX5_takes_33 (by decide) ?_
            refine X.ret dX5_takes_34 ⟨(by first | exact Or.inl rfl | exact Or.inr rfl), ?_⟩
            first
              | (have e : takesM k.val o.val = true := by clear hq; revert k o; decide +kernel
                 rw [e] at hq; exact hq)
              | (have e : takesM k.val o.val = false := by clear hq; revert k o; decide +kernel
                 rw [e] at hq; exact hq)
          · refine X.iconst (v := 1) dX5_takes_29 (by decide) ?_
            refine X.goto (tgt := 34) dX5_takes_30 (by decide) ?_
            refine X.ret dX5_takes_34 ⟨(by first | exact Or.inl rfl | exact Or.inr rfl), ?_⟩
            first
              | (have e : takesM k.val o.val = true := by clear hq; revert k o; decide +kernel
                 rw [e] at hq; exact hq)
              | (have e : takesM k.val o.val = false := by clear hq; revert k o; decide +kernel
                 rw [e] at hq; exact hq)
theorem m_takes {k o : Nat} {μ : xM} {Q : Option Value → xM → Prop} (hk : k ≤ 10) (ho : o ≤ 12) (hq : Q (some (.int (if takesM k o then 1 else 0))) μ) : Mt kX5_takes [.int (nI k), .int (nI o)] μ Q :=
  m_takesF (k := ⟨k, by omega⟩) (o := ⟨o, by omega⟩) hq
end
section
/-! the reference: cells read, made and written (laid by wip/whole/mkmodel3.py) -/
theorem lgc_eq {x y : Int64} (h : x = y) : lg_cmp x y = 0 := by
  subst h
  unfold lg_cmp
  rw [if_neg (Int64.lt_irrefl), if_pos rfl]
theorem lgc_ne {x y : Int64} (h : x ≠ y) : ¬ lg_cmp x y = 0 := by
  unfold lg_cmp
  split
  · decide
  · first | decide | (rw [if_neg h]; decide)
theorem lgc_gt {x y : Int64} (h : y < x) : ¬ lg_cmp x y ≤ 0 := by
  unfold lg_cmp
  rw [if_pos h]
  decide
theorem lgc_ngt {x y : Int64} (h : ¬ y < x) : lg_cmp x y ≤ 0 := by
  unfold lg_cmp
  rw [if_neg h]
  split <;> decide
theorem cell_in {t j : Nat} (ht : t < 560) (hj : j < 32) : 32 * t + j < 17920 := by omega
theorem nI_neq {a b : Nat} (h : a ≠ b) (ha : a < 2 ^ 31) (hb : b < 2 ^ 31) : ¬ nI a = nI b := fun q => h ((nI_eq ha hb).mp q)
theorem cellKind_le {μ : xM} {t j : Nat} : cellKindM μ t j ≤ 11 := by
  unfold cellKindM
  split
  · omega
  · split
    · omega
    · split
      · omega
      · split <;> omega
theorem fit_id {k : Nat} (h : 8 ≤ k) (v : Int64) : fitM k v = v := by
  unfold fitM
  split <;> first | omega | rfl
set_option maxRecDepth 100000 in
set_option maxHeartbeats 4000000 in
theorem m_cellKind1 {t j : Nat} {μ : xM} {Q : Option Value → xM → Prop} (hM : ShM μ) (hw : WFt μ) (ht : t < 560) (hj : j < sz μ t) (h8 : kd μ t < 8) (hq : Q (some (.int (nI (cellKindM μ t j)))) μ) : Mt kX5_cellKind [.ref 44, .int (nI t), .int (nI j)] μ Q := by
  obtain ⟨⟨ek, lk⟩, es, ls⟩ := hw.2.1 _ ht
  have hin := cell_in ht (Nat.lt_of_lt_of_le hj ls)
  refine Mt.enter rfl (Nat.le_of_ble_eq_true rfl) ?_
  refine X.aload_n dX5_cellKind_0 rfl ?_
  refine X.getR (b := 45) (kf := 0) dX5_cellKind_1 (hM.1 44 (by decide) (by decide)) (by decide) (by decide) rfl wf_X5_7 (hM.2 0 (by decide)) ?_
  refine X.iload_n dX5_cellKind_4 rfl ?_
  refine X.iald dX5_cellKind_5 (hM.1 45 (by decide) (by decide)) (rfl) (ht) (by decide) ?_
  refine X.istore_n dX5_cellKind_6 (Nat.le_of_ble_eq_true rfl) ?_
  refine X.aload_n dX5_cellKind_7 rfl ?_
  refine X.getR (b := 48) (kf := 3) dX5_cellKind_8 (hM.1 44 (by decide) (by decide)) (by decide) (by decide) rfl wf_X5_20 (hM.2 3 (by decide)) ?_
  refine X.bipush (v := 32) dX5_cellKind_11 (by decide) ?_
  refine X.iload_n dX5_cellKind_13 rfl ?_
  refine X.imul dX5_cellKind_14 ?_
  refine X.iload_n dX5_cellKind_15 rfl ?_
  refine X.iadd dX5_cellKind_16 ?_
  refine X.lald dX5_cellKind_17 (hM.1 48 (by decide) (by decide)) (at_eq2 t j) (hin) (by decide) ?_
  refine X.lstore dX5_cellKind_18 (Nat.le_of_ble_eq_true rfl) ?_
  refine X.iload_n dX5_cellKind_20 rfl ?_
  refine X.bipush (v := 8) dX5_cellKind_21 (by decide) ?_
  refine X.icmp_ge_f (tgt := 28) dX5_cellKind_23 (by decide) ((by rw [ek]; exact nI_ge (a := kd μ t) (b := 8) h8 (by decide))) ?_
  refine X.iload_n dX5_cellKind_26 rfl ?_
  refine X.ret dX5_cellKind_27 ⟨trivial, ?_⟩
  unfold cellKindM at hq
  rw [if_pos h8] at hq
  rw [ek]
  exact hq
set_option maxRecDepth 100000 in
set_option maxHeartbeats 4000000 in
theorem m_cellKind2 {t j : Nat} {μ : xM} {Q : Option Value → xM → Prop} (hM : ShM μ) (hw : WFt μ) (ht : t < 560) (hj : j < sz μ t) (h8 : ¬ kd μ t < 8) (hv : cv μ t j = 0) (hq : Q (some (.int (nI (cellKindM μ t j)))) μ) : Mt kX5_cellKind [.ref 44, .int (nI t), .int (nI j)] μ Q := by
  obtain ⟨⟨ek, lk⟩, es, ls⟩ := hw.2.1 _ ht
  have hin := cell_in ht (Nat.lt_of_lt_of_le hj ls)
  refine Mt.enter rfl (Nat.le_of_ble_eq_true rfl) ?_
  refine X.aload_n dX5_cellKind_0 rfl ?_
  refine X.getR (b := 45) (kf := 0) dX5_cellKind_1 (hM.1 44 (by decide) (by decide)) (by decide) (by decide) rfl wf_X5_7 (hM.2 0 (by decide)) ?_
  refine X.iload_n dX5_cellKind_4 rfl ?_
  refine X.iald dX5_cellKind_5 (hM.1 45 (by decide) (by decide)) (rfl) (ht) (by decide) ?_
  refine X.istore_n dX5_cellKind_6 (Nat.le_of_ble_eq_true rfl) ?_
  refine X.aload_n dX5_cellKind_7 rfl ?_
  refine X.getR (b := 48) (kf := 3) dX5_cellKind_8 (hM.1 44 (by decide) (by decide)) (by decide) (by decide) rfl wf_X5_20 (hM.2 3 (by decide)) ?_
  refine X.bipush (v := 32) dX5_cellKind_11 (by decide) ?_
  refine X.iload_n dX5_cellKind_13 rfl ?_
  refine X.imul dX5_cellKind_14 ?_
  refine X.iload_n dX5_cellKind_15 rfl ?_
  refine X.iadd dX5_cellKind_16 ?_
  refine X.lald dX5_cellKind_17 (hM.1 48 (by decide) (by decide)) (at_eq2 t j) (hin) (by decide) ?_
  refine X.lstore dX5_cellKind_18 (Nat.le_of_ble_eq_true rfl) ?_
  refine X.iload_n dX5_cellKind_20 rfl ?_
  refine X.bipush (v := 8) dX5_cellKind_21 (by decide) ?_
  refine X.icmp_ge_t (tgt := 28) dX5_cellKind_23 (by decide) ((by rw [ek]; exact nI_le (a := 8) (b := kd μ t) (by omega) (by omega))) ?_
  refine X.lload dX5_cellKind_28 rfl ?_
  refine X.lconst (v := 0) dX5_cellKind_30 (by decide) ?_
  refine X.lcmp dX5_cellKind_31 ?_
  refine X.if_ne_f (tgt := 40) dX5_cellKind_32 (by decide) (lgc_eq hv) ?_
  refine X.bipush (v := 11) dX5_cellKind_35 (by decide) ?_
  refine X.goto (tgt := 69) dX5_cellKind_37 (by decide) ?_
  refine X.ret dX5_cellKind_69 ⟨trivial, ?_⟩
  unfold cellKindM at hq
  rw [if_neg h8, if_pos hv] at hq
  exact hq
set_option maxRecDepth 100000 in
set_option maxHeartbeats 4000000 in
theorem m_cellKind3 {t j : Nat} {μ : xM} {Q : Option Value → xM → Prop} (hM : ShM μ) (hw : WFt μ) (ht : t < 560) (hj : j < sz μ t) (h8 : ¬ kd μ t < 8) (hv : ¬ cv μ t j = 0) (h10 : kd μ t = 10) (hq : Q (some (.int (nI (cellKindM μ t j)))) μ) : Mt kX5_cellKind [.ref 44, .int (nI t), .int (nI j)] μ Q := by
  obtain ⟨⟨ek, lk⟩, es, ls⟩ := hw.2.1 _ ht
  have hin := cell_in ht (Nat.lt_of_lt_of_le hj ls)
  refine Mt.enter rfl (Nat.le_of_ble_eq_true rfl) ?_
  refine X.aload_n dX5_cellKind_0 rfl ?_
  refine X.getR (b := 45) (kf := 0) dX5_cellKind_1 (hM.1 44 (by decide) (by decide)) (by decide) (by decide) rfl wf_X5_7 (hM.2 0 (by decide)) ?_
  refine X.iload_n dX5_cellKind_4 rfl ?_
  refine X.iald dX5_cellKind_5 (hM.1 45 (by decide) (by decide)) (rfl) (ht) (by decide) ?_
  refine X.istore_n dX5_cellKind_6 (Nat.le_of_ble_eq_true rfl) ?_
  refine X.aload_n dX5_cellKind_7 rfl ?_
  refine X.getR (b := 48) (kf := 3) dX5_cellKind_8 (hM.1 44 (by decide) (by decide)) (by decide) (by decide) rfl wf_X5_20 (hM.2 3 (by decide)) ?_
  refine X.bipush (v := 32) dX5_cellKind_11 (by decide) ?_
  refine X.iload_n dX5_cellKind_13 rfl ?_
  refine X.imul dX5_cellKind_14 ?_
  refine X.iload_n dX5_cellKind_15 rfl ?_
  refine X.iadd dX5_cellKind_16 ?_
  refine X.lald dX5_cellKind_17 (hM.1 48 (by decide) (by decide)) (at_eq2 t j) (hin) (by decide) ?_
  refine X.lstore dX5_cellKind_18 (Nat.le_of_ble_eq_true rfl) ?_
  refine X.iload_n dX5_cellKind_20 rfl ?_
  refine X.bipush (v := 8) dX5_cellKind_21 (by decide) ?_
  refine X.icmp_ge_t (tgt := 28) dX5_cellKind_23 (by decide) ((by rw [ek]; exact nI_le (a := 8) (b := kd μ t) (by omega) (by omega))) ?_
  refine X.lload dX5_cellKind_28 rfl ?_
  refine X.lconst (v := 0) dX5_cellKind_30 (by decide) ?_
  refine X.lcmp dX5_cellKind_31 ?_
  refine X.if_ne_t (tgt := 40) dX5_cellKind_32 (by decide) (lgc_ne hv) ?_
  refine X.iload_n dX5_cellKind_40 rfl ?_
  refine X.bipush (v := 10) dX5_cellKind_41 (by decide) ?_
  refine X.icmp_ne_f (tgt := 51) dX5_cellKind_43 (by decide) ((by rw [ek, h10]; rfl)) ?_
  refine X.bipush (v := 10) dX5_cellKind_46 (by decide) ?_
  refine X.goto (tgt := 69) dX5_cellKind_48 (by decide) ?_
  refine X.ret dX5_cellKind_69 ⟨trivial, ?_⟩
  unfold cellKindM at hq
  rw [if_neg h8, if_neg hv, if_pos h10] at hq
  exact hq
set_option maxRecDepth 100000 in
set_option maxHeartbeats 4000000 in
theorem m_cellKind4 {t j : Nat} {μ : xM} {Q : Option Value → xM → Prop} (hM : ShM μ) (hw : WFt μ) (ht : t < 560) (hj : j < sz μ t) (h8 : ¬ kd μ t < 8) (hv : ¬ cv μ t j = 0) (h10 : ¬ kd μ t = 10) (hq : Q (some (.int (nI (cellKindM μ t j)))) μ) : Mt kX5_cellKind [.ref 44, .int (nI t), .int (nI j)] μ Q := by
  obtain ⟨⟨ek, lk⟩, es, ls⟩ := hw.2.1 _ ht
  have hin := cell_in ht (Nat.lt_of_lt_of_le hj ls)
  obtain ⟨ew, lw, lw2⟩ := hw.2.2 t ht (by omega) j hj
  have lw3 := lw2 (by omega)
  refine Mt.enter rfl (Nat.le_of_ble_eq_true rfl) ?_
  refine X.aload_n dX5_cellKind_0 rfl ?_
  refine X.getR (b := 45) (kf := 0) dX5_cellKind_1 (hM.1 44 (by decide) (by decide)) (by decide) (by decide) rfl wf_X5_7 (hM.2 0 (by decide)) ?_
  refine X.iload_n dX5_cellKind_4 rfl ?_
  refine X.iald dX5_cellKind_5 (hM.1 45 (by decide) (by decide)) (rfl) (ht) (by decide) ?_
  refine X.istore_n dX5_cellKind_6 (Nat.le_of_ble_eq_true rfl) ?_
  refine X.aload_n dX5_cellKind_7 rfl ?_
  refine X.getR (b := 48) (kf := 3) dX5_cellKind_8 (hM.1 44 (by decide) (by decide)) (by decide) (by decide) rfl wf_X5_20 (hM.2 3 (by decide)) ?_
  refine X.bipush (v := 32) dX5_cellKind_11 (by decide) ?_
  refine X.iload_n dX5_cellKind_13 rfl ?_
  refine X.imul dX5_cellKind_14 ?_
  refine X.iload_n dX5_cellKind_15 rfl ?_
  refine X.iadd dX5_cellKind_16 ?_
  refine X.lald dX5_cellKind_17 (hM.1 48 (by decide) (by decide)) (at_eq2 t j) (hin) (by decide) ?_
  refine X.lstore dX5_cellKind_18 (Nat.le_of_ble_eq_true rfl) ?_
  refine X.iload_n dX5_cellKind_20 rfl ?_
  refine X.bipush (v := 8) dX5_cellKind_21 (by decide) ?_
  refine X.icmp_ge_t (tgt := 28) dX5_cellKind_23 (by decide) ((by rw [ek]; exact nI_le (a := 8) (b := kd μ t) (by omega) (by omega))) ?_
  refine X.lload dX5_cellKind_28 rfl ?_
  refine X.lconst (v := 0) dX5_cellKind_30 (by decide) ?_
  refine X.lcmp dX5_cellKind_31 ?_
  refine X.if_ne_t (tgt := 40) dX5_cellKind_32 (by decide) (lgc_ne hv) ?_
  refine X.iload_n dX5_cellKind_40 rfl ?_
  refine X.bipush (v := 10) dX5_cellKind_41 (by decide) ?_
  refine X.icmp_ne_t (tgt := 51) dX5_cellKind_43 (by decide) ((by rw [ek]; exact nI_neq h10 (by omega) (by decide))) ?_
  refine X.aload_n dX5_cellKind_51 rfl ?_
  refine X.getR (b := 49) (kf := 5) dX5_cellKind_52 (hM.1 44 (by decide) (by decide)) (by decide) (by decide) rfl wf_X5_24 (hM.2 5 (by decide)) ?_
  refine X.lload dX5_cellKind_55 rfl ?_
  refine X.l2i dX5_cellKind_57 ?_
  refine X.zald dX5_cellKind_58 (hM.1 49 (by decide) (by decide)) (by rw [show mJ μ 48 (32 * t + j) = lN (lx (cv μ t j)) from ew]; exact lN_i _) (by omega) (by decide) ?_
  refine X.if_eq (tgt := 67) dX5_cellKind_59 (by decide) (fun c59 => ?_) (fun c59 => ?_)
  · refine X.bipush (v := 8) dX5_cellKind_67 (by decide) ?_
    refine X.ret dX5_cellKind_69 ⟨trivial, ?_⟩
    unfold cellKindM at hq
    rw [if_neg h8, if_neg hv, if_neg h10] at hq
    first
      | (rw [if_pos c59] at hq; exact hq)
      | (rw [if_neg c59] at hq; exact hq)
  · refine X.bipush (v := 9) dX5_cellKind_62 (by decide) ?_
    refine X.goto (tgt := 69) dX5_cellKind_64 (by decide) ?_
    refine X.ret dX5_cellKind_69 ⟨trivial, ?_⟩
    unfold cellKindM at hq
    rw [if_neg h8, if_neg hv, if_neg h10] at hq
    first
      | (rw [if_pos c59] at hq; exact hq)
      | (rw [if_neg c59] at hq; exact hq)
theorem m_cellKind {t j : Nat} {μ : xM} {Q : Option Value → xM → Prop} (hM : ShM μ) (hw : WFt μ) (ht : t < 560) (hj : j < sz μ t) (hq : Q (some (.int (nI (cellKindM μ t j)))) μ) : Mt kX5_cellKind [.ref 44, .int (nI t), .int (nI j)] μ Q := by
  by_cases h8 : kd μ t < 8
  · exact m_cellKind1 hM hw ht hj h8 hq
  · by_cases hv : cv μ t j = 0
    · exact m_cellKind2 hM hw ht hj h8 hv hq
    · by_cases h10 : kd μ t = 10
      · exact m_cellKind3 hM hw ht hj h8 hv h10 hq
      · exact m_cellKind4 hM hw ht hj h8 hv h10 hq
set_option maxRecDepth 100000 in
set_option maxHeartbeats 4000000 in
theorem m_numberOf1 {t j : Nat} {μ : xM} {Q : Option Value → xM → Prop} (hM : ShM μ) (hw : WFt μ) (ht : t < 560) (hj : j < sz μ t) (h10 : ¬ kd μ t = 10) (hq : Q (some (.long (numM μ t j))) μ) : Mt kX5_numberOf [.ref 44, .int (nI t), .int (nI j)] μ Q := by
  obtain ⟨⟨ek, lk⟩, es, ls⟩ := hw.2.1 _ ht
  have hin := cell_in ht (Nat.lt_of_lt_of_le hj ls)
  refine Mt.enter rfl (Nat.le_of_ble_eq_true rfl) ?_
  refine X.aload_n dX5_numberOf_0 rfl ?_
  refine X.getR (b := 48) (kf := 3) dX5_numberOf_1 (hM.1 44 (by decide) (by decide)) (by decide) (by decide) rfl wf_X5_20 (hM.2 3 (by decide)) ?_
  refine X.bipush (v := 32) dX5_numberOf_4 (by decide) ?_
  refine X.iload_n dX5_numberOf_6 rfl ?_
  refine X.imul dX5_numberOf_7 ?_
  refine X.iload_n dX5_numberOf_8 rfl ?_
  refine X.iadd dX5_numberOf_9 ?_
  refine X.lald dX5_numberOf_10 (hM.1 48 (by decide) (by decide)) (at_eq2 t j) (hin) (by decide) ?_
  refine X.lstore_n dX5_numberOf_11 (Nat.le_of_ble_eq_true rfl) ?_
  refine X.aload_n dX5_numberOf_12 rfl ?_
  refine X.getR (b := 45) (kf := 0) dX5_numberOf_13 (hM.1 44 (by decide) (by decide)) (by decide) (by decide) rfl wf_X5_7 (hM.2 0 (by decide)) ?_
  refine X.iload_n dX5_numberOf_16 rfl ?_
  refine X.iald dX5_numberOf_17 (hM.1 45 (by decide) (by decide)) (rfl) (ht) (by decide) ?_
  refine X.bipush (v := 10) dX5_numberOf_18 (by decide) ?_
  refine X.icmp_ne_t (tgt := 42) dX5_numberOf_20 (by decide) ((by rw [ek]; exact nI_neq h10 (by omega) (by decide))) ?_
  refine X.lload_n dX5_numberOf_42 rfl ?_
  refine X.ret dX5_numberOf_43 ⟨trivial, ?_⟩
  unfold numM at hq
  rw [if_neg h10] at hq
  exact hq
set_option maxRecDepth 100000 in
set_option maxHeartbeats 4000000 in
theorem m_numberOf2 {t j : Nat} {μ : xM} {Q : Option Value → xM → Prop} (hM : ShM μ) (hw : WFt μ) (ht : t < 560) (hj : j < sz μ t) (h10 : kd μ t = 10) (hv : ¬ 0 < cv μ t j) (hq : Q (some (.long (numM μ t j))) μ) : Mt kX5_numberOf [.ref 44, .int (nI t), .int (nI j)] μ Q := by
  obtain ⟨⟨ek, lk⟩, es, ls⟩ := hw.2.1 _ ht
  have hin := cell_in ht (Nat.lt_of_lt_of_le hj ls)
  refine Mt.enter rfl (Nat.le_of_ble_eq_true rfl) ?_
  refine X.aload_n dX5_numberOf_0 rfl ?_
  refine X.getR (b := 48) (kf := 3) dX5_numberOf_1 (hM.1 44 (by decide) (by decide)) (by decide) (by decide) rfl wf_X5_20 (hM.2 3 (by decide)) ?_
  refine X.bipush (v := 32) dX5_numberOf_4 (by decide) ?_
  refine X.iload_n dX5_numberOf_6 rfl ?_
  refine X.imul dX5_numberOf_7 ?_
  refine X.iload_n dX5_numberOf_8 rfl ?_
  refine X.iadd dX5_numberOf_9 ?_
  refine X.lald dX5_numberOf_10 (hM.1 48 (by decide) (by decide)) (at_eq2 t j) (hin) (by decide) ?_
  refine X.lstore_n dX5_numberOf_11 (Nat.le_of_ble_eq_true rfl) ?_
  refine X.aload_n dX5_numberOf_12 rfl ?_
  refine X.getR (b := 45) (kf := 0) dX5_numberOf_13 (hM.1 44 (by decide) (by decide)) (by decide) (by decide) rfl wf_X5_7 (hM.2 0 (by decide)) ?_
  refine X.iload_n dX5_numberOf_16 rfl ?_
  refine X.iald dX5_numberOf_17 (hM.1 45 (by decide) (by decide)) (rfl) (ht) (by decide) ?_
  refine X.bipush (v := 10) dX5_numberOf_18 (by decide) ?_
  refine X.icmp_ne_f (tgt := 42) dX5_numberOf_20 (by decide) ((by rw [ek, h10]; rfl)) ?_
  refine X.lload_n dX5_numberOf_23 rfl ?_
  refine X.lconst (v := 0) dX5_numberOf_24 (by decide) ?_
  refine X.lcmp dX5_numberOf_25 ?_
  refine X.if_le_t (tgt := 42) dX5_numberOf_26 (by decide) (lgc_ngt hv) ?_
  refine X.lload_n dX5_numberOf_42 rfl ?_
  refine X.ret dX5_numberOf_43 ⟨trivial, ?_⟩
  unfold numM at hq
  rw [if_pos h10, if_neg hv] at hq
  exact hq
set_option maxRecDepth 100000 in
set_option maxHeartbeats 4000000 in
theorem m_numberOf3 {t j : Nat} {μ : xM} {Q : Option Value → xM → Prop} (hM : ShM μ) (hw : WFt μ) (ht : t < 560) (hj : j < sz μ t) (h10 : kd μ t = 10) (hv : 0 < cv μ t j) (hq : Q (some (.long (numM μ t j))) μ) : Mt kX5_numberOf [.ref 44, .int (nI t), .int (nI j)] μ Q := by
  obtain ⟨⟨ek, lk⟩, es, ls⟩ := hw.2.1 _ ht
  have hin := cell_in ht (Nat.lt_of_lt_of_le hj ls)
  obtain ⟨ew, lw, lw2⟩ := hw.2.2 t ht (by omega) j hj
  have hp : lx (cv μ t j) ≠ 0 := fun e => by rw [ew, e] at hv; exact absurd hv (by decide)
  have e9 : (mJ μ 48 (32 * t + j)).toInt32 - 1 = nI (lx (cv μ t j) - 1) := by
    rw [show mJ μ 48 (32 * t + j) = lN (lx (cv μ t j)) from ew, lN_i]
    exact pk_sub (a := lx (cv μ t j)) (b := 1) (by omega)
  refine Mt.enter rfl (Nat.le_of_ble_eq_true rfl) ?_
  refine X.aload_n dX5_numberOf_0 rfl ?_
  refine X.getR (b := 48) (kf := 3) dX5_numberOf_1 (hM.1 44 (by decide) (by decide)) (by decide) (by decide) rfl wf_X5_20 (hM.2 3 (by decide)) ?_
  refine X.bipush (v := 32) dX5_numberOf_4 (by decide) ?_
  refine X.iload_n dX5_numberOf_6 rfl ?_
  refine X.imul dX5_numberOf_7 ?_
  refine X.iload_n dX5_numberOf_8 rfl ?_
  refine X.iadd dX5_numberOf_9 ?_
  refine X.lald dX5_numberOf_10 (hM.1 48 (by decide) (by decide)) (at_eq2 t j) (hin) (by decide) ?_
  refine X.lstore_n dX5_numberOf_11 (Nat.le_of_ble_eq_true rfl) ?_
  refine X.aload_n dX5_numberOf_12 rfl ?_
  refine X.getR (b := 45) (kf := 0) dX5_numberOf_13 (hM.1 44 (by decide) (by decide)) (by decide) (by decide) rfl wf_X5_7 (hM.2 0 (by decide)) ?_
  refine X.iload_n dX5_numberOf_16 rfl ?_
  refine X.iald dX5_numberOf_17 (hM.1 45 (by decide) (by decide)) (rfl) (ht) (by decide) ?_
  refine X.bipush (v := 10) dX5_numberOf_18 (by decide) ?_
  refine X.icmp_ne_f (tgt := 42) dX5_numberOf_20 (by decide) ((by rw [ek, h10]; rfl)) ?_
  refine X.lload_n dX5_numberOf_23 rfl ?_
  refine X.lconst (v := 0) dX5_numberOf_24 (by decide) ?_
  refine X.lcmp dX5_numberOf_25 ?_
  refine X.if_le_f (tgt := 42) dX5_numberOf_26 (by decide) (lgc_gt hv) ?_
  refine X.aload_n dX5_numberOf_29 rfl ?_
  refine X.getR (b := 46) (kf := 1) dX5_numberOf_30 (hM.1 44 (by decide) (by decide)) (by decide) (by decide) rfl wf_X5_13 (hM.2 1 (by decide)) ?_
  refine X.lload_n dX5_numberOf_33 rfl ?_
  refine X.l2i dX5_numberOf_34 ?_
  refine X.iconst (v := 1) dX5_numberOf_35 (by decide) ?_
  refine X.isub dX5_numberOf_36 ?_
  refine X.iald dX5_numberOf_37 (hM.1 46 (by decide) (by decide)) (e9) (by omega) (by decide) ?_
  refine X.i2l dX5_numberOf_38 ?_
  refine X.goto (tgt := 43) dX5_numberOf_39 (by decide) ?_
  refine X.ret dX5_numberOf_43 ⟨trivial, ?_⟩
  unfold numM at hq
  rw [if_pos h10, if_pos hv] at hq
  exact hq
theorem m_numberOf {t j : Nat} {μ : xM} {Q : Option Value → xM → Prop} (hM : ShM μ) (hw : WFt μ) (ht : t < 560) (hj : j < sz μ t) (hq : Q (some (.long (numM μ t j))) μ) : Mt kX5_numberOf [.ref 44, .int (nI t), .int (nI j)] μ Q := by
  by_cases h10 : kd μ t = 10
  · by_cases hv : 0 < cv μ t j
    · exact m_numberOf3 hM hw ht hj h10 hv hq
    · exact m_numberOf2 hM hw ht hj h10 hv hq
  · exact m_numberOf1 hM hw ht hj h10 hq
theorem m_nearest6 {v : Int64} {μ : xM} {Q : Option Value → xM → Prop} (hq : Q (some (.long (fitM 6 v))) μ) : Mt kX5_nearest [.long v, .int 24] μ Q := by
  sorry
theorem m_nearest7 {v : Int64} {μ : xM} {Q : Option Value → xM → Prop} (hq : Q (some (.long (fitM 7 v))) μ) : Mt kX5_nearest [.long v, .int 53] μ Q := by
  sorry
set_option maxRecDepth 100000 in
set_option maxHeartbeats 4000000 in
theorem m_made0 {v : Int64} {μ : xM} {Q : Option Value → xM → Prop} (hq : Q (some (.long (fitM 0 v))) μ) : Mt kX5_made [.int (nI 0), .long v] μ Q := by
  refine Mt.enter rfl (Nat.le_of_ble_eq_true rfl) ?_
  refine X.iload_n dX5_made_0 rfl ?_
  refine X.tabIn (tgt := 44) dX5_made_1 (by decide) (by decide) (rfl) (by decide) ?_
  refine X.lload_n dX5_made_44 rfl ?_
  refine X.lconst (v := 0) dX5_made_45 (by decide) ?_
  refine X.lcmp dX5_made_46 ?_
  refine X.if_eq (tgt := 54) dX5_made_47 (by decide) (fun c47 => ?_) (fun c47 => ?_)
  · refine X.lconst (v := 0) dX5_made_54 (by decide) ?_
    refine X.ret dX5_made_55 ⟨trivial, ?_⟩
    unfold fitM at hq
    first
      | (rw [if_pos (Decidable.byContradiction (fun e => lgc_ne e c47))] at hq; exact hq)
      | (rw [if_neg (fun e => c47 (lgc_eq e))] at hq; exact hq)
  · refine X.lconst (v := 1) dX5_made_50 (by decide) ?_
    refine X.goto (tgt := 55) dX5_made_51 (by decide) ?_
    refine X.ret dX5_made_55 ⟨trivial, ?_⟩
    unfold fitM at hq
    first
      | (rw [if_pos (Decidable.byContradiction (fun e => lgc_ne e c47))] at hq; exact hq)
      | (rw [if_neg (fun e => c47 (lgc_eq e))] at hq; exact hq)
set_option maxRecDepth 100000 in
set_option maxHeartbeats 4000000 in
theorem m_made1 {v : Int64} {μ : xM} {Q : Option Value → xM → Prop} (hq : Q (some (.long (fitM 1 v))) μ) : Mt kX5_made [.int (nI 1), .long v] μ Q := by
  refine Mt.enter rfl (Nat.le_of_ble_eq_true rfl) ?_
  refine X.iload_n dX5_made_0 rfl ?_
  refine X.tabIn (tgt := 56) dX5_made_1 (by decide) (by decide) (rfl) (by decide) ?_
  refine X.lload_n dX5_made_56 rfl ?_
  refine X.l2i dX5_made_57 ?_
  refine X.i2b dX5_made_58 ?_
  refine X.i2l dX5_made_59 ?_
  refine X.ret dX5_made_60 ⟨trivial, ?_⟩
  exact hq
set_option maxRecDepth 100000 in
set_option maxHeartbeats 4000000 in
theorem m_made2 {v : Int64} {μ : xM} {Q : Option Value → xM → Prop} (hq : Q (some (.long (fitM 2 v))) μ) : Mt kX5_made [.int (nI 2), .long v] μ Q := by
  refine Mt.enter rfl (Nat.le_of_ble_eq_true rfl) ?_
  refine X.iload_n dX5_made_0 rfl ?_
  refine X.tabIn (tgt := 61) dX5_made_1 (by decide) (by decide) (rfl) (by decide) ?_
  refine X.lload_n dX5_made_61 rfl ?_
  refine X.l2i dX5_made_62 ?_
  refine X.i2s dX5_made_63 ?_
  refine X.i2l dX5_made_64 ?_
  refine X.ret dX5_made_65 ⟨trivial, ?_⟩
  exact hq
set_option maxRecDepth 100000 in
set_option maxHeartbeats 4000000 in
theorem m_made3 {v : Int64} {μ : xM} {Q : Option Value → xM → Prop} (hq : Q (some (.long (fitM 3 v))) μ) : Mt kX5_made [.int (nI 3), .long v] μ Q := by
  refine Mt.enter rfl (Nat.le_of_ble_eq_true rfl) ?_
  refine X.iload_n dX5_made_0 rfl ?_
  refine X.tabIn (tgt := 66) dX5_made_1 (by decide) (by decide) (rfl) (by decide) ?_
  refine X.lload_n dX5_made_66 rfl ?_
  refine X.ldc2 dX5_made_67 wk_X5_92 ?_
  refine X.land dX5_made_70 ?_
  refine X.ret dX5_made_71 ⟨trivial, ?_⟩
  exact hq
set_option maxRecDepth 100000 in
set_option maxHeartbeats 4000000 in
theorem m_made4 {v : Int64} {μ : xM} {Q : Option Value → xM → Prop} (hq : Q (some (.long (fitM 4 v))) μ) : Mt kX5_made [.int (nI 4), .long v] μ Q := by
  refine Mt.enter rfl (Nat.le_of_ble_eq_true rfl) ?_
  refine X.iload_n dX5_made_0 rfl ?_
  refine X.tabIn (tgt := 72) dX5_made_1 (by decide) (by decide) (rfl) (by decide) ?_
  refine X.lload_n dX5_made_72 rfl ?_
  refine X.l2i dX5_made_73 ?_
  refine X.i2l dX5_made_74 ?_
  refine X.ret dX5_made_75 ⟨trivial, ?_⟩
  exact hq
set_option maxRecDepth 100000 in
set_option maxHeartbeats 4000000 in
theorem m_made5 {v : Int64} {μ : xM} {Q : Option Value → xM → Prop} (hq : Q (some (.long (fitM 5 v))) μ) : Mt kX5_made [.int (nI 5), .long v] μ Q := by
  refine Mt.enter rfl (Nat.le_of_ble_eq_true rfl) ?_
  refine X.iload_n dX5_made_0 rfl ?_
  refine X.tabIn (tgt := 76) dX5_made_1 (by decide) (by decide) (rfl) (by decide) ?_
  refine X.lload_n dX5_made_76 rfl ?_
  refine X.ret dX5_made_77 ⟨trivial, ?_⟩
  exact hq
set_option maxRecDepth 100000 in
set_option maxHeartbeats 4000000 in
theorem m_made6 {v : Int64} {μ : xM} {Q : Option Value → xM → Prop} (hq : Q (some (.long (fitM 6 v))) μ) : Mt kX5_made [.int (nI 6), .long v] μ Q := by
  refine Mt.enter rfl (Nat.le_of_ble_eq_true rfl) ?_
  refine X.iload_n dX5_made_0 rfl ?_
  refine X.tabIn (tgt := 78) dX5_made_1 (by decide) (by decide) (rfl) (by decide) ?_
  refine X.lload_n dX5_made_78 rfl ?_
  refine X.bipush (v := 24) dX5_made_79 (by decide) ?_
  refine X.cS2l (k' := kX5_nearest) dX5_made_81 v_X5_nearest wm_X5_94 wt_X5_nearest ⟨Nat.le_of_ble_eq_true rfl, Nat.le_of_ble_eq_true rfl⟩ n_X5_nearest (Nat.le_of_ble_eq_true rfl) ?_
  refine m_nearest6 ?_
  refine ⟨_, rfl, ?_⟩
  refine X.ret dX5_made_84 ⟨trivial, ?_⟩
  exact hq
set_option maxRecDepth 100000 in
set_option maxHeartbeats 4000000 in
theorem m_made7 {v : Int64} {μ : xM} {Q : Option Value → xM → Prop} (hq : Q (some (.long (fitM 7 v))) μ) : Mt kX5_made [.int (nI 7), .long v] μ Q := by
  refine Mt.enter rfl (Nat.le_of_ble_eq_true rfl) ?_
  refine X.iload_n dX5_made_0 rfl ?_
  refine X.tabOut (tgt := 85) dX5_made_1 (Or.inr (by decide)) (by decide) ?_
  refine X.lload_n dX5_made_85 rfl ?_
  refine X.bipush (v := 53) dX5_made_86 (by decide) ?_
  refine X.cS2l (k' := kX5_nearest) dX5_made_88 v_X5_nearest wm_X5_94 wt_X5_nearest ⟨Nat.le_of_ble_eq_true rfl, Nat.le_of_ble_eq_true rfl⟩ n_X5_nearest (Nat.le_of_ble_eq_true rfl) ?_
  refine m_nearest7 ?_
  refine ⟨_, rfl, ?_⟩
  refine X.ret dX5_made_91 ⟨trivial, ?_⟩
  exact hq
theorem m_made {k : Nat} {v : Int64} {μ : xM} {Q : Option Value → xM → Prop} (hk : k < 8) (hq : Q (some (.long (fitM k v))) μ) : Mt kX5_made [.int (nI k), .long v] μ Q := by
  match k, hk with
  | 0, _ => exact m_made0 hq
  | 1, _ => exact m_made1 hq
  | 2, _ => exact m_made2 hq
  | 3, _ => exact m_made3 hq
  | 4, _ => exact m_made4 hq
  | 5, _ => exact m_made5 hq
  | 6, _ => exact m_made6 hq
  | 7, _ => exact m_made7 hq
set_option maxRecDepth 100000 in
set_option maxHeartbeats 4000000 in
theorem m_kept {k : Nat} {v : Int64} {μ : xM} {Q : Option Value → xM → Prop} (hk : k ≤ 10) (hq : Q (some (.long (fitM k v))) μ) : Mt kX5_kept [.int (nI k), .long v] μ Q := by
  by_cases h8 : k < 8
  · refine Mt.enter rfl (Nat.le_of_ble_eq_true rfl) ?_
    refine X.iload_n dX5_kept_0 rfl ?_
    refine X.bipush (v := 8) dX5_kept_1 (by decide) ?_
    refine X.icmp_ge_f (tgt := 14) dX5_kept_3 (by decide) (nI_ge (a := k) (b := 8) h8 (by decide)) ?_
    refine X.iload_n dX5_kept_6 rfl ?_
    refine X.lload_n dX5_kept_7 rfl ?_
    refine X.cS2l (k' := kX5_made) dX5_kept_8 v_X5_made wm_X5_98 wt_X5_made ⟨Nat.le_of_ble_eq_true rfl, Nat.le_of_ble_eq_true rfl⟩ n_X5_made (Nat.le_of_ble_eq_true rfl) ?_
    refine m_made h8 ?_
    refine ⟨_, rfl, ?_⟩
    refine X.goto (tgt := 15) dX5_kept_11 (by decide) ?_
    refine X.ret dX5_kept_15 ⟨trivial, ?_⟩
    exact hq
  · refine Mt.enter rfl (Nat.le_of_ble_eq_true rfl) ?_
    refine X.iload_n dX5_kept_0 rfl ?_
    refine X.bipush (v := 8) dX5_kept_1 (by decide) ?_
    refine X.icmp_ge_t (tgt := 14) dX5_kept_3 (by decide) (nI_le (a := 8) (b := k) (by omega) (by omega)) ?_
    refine X.lload_n dX5_kept_14 rfl ?_
    refine X.ret dX5_kept_15 ⟨trivial, ?_⟩
    rw [fit_id (by omega)] at hq
    exact hq
set_option maxRecDepth 100000 in
set_option maxHeartbeats 4000000 in
theorem m_noTake {k o : Nat} {μ : xM} {Q : Option Value → xM → Prop} (hk : k ≤ 10) (ho : o ≤ 12) (hq : Q (some (.int (nI (noTakeM k o)))) μ) : Mt kX5_noTake [.int (nI k), .int (nI o)] μ Q := by
  by_cases ht : takesM k o = true
  · refine Mt.enter rfl (Nat.le_of_ble_eq_true rfl) ?_
    refine X.iload_n dX5_noTake_0 rfl ?_
    refine X.iload_n dX5_noTake_1 rfl ?_
    refine X.cS2i (k' := kX5_takes) dX5_noTake_2 v_X5_takes wm_X5_106 wt_X5_takes ⟨Nat.le_of_ble_eq_true rfl, Nat.le_of_ble_eq_true rfl⟩ n_X5_takes (Nat.le_of_ble_eq_true rfl) ?_
    refine m_takes hk ho ?_
    refine ⟨_, rfl, ?_⟩
    refine X.if_eq_f (tgt := 12) dX5_noTake_5 (by decide) ((by rw [ht]; decide)) ?_
    refine X.iconst (v := 0) dX5_noTake_8 (by decide) ?_
    refine X.goto (tgt := 13) dX5_noTake_9 (by decide) ?_
    refine X.ret dX5_noTake_13 ⟨trivial, ?_⟩
    unfold noTakeM at hq
    rw [if_pos ht] at hq
    exact hq
  · refine Mt.enter rfl (Nat.le_of_ble_eq_true rfl) ?_
    refine X.iload_n dX5_noTake_0 rfl ?_
    refine X.iload_n dX5_noTake_1 rfl ?_
    refine X.cS2i (k' := kX5_takes) dX5_noTake_2 v_X5_takes wm_X5_106 wt_X5_takes ⟨Nat.le_of_ble_eq_true rfl, Nat.le_of_ble_eq_true rfl⟩ n_X5_takes (Nat.le_of_ble_eq_true rfl) ?_
    refine m_takes hk ho ?_
    refine ⟨_, rfl, ?_⟩
    refine X.if_eq_t (tgt := 12) dX5_noTake_5 (by decide) ((by rw [if_neg ht])) ?_
    refine X.iconst (v := 2) dX5_noTake_12 (by decide) ?_
    refine X.ret dX5_noTake_13 ⟨trivial, ?_⟩
    unfold noTakeM at hq
    rw [if_neg ht] at hq
    exact hq
end
section
/-! the reference: writing, passing (laid by wip/whole/mkmodel4.py) -/
def noPassM (μ : xM) (c : Nat) (i : Int32) (d : Nat) (j : Int32) : Nat := if noPlaceM μ c i = 0 then noWriteM μ d j (cellKindM μ (tp μ c) (ix i)) else noPlaceM μ c i
def passM (μ : xM) (c : Nat) (i : Int32) (d : Nat) (j : Int32) : xM := if noPlaceM μ c i = 0 then writesM μ d j (cellKindM μ (tp μ c) (ix i)) (cv μ (tp μ c) (ix i)) else μ
def noPlainM (μ : xM) (c : Nat) (i : Int32) : Nat := if noTapeM μ c = 0 then (if kd μ (tp μ c) < 8 then noPlaceM μ c i else 2) else noTapeM μ c
theorem noWrite_0 {μ : xM} {c : Nat} {i : Int32} {K : Nat} (h : noWriteM μ c i K = 0) : noPlaceM μ c i = 0 ∧ takesM (kd μ (tp μ c)) K = true := by
  unfold noWriteM at h
  by_cases h0 : noTapeM μ c = 0
  · rw [if_pos h0] at h
    by_cases h1 : kd μ (tp μ c) < 8 ∧ K = 11
    · rw [if_pos h1] at h; cases h
    · rw [if_neg h1] at h
      by_cases h2 : noPlaceM μ c i = 0
      · rw [if_pos h2] at h
        unfold noTakeM at h
        by_cases h3 : takesM (kd μ (tp μ c)) K = true
        · exact ⟨h2, h3⟩
        · rw [if_neg h3] at h; cases h
      · rw [if_neg h2] at h; exact absurd h h2
  · rw [if_neg h0] at h; exact absurd h h0
theorem noPass_le (μ : xM) (c : Nat) (i : Int32) (d : Nat) (j : Int32) : noPassM μ c i d j < 6 := by
  unfold noPassM
  split
  · exact noWrite_le _ _ _ _
  · exact noPlace_le _ _ _
theorem noPlain_le (μ : xM) (c : Nat) (i : Int32) : noPlainM μ c i < 6 := by
  unfold noPlainM
  have := noTapeM_le μ c
  have := noPlace_le μ c i
  split
  · split <;> omega
  · omega
set_option maxRecDepth 100000 in
set_option maxHeartbeats 4000000 in
theorem m_noWrite1 {c K : Nat} {i : Int32} {μ : xM} {Q : Option Value → xM → Prop} (hM : ShM μ) (hw : WFt μ) (hc : c < 16) (hK : K ≤ 12) (h0 : ¬ noTapeM μ c = 0) (hq : Q (some (.int (nI (noWriteM μ c i K)))) μ) : Mt kX5_noWrite [.ref 44, .int (nI c), .int i, .int (nI K)] μ Q := by
  refine Mt.enter rfl (Nat.le_of_ble_eq_true rfl) ?_
  refine X.aload_n dX5_noWrite_0 rfl ?_
  refine X.iload_n dX5_noWrite_1 rfl ?_
  refine X.cV1i (k' := kX5_noTape) dX5_noWrite_2 (hM.1 44 (by decide) (by decide)) ⟨by decide, rfl⟩ v_X5_noTape wm_X5_102 wi_X5_noTape ws_X5_noTape ⟨Nat.le_of_ble_eq_true rfl, Nat.le_of_ble_eq_true rfl⟩ n_X5_noTape (Nat.le_of_ble_eq_true rfl) ?_
  refine m_noTape hM hc ?_
  refine ⟨_, rfl, ?_⟩
  refine X.istore dX5_noWrite_5 (Nat.le_of_ble_eq_true rfl) ?_
  refine X.iload dX5_noWrite_7 rfl ?_
  refine X.if_le_f (tgt := 15) dX5_noWrite_9 (by decide) (fun q => h0 (nI_le0 q (by have := noTapeM_le μ c; omega))) ?_
  refine X.iload dX5_noWrite_12 rfl ?_
  refine X.ret dX5_noWrite_14 ⟨trivial, ?_⟩
  unfold noWriteM at hq
  rw [if_neg h0] at hq
  exact hq
set_option maxRecDepth 100000 in
set_option maxHeartbeats 4000000 in
theorem m_noWrite2 {c K : Nat} {i : Int32} {μ : xM} {Q : Option Value → xM → Prop} (hM : ShM μ) (hw : WFt μ) (hc : c < 16) (hK : K ≤ 12) (h0 : noTapeM μ c = 0) (h1 : kd μ (tp μ c) < 8 ∧ K = 11) (hq : Q (some (.int (nI (noWriteM μ c i K)))) μ) : Mt kX5_noWrite [.ref 44, .int (nI c), .int i, .int (nI K)] μ Q := by
  obtain ⟨ht, et⟩ := hw.1 c hc h0
  obtain ⟨⟨ek, lk⟩, es, ls⟩ := hw.2.1 _ ht
  have h8 := h1.1
  refine Mt.enter rfl (Nat.le_of_ble_eq_true rfl) ?_
  refine X.aload_n dX5_noWrite_0 rfl ?_
  refine X.iload_n dX5_noWrite_1 rfl ?_
  refine X.cV1i (k' := kX5_noTape) dX5_noWrite_2 (hM.1 44 (by decide) (by decide)) ⟨by decide, rfl⟩ v_X5_noTape wm_X5_102 wi_X5_noTape ws_X5_noTape ⟨Nat.le_of_ble_eq_true rfl, Nat.le_of_ble_eq_true rfl⟩ n_X5_noTape (Nat.le_of_ble_eq_true rfl) ?_
  refine m_noTape hM hc ?_
  refine ⟨_, rfl, ?_⟩
  refine X.istore dX5_noWrite_5 (Nat.le_of_ble_eq_true rfl) ?_
  refine X.iload dX5_noWrite_7 rfl ?_
  refine X.if_le_t (tgt := 15) dX5_noWrite_9 (by decide) ((by rw [h0]; decide)) ?_
  refine X.aload_n dX5_noWrite_15 rfl ?_
  refine X.iload_n dX5_noWrite_16 rfl ?_
  refine X.cV1i (k' := kX5_kindOf) dX5_noWrite_17 (hM.1 44 (by decide) (by decide)) ⟨by decide, rfl⟩ v_X5_kindOf wm_X5_110 wi_X5_kindOf ws_X5_kindOf ⟨Nat.le_of_ble_eq_true rfl, Nat.le_of_ble_eq_true rfl⟩ n_X5_kindOf (Nat.le_of_ble_eq_true rfl) ?_
  refine m_kindOf hM hw hc h0 ?_
  refine ⟨_, rfl, ?_⟩
  refine X.bipush (v := 8) dX5_noWrite_20 (by decide) ?_
  refine X.icmp_ge_f (tgt := 33) dX5_noWrite_22 (by decide) (nI_ge (a := kd μ (tp μ c)) (b := 8) h8 (by decide)) ?_
  refine X.iload_n dX5_noWrite_25 rfl ?_
  refine X.bipush (v := 11) dX5_noWrite_26 (by decide) ?_
  refine X.icmp_ne_f (tgt := 33) dX5_noWrite_28 (by decide) ((by rw [h1.2]; rfl)) ?_
  refine X.iconst (v := 2) dX5_noWrite_31 (by decide) ?_
  refine X.ret dX5_noWrite_32 ⟨trivial, ?_⟩
  unfold noWriteM at hq
  rw [if_pos h0, if_pos h1] at hq
  exact hq
set_option maxRecDepth 100000 in
set_option maxHeartbeats 4000000 in
theorem m_noWrite3 {c K : Nat} {i : Int32} {μ : xM} {Q : Option Value → xM → Prop} (hM : ShM μ) (hw : WFt μ) (hc : c < 16) (hK : K ≤ 12) (h0 : noTapeM μ c = 0) (h1 : ¬ (kd μ (tp μ c) < 8 ∧ K = 11)) (h8 : kd μ (tp μ c) < 8) (hq : Q (some (.int (nI (noWriteM μ c i K)))) μ) : Mt kX5_noWrite [.ref 44, .int (nI c), .int i, .int (nI K)] μ Q := by
  obtain ⟨ht, et⟩ := hw.1 c hc h0
  obtain ⟨⟨ek, lk⟩, es, ls⟩ := hw.2.1 _ ht
  refine Mt.enter rfl (Nat.le_of_ble_eq_true rfl) ?_
  refine X.aload_n dX5_noWrite_0 rfl ?_
  refine X.iload_n dX5_noWrite_1 rfl ?_
  refine X.cV1i (k' := kX5_noTape) dX5_noWrite_2 (hM.1 44 (by decide) (by decide)) ⟨by decide, rfl⟩ v_X5_noTape wm_X5_102 wi_X5_noTape ws_X5_noTape ⟨Nat.le_of_ble_eq_true rfl, Nat.le_of_ble_eq_true rfl⟩ n_X5_noTape (Nat.le_of_ble_eq_true rfl) ?_
  refine m_noTape hM hc ?_
  refine ⟨_, rfl, ?_⟩
  refine X.istore dX5_noWrite_5 (Nat.le_of_ble_eq_true rfl) ?_
  refine X.iload dX5_noWrite_7 rfl ?_
  refine X.if_le_t (tgt := 15) dX5_noWrite_9 (by decide) ((by rw [h0]; decide)) ?_
  refine X.aload_n dX5_noWrite_15 rfl ?_
  refine X.iload_n dX5_noWrite_16 rfl ?_
  refine X.cV1i (k' := kX5_kindOf) dX5_noWrite_17 (hM.1 44 (by decide) (by decide)) ⟨by decide, rfl⟩ v_X5_kindOf wm_X5_110 wi_X5_kindOf ws_X5_kindOf ⟨Nat.le_of_ble_eq_true rfl, Nat.le_of_ble_eq_true rfl⟩ n_X5_kindOf (Nat.le_of_ble_eq_true rfl) ?_
  refine m_kindOf hM hw hc h0 ?_
  refine ⟨_, rfl, ?_⟩
  refine X.bipush (v := 8) dX5_noWrite_20 (by decide) ?_
  refine X.icmp_ge_f (tgt := 33) dX5_noWrite_22 (by decide) (nI_ge (a := kd μ (tp μ c)) (b := 8) h8 (by decide)) ?_
  refine X.iload_n dX5_noWrite_25 rfl ?_
  refine X.bipush (v := 11) dX5_noWrite_26 (by decide) ?_
  refine X.icmp_ne_t (tgt := 33) dX5_noWrite_28 (by decide) (nI_neq (a := K) (b := 11) (fun e => h1 ⟨h8, e⟩) (by omega) (by decide)) ?_
  refine X.aload_n dX5_noWrite_33 rfl ?_
  refine X.iload_n dX5_noWrite_34 rfl ?_
  refine X.iload_n dX5_noWrite_35 rfl ?_
  refine X.cV2i (k' := kX5_noPlace) dX5_noWrite_36 (hM.1 44 (by decide) (by decide)) ⟨by decide, rfl⟩ v_X5_noPlace wm_X5_113 wi_X5_noPlace ws_X5_noPlace ⟨Nat.le_of_ble_eq_true rfl, Nat.le_of_ble_eq_true rfl⟩ n_X5_noPlace (Nat.le_of_ble_eq_true rfl) ?_
  refine m_noPlace hM hw hc ?_
  refine ⟨_, rfl, ?_⟩
  refine X.istore dX5_noWrite_39 (Nat.le_of_ble_eq_true rfl) ?_
  refine X.iload dX5_noWrite_41 rfl ?_
  refine X.if_le (tgt := 51) dX5_noWrite_43 (by decide) (fun c43 => ?_) (fun c43 => ?_)
  · refine X.aload_n dX5_noWrite_51 rfl ?_
    refine X.iload_n dX5_noWrite_52 rfl ?_
    refine X.cV1i (k' := kX5_kindOf) dX5_noWrite_53 (hM.1 44 (by decide) (by decide)) ⟨by decide, rfl⟩ v_X5_kindOf wm_X5_110 wi_X5_kindOf ws_X5_kindOf ⟨Nat.le_of_ble_eq_true rfl, Nat.le_of_ble_eq_true rfl⟩ n_X5_kindOf (Nat.le_of_ble_eq_true rfl) ?_
    refine m_kindOf hM hw hc h0 ?_
    refine ⟨_, rfl, ?_⟩
    refine X.iload_n dX5_noWrite_56 rfl ?_
    refine X.cS2i (k' := kX5_noTake) dX5_noWrite_57 v_X5_noTake wm_X5_117 wt_X5_noTake ⟨Nat.le_of_ble_eq_true rfl, Nat.le_of_ble_eq_true rfl⟩ n_X5_noTake (Nat.le_of_ble_eq_true rfl) ?_
    refine m_noTake lk hK ?_
    refine ⟨_, rfl, ?_⟩
    refine X.ret dX5_noWrite_60 ⟨trivial, ?_⟩
    unfold noWriteM at hq
    rw [if_pos h0, if_neg h1] at hq
    first
      | (rw [if_neg (fun e => c43 (by rw [e]; decide))] at hq; exact hq)
      | (rw [if_pos (nI_le0 c43 (by have := noPlace_le μ c i; omega))] at hq; exact hq)
  · refine X.iload dX5_noWrite_46 rfl ?_
    refine X.goto (tgt := 60) dX5_noWrite_48 (by decide) ?_
    refine X.ret dX5_noWrite_60 ⟨trivial, ?_⟩
    unfold noWriteM at hq
    rw [if_pos h0, if_neg h1] at hq
    first
      | (rw [if_neg (fun e => c43 (by rw [e]; decide))] at hq; exact hq)
      | (rw [if_pos (nI_le0 c43 (by have := noPlace_le μ c i; omega))] at hq; exact hq)
set_option maxRecDepth 100000 in
set_option maxHeartbeats 4000000 in
theorem m_noWrite4 {c K : Nat} {i : Int32} {μ : xM} {Q : Option Value → xM → Prop} (hM : ShM μ) (hw : WFt μ) (hc : c < 16) (hK : K ≤ 12) (h0 : noTapeM μ c = 0) (h1 : ¬ (kd μ (tp μ c) < 8 ∧ K = 11)) (h8 : ¬ kd μ (tp μ c) < 8) (hq : Q (some (.int (nI (noWriteM μ c i K)))) μ) : Mt kX5_noWrite [.ref 44, .int (nI c), .int i, .int (nI K)] μ Q := by
  obtain ⟨ht, et⟩ := hw.1 c hc h0
  obtain ⟨⟨ek, lk⟩, es, ls⟩ := hw.2.1 _ ht
  refine Mt.enter rfl (Nat.le_of_ble_eq_true rfl) ?_
  refine X.aload_n dX5_noWrite_0 rfl ?_
  refine X.iload_n dX5_noWrite_1 rfl ?_
  refine X.cV1i (k' := kX5_noTape) dX5_noWrite_2 (hM.1 44 (by decide) (by decide)) ⟨by decide, rfl⟩ v_X5_noTape wm_X5_102 wi_X5_noTape ws_X5_noTape ⟨Nat.le_of_ble_eq_true rfl, Nat.le_of_ble_eq_true rfl⟩ n_X5_noTape (Nat.le_of_ble_eq_true rfl) ?_
  refine m_noTape hM hc ?_
  refine ⟨_, rfl, ?_⟩
  refine X.istore dX5_noWrite_5 (Nat.le_of_ble_eq_true rfl) ?_
  refine X.iload dX5_noWrite_7 rfl ?_
  refine X.if_le_t (tgt := 15) dX5_noWrite_9 (by decide) ((by rw [h0]; decide)) ?_
  refine X.aload_n dX5_noWrite_15 rfl ?_
  refine X.iload_n dX5_noWrite_16 rfl ?_
  refine X.cV1i (k' := kX5_kindOf) dX5_noWrite_17 (hM.1 44 (by decide) (by decide)) ⟨by decide, rfl⟩ v_X5_kindOf wm_X5_110 wi_X5_kindOf ws_X5_kindOf ⟨Nat.le_of_ble_eq_true rfl, Nat.le_of_ble_eq_true rfl⟩ n_X5_kindOf (Nat.le_of_ble_eq_true rfl) ?_
  refine m_kindOf hM hw hc h0 ?_
  refine ⟨_, rfl, ?_⟩
  refine X.bipush (v := 8) dX5_noWrite_20 (by decide) ?_
  refine X.icmp_ge_t (tgt := 33) dX5_noWrite_22 (by decide) (nI_le (a := 8) (b := kd μ (tp μ c)) (by omega) (by omega)) ?_
  refine X.aload_n dX5_noWrite_33 rfl ?_
  refine X.iload_n dX5_noWrite_34 rfl ?_
  refine X.iload_n dX5_noWrite_35 rfl ?_
  refine X.cV2i (k' := kX5_noPlace) dX5_noWrite_36 (hM.1 44 (by decide) (by decide)) ⟨by decide, rfl⟩ v_X5_noPlace wm_X5_113 wi_X5_noPlace ws_X5_noPlace ⟨Nat.le_of_ble_eq_true rfl, Nat.le_of_ble_eq_true rfl⟩ n_X5_noPlace (Nat.le_of_ble_eq_true rfl) ?_
  refine m_noPlace hM hw hc ?_
  refine ⟨_, rfl, ?_⟩
  refine X.istore dX5_noWrite_39 (Nat.le_of_ble_eq_true rfl) ?_
  refine X.iload dX5_noWrite_41 rfl ?_
  refine X.if_le (tgt := 51) dX5_noWrite_43 (by decide) (fun c43 => ?_) (fun c43 => ?_)
  · refine X.aload_n dX5_noWrite_51 rfl ?_
    refine X.iload_n dX5_noWrite_52 rfl ?_
    refine X.cV1i (k' := kX5_kindOf) dX5_noWrite_53 (hM.1 44 (by decide) (by decide)) ⟨by decide, rfl⟩ v_X5_kindOf wm_X5_110 wi_X5_kindOf ws_X5_kindOf ⟨Nat.le_of_ble_eq_true rfl, Nat.le_of_ble_eq_true rfl⟩ n_X5_kindOf (Nat.le_of_ble_eq_true rfl) ?_
    refine m_kindOf hM hw hc h0 ?_
    refine ⟨_, rfl, ?_⟩
    refine X.iload_n dX5_noWrite_56 rfl ?_
    refine X.cS2i (k' := kX5_noTake) dX5_noWrite_57 v_X5_noTake wm_X5_117 wt_X5_noTake ⟨Nat.le_of_ble_eq_true rfl, Nat.le_of_ble_eq_true rfl⟩ n_X5_noTake (Nat.le_of_ble_eq_true rfl) ?_
    refine m_noTake lk hK ?_
    refine ⟨_, rfl, ?_⟩
    refine X.ret dX5_noWrite_60 ⟨trivial, ?_⟩
    unfold noWriteM at hq
    rw [if_pos h0, if_neg h1] at hq
    first
      | (rw [if_neg (fun e => c43 (by rw [e]; decide))] at hq; exact hq)
      | (rw [if_pos (nI_le0 c43 (by have := noPlace_le μ c i; omega))] at hq; exact hq)
  · refine X.iload dX5_noWrite_46 rfl ?_
    refine X.goto (tgt := 60) dX5_noWrite_48 (by decide) ?_
    refine X.ret dX5_noWrite_60 ⟨trivial, ?_⟩
    unfold noWriteM at hq
    rw [if_pos h0, if_neg h1] at hq
    first
      | (rw [if_neg (fun e => c43 (by rw [e]; decide))] at hq; exact hq)
      | (rw [if_pos (nI_le0 c43 (by have := noPlace_le μ c i; omega))] at hq; exact hq)
theorem m_noWrite {c K : Nat} {i : Int32} {μ : xM} {Q : Option Value → xM → Prop} (hM : ShM μ) (hw : WFt μ) (hc : c < 16) (hK : K ≤ 12) (hq : Q (some (.int (nI (noWriteM μ c i K)))) μ) : Mt kX5_noWrite [.ref 44, .int (nI c), .int i, .int (nI K)] μ Q := by
  by_cases h0 : noTapeM μ c = 0
  · by_cases h1 : kd μ (tp μ c) < 8 ∧ K = 11
    · exact m_noWrite2 hM hw hc hK h0 h1 hq
    · by_cases h8 : kd μ (tp μ c) < 8
      · exact m_noWrite3 hM hw hc hK h0 h1 h8 hq
      · exact m_noWrite4 hM hw hc hK h0 h1 h8 hq
  · exact m_noWrite1 hM hw hc hK h0 hq
set_option maxRecDepth 100000 in
set_option maxHeartbeats 4000000 in
theorem m_writes {c K : Nat} {i : Int32} {v : Int64} {μ : xM} {Q : Option Value → xM → Prop} (hM : ShM μ) (hw : WFt μ) (hc : c < 16) (hK : K ≤ 12) (hq : Q (some (.int (nI (noWriteM μ c i K)))) (writesM μ c i K v)) : Mt kX5_writes [.ref 44, .int (nI c), .int i, .int (nI K), .long v] μ Q := by
  by_cases hz : noWriteM μ c i K = 0
  · obtain ⟨hp, -⟩ := noWrite_0 hz
    obtain ⟨h0, hr, ei, hi⟩ := noPlace_0 hp
    obtain ⟨ht, et⟩ := hw.1 c hc h0
    obtain ⟨⟨ek, lk⟩, es, ls⟩ := hw.2.1 _ ht
    unfold writesM at hq
    rw [if_pos hz] at hq
    generalize hj : ix i = j at ei hi hr hq
    subst ei
    refine Mt.enter rfl (Nat.le_of_ble_eq_true rfl) ?_
    refine X.aload_n dX5_writes_0 rfl ?_
    refine X.iload_n dX5_writes_1 rfl ?_
    refine X.iload_n dX5_writes_2 rfl ?_
    refine X.iload_n dX5_writes_3 rfl ?_
    refine X.cV3i (k' := kX5_noWrite) dX5_writes_4 (hM.1 44 (by decide) (by decide)) ⟨by decide, rfl⟩ v_X5_noWrite wm_X5_120 wi_X5_noWrite ws_X5_noWrite ⟨Nat.le_of_ble_eq_true rfl, Nat.le_of_ble_eq_true rfl⟩ n_X5_noWrite (Nat.le_of_ble_eq_true rfl) ?_
    refine m_noWrite hM hw hc hK ?_
    refine ⟨_, rfl, ?_⟩
    refine X.istore dX5_writes_7 (Nat.le_of_ble_eq_true rfl) ?_
    refine X.iload dX5_writes_9 rfl ?_
    refine X.if_ne_f (tgt := 35) dX5_writes_11 (by decide) ((by rw [hz]; rfl)) ?_
    refine X.aload_n dX5_writes_14 rfl ?_
    refine X.getR (b := 48) (kf := 3) dX5_writes_15 (hM.1 44 (by decide) (by decide)) (by decide) (by decide) rfl wf_X5_20 (hM.2 3 (by decide)) ?_
    refine X.aload_n dX5_writes_18 rfl ?_
    refine X.iload_n dX5_writes_19 rfl ?_
    refine X.iload_n dX5_writes_20 rfl ?_
    refine X.cV2i (k' := kX5_at) dX5_writes_21 (hM.1 44 (by decide) (by decide)) ⟨by decide, rfl⟩ v_X5_at wm_X5_124 wi_X5_at ws_X5_at ⟨Nat.le_of_ble_eq_true rfl, Nat.le_of_ble_eq_true rfl⟩ n_X5_at (Nat.le_of_ble_eq_true rfl) ?_
    refine m_at hM hw hc h0 ?_
    refine ⟨_, rfl, ?_⟩
    refine X.aload_n dX5_writes_24 rfl ?_
    refine X.iload_n dX5_writes_25 rfl ?_
    refine X.cV1i (k' := kX5_kindOf) dX5_writes_26 (hM.1 44 (by decide) (by decide)) ⟨by decide, rfl⟩ v_X5_kindOf wm_X5_110 wi_X5_kindOf ws_X5_kindOf ⟨Nat.le_of_ble_eq_true rfl, Nat.le_of_ble_eq_true rfl⟩ n_X5_kindOf (Nat.le_of_ble_eq_true rfl) ?_
    refine m_kindOf hM hw hc h0 ?_
    refine ⟨_, rfl, ?_⟩
    refine X.lload dX5_writes_29 rfl ?_
    refine X.cS2l (k' := kX5_kept) dX5_writes_31 v_X5_kept wm_X5_127 wt_X5_kept ⟨Nat.le_of_ble_eq_true rfl, Nat.le_of_ble_eq_true rfl⟩ n_X5_kept (Nat.le_of_ble_eq_true rfl) ?_
    refine m_kept lk ?_
    refine ⟨_, rfl, ?_⟩
    refine X.last dX5_writes_34 (hM.1 48 (by decide) (by decide)) (rfl) (cell_in ht (Nat.lt_of_lt_of_le hi ls)) (by decide) ?_
    refine X.iload dX5_writes_35 rfl ?_
    refine X.ret dX5_writes_37 ⟨trivial, ?_⟩
    exact hq
  · unfold writesM at hq
    rw [if_neg hz] at hq
    refine Mt.enter rfl (Nat.le_of_ble_eq_true rfl) ?_
    refine X.aload_n dX5_writes_0 rfl ?_
    refine X.iload_n dX5_writes_1 rfl ?_
    refine X.iload_n dX5_writes_2 rfl ?_
    refine X.iload_n dX5_writes_3 rfl ?_
    refine X.cV3i (k' := kX5_noWrite) dX5_writes_4 (hM.1 44 (by decide) (by decide)) ⟨by decide, rfl⟩ v_X5_noWrite wm_X5_120 wi_X5_noWrite ws_X5_noWrite ⟨Nat.le_of_ble_eq_true rfl, Nat.le_of_ble_eq_true rfl⟩ n_X5_noWrite (Nat.le_of_ble_eq_true rfl) ?_
    refine m_noWrite hM hw hc hK ?_
    refine ⟨_, rfl, ?_⟩
    refine X.istore dX5_writes_7 (Nat.le_of_ble_eq_true rfl) ?_
    refine X.iload dX5_writes_9 rfl ?_
    refine X.if_ne_t (tgt := 35) dX5_writes_11 (by decide) (nI_neq (b := 0) hz (by have := noWrite_le μ c i K; omega) (by decide)) ?_
    refine X.iload dX5_writes_35 rfl ?_
    refine X.ret dX5_writes_37 ⟨trivial, ?_⟩
    exact hq
set_option maxRecDepth 100000 in
set_option maxHeartbeats 4000000 in
theorem m_passes {c d : Nat} {i j : Int32} {μ : xM} {Q : Option Value → xM → Prop} (hM : ShM μ) (hw : WFt μ) (hc : c < 16) (hd : d < 16) (hq : Q (some (.int (nI (noPassM μ c i d j)))) (passM μ c i d j)) : Mt kX5_passes [.ref 44, .int (nI c), .int i, .int (nI d), .int j] μ Q := by
  by_cases hz : noPlaceM μ c i = 0
  · obtain ⟨h0, hr, ei, hi⟩ := noPlace_0 hz
    obtain ⟨ht, et⟩ := hw.1 c hc h0
    obtain ⟨⟨ek, lk⟩, es, ls⟩ := hw.2.1 _ ht
    unfold noPassM passM at hq
    rw [if_pos hz, if_pos hz] at hq
    generalize hj : ix i = i0 at ei hi hr hq
    subst ei
    refine Mt.enter rfl (Nat.le_of_ble_eq_true rfl) ?_
    refine X.aload_n dX5_passes_0 rfl ?_
    refine X.iload_n dX5_passes_1 rfl ?_
    refine X.iload_n dX5_passes_2 rfl ?_
    refine X.cV2i (k' := kX5_noPlace) dX5_passes_3 (hM.1 44 (by decide) (by decide)) ⟨by decide, rfl⟩ v_X5_noPlace wm_X5_113 wi_X5_noPlace ws_X5_noPlace ⟨Nat.le_of_ble_eq_true rfl, Nat.le_of_ble_eq_true rfl⟩ n_X5_noPlace (Nat.le_of_ble_eq_true rfl) ?_
    refine m_noPlace hM hw hc ?_
    refine ⟨_, rfl, ?_⟩
    refine X.istore dX5_passes_6 (Nat.le_of_ble_eq_true rfl) ?_
    refine X.iload dX5_passes_8 rfl ?_
    refine X.if_le_t (tgt := 18) dX5_passes_10 (by decide) ((by rw [hz]; decide)) ?_
    refine X.aload_n dX5_passes_18 rfl ?_
    refine X.iload_n dX5_passes_19 rfl ?_
    refine X.iload dX5_passes_20 rfl ?_
    refine X.aload_n dX5_passes_22 rfl ?_
    refine X.aload_n dX5_passes_23 rfl ?_
    refine X.getR (b := 50) (kf := 6) dX5_passes_24 (hM.1 44 (by decide) (by decide)) (by decide) (by decide) rfl wf_X5_27 (hM.2 6 (by decide)) ?_
    refine X.iload_n dX5_passes_27 rfl ?_
    refine X.iald dX5_passes_28 (hM.1 50 (by decide) (by decide)) (rfl) (hc) (by decide) ?_
    refine X.iload_n dX5_passes_29 rfl ?_
    refine X.cV2i (k' := kX5_cellKind) dX5_passes_30 (hM.1 44 (by decide) (by decide)) ⟨by decide, rfl⟩ v_X5_cellKind wm_X5_130 wi_X5_cellKind ws_X5_cellKind ⟨Nat.le_of_ble_eq_true rfl, Nat.le_of_ble_eq_true rfl⟩ n_X5_cellKind (Nat.le_of_ble_eq_true rfl) ?_
    rw [et]
    refine m_cellKind hM hw ht hi ?_
    refine ⟨_, rfl, ?_⟩
    refine X.aload_n dX5_passes_33 rfl ?_
    refine X.getR (b := 48) (kf := 3) dX5_passes_34 (hM.1 44 (by decide) (by decide)) (by decide) (by decide) rfl wf_X5_20 (hM.2 3 (by decide)) ?_
    refine X.aload_n dX5_passes_37 rfl ?_
    refine X.iload_n dX5_passes_38 rfl ?_
    refine X.iload_n dX5_passes_39 rfl ?_
    refine X.cV2i (k' := kX5_at) dX5_passes_40 (hM.1 44 (by decide) (by decide)) ⟨by decide, rfl⟩ v_X5_at wm_X5_124 wi_X5_at ws_X5_at ⟨Nat.le_of_ble_eq_true rfl, Nat.le_of_ble_eq_true rfl⟩ n_X5_at (Nat.le_of_ble_eq_true rfl) ?_
    refine m_at hM hw hc h0 ?_
    refine ⟨_, rfl, ?_⟩
    refine X.lald dX5_passes_43 (hM.1 48 (by decide) (by decide)) (rfl) (cell_in ht (Nat.lt_of_lt_of_le hi ls)) (by decide) ?_
    refine X.cV4i (k' := kX5_writes) dX5_passes_44 (hM.1 44 (by decide) (by decide)) ⟨by decide, rfl⟩ v_X5_writes wm_X5_133 wi_X5_writes ws_X5_writes ⟨Nat.le_of_ble_eq_true rfl, Nat.le_of_ble_eq_true rfl⟩ n_X5_writes (Nat.le_of_ble_eq_true rfl) ?_
    refine m_writes hM hw hd (Nat.le_trans cellKind_le (by decide)) ?_
    refine ⟨_, rfl, ?_⟩
    refine X.ret dX5_passes_47 ⟨trivial, ?_⟩
    exact hq
  · unfold noPassM passM at hq
    rw [if_neg hz, if_neg hz] at hq
    refine Mt.enter rfl (Nat.le_of_ble_eq_true rfl) ?_
    refine X.aload_n dX5_passes_0 rfl ?_
    refine X.iload_n dX5_passes_1 rfl ?_
    refine X.iload_n dX5_passes_2 rfl ?_
    refine X.cV2i (k' := kX5_noPlace) dX5_passes_3 (hM.1 44 (by decide) (by decide)) ⟨by decide, rfl⟩ v_X5_noPlace wm_X5_113 wi_X5_noPlace ws_X5_noPlace ⟨Nat.le_of_ble_eq_true rfl, Nat.le_of_ble_eq_true rfl⟩ n_X5_noPlace (Nat.le_of_ble_eq_true rfl) ?_
    refine m_noPlace hM hw hc ?_
    refine ⟨_, rfl, ?_⟩
    refine X.istore dX5_passes_6 (Nat.le_of_ble_eq_true rfl) ?_
    refine X.iload dX5_passes_8 rfl ?_
    refine X.if_le_f (tgt := 18) dX5_passes_10 (by decide) (fun q => hz (nI_le0 q (by have := noPlace_le μ c i; omega))) ?_
    refine X.iload dX5_passes_13 rfl ?_
    refine X.goto (tgt := 47) dX5_passes_15 (by decide) ?_
    refine X.ret dX5_passes_47 ⟨trivial, ?_⟩
    exact hq
set_option maxRecDepth 100000 in
set_option maxHeartbeats 4000000 in
theorem m_noPlain1 {c : Nat} {i : Int32} {μ : xM} {Q : Option Value → xM → Prop} (hM : ShM μ) (hw : WFt μ) (hc : c < 16) (h0 : noTapeM μ c = 0) (h8 : kd μ (tp μ c) < 8) (hq : Q (some (.int (nI (noPlainM μ c i)))) μ) : Mt kX5_noPlain [.ref 44, .int (nI c), .int i] μ Q := by
  obtain ⟨ht, et⟩ := hw.1 c hc h0
  obtain ⟨⟨ek, lk⟩, es, ls⟩ := hw.2.1 _ ht
  refine Mt.enter rfl (Nat.le_of_ble_eq_true rfl) ?_
  refine X.aload_n dX5_noPlain_0 rfl ?_
  refine X.iload_n dX5_noPlain_1 rfl ?_
  refine X.cV1i (k' := kX5_noTape) dX5_noPlain_2 (hM.1 44 (by decide) (by decide)) ⟨by decide, rfl⟩ v_X5_noTape wm_X5_102 wi_X5_noTape ws_X5_noTape ⟨Nat.le_of_ble_eq_true rfl, Nat.le_of_ble_eq_true rfl⟩ n_X5_noTape (Nat.le_of_ble_eq_true rfl) ?_
  refine m_noTape hM hc ?_
  refine ⟨_, rfl, ?_⟩
  refine X.istore_n dX5_noPlain_5 (Nat.le_of_ble_eq_true rfl) ?_
  refine X.iload_n dX5_noPlain_6 rfl ?_
  refine X.if_ne_f (tgt := 22) dX5_noPlain_7 (by decide) ((by rw [h0]; rfl)) ?_
  refine X.aload_n dX5_noPlain_10 rfl ?_
  refine X.iload_n dX5_noPlain_11 rfl ?_
  refine X.cV1i (k' := kX5_kindOf) dX5_noPlain_12 (hM.1 44 (by decide) (by decide)) ⟨by decide, rfl⟩ v_X5_kindOf wm_X5_110 wi_X5_kindOf ws_X5_kindOf ⟨Nat.le_of_ble_eq_true rfl, Nat.le_of_ble_eq_true rfl⟩ n_X5_kindOf (Nat.le_of_ble_eq_true rfl) ?_
  refine m_kindOf hM hw hc h0 ?_
  refine ⟨_, rfl, ?_⟩
  refine X.bipush (v := 7) dX5_noPlain_15 (by decide) ?_
  refine X.icmp_le_t (tgt := 22) dX5_noPlain_17 (by decide) (nI_le (a := kd μ (tp μ c)) (b := 7) (by omega) (by decide)) ?_
  refine X.iload_n dX5_noPlain_22 rfl ?_
  refine X.if_le_t (tgt := 30) dX5_noPlain_23 (by decide) ((by rw [h0]; decide)) ?_
  refine X.aload_n dX5_noPlain_30 rfl ?_
  refine X.iload_n dX5_noPlain_31 rfl ?_
  refine X.iload_n dX5_noPlain_32 rfl ?_
  refine X.cV2i (k' := kX5_noPlace) dX5_noPlain_33 (hM.1 44 (by decide) (by decide)) ⟨by decide, rfl⟩ v_X5_noPlace wm_X5_113 wi_X5_noPlace ws_X5_noPlace ⟨Nat.le_of_ble_eq_true rfl, Nat.le_of_ble_eq_true rfl⟩ n_X5_noPlace (Nat.le_of_ble_eq_true rfl) ?_
  refine m_noPlace hM hw hc ?_
  refine ⟨_, rfl, ?_⟩
  refine X.ret dX5_noPlain_36 ⟨trivial, ?_⟩
  unfold noPlainM at hq
  rw [if_pos h0, if_pos h8] at hq
  exact hq
set_option maxRecDepth 100000 in
set_option maxHeartbeats 4000000 in
theorem m_noPlain2 {c : Nat} {i : Int32} {μ : xM} {Q : Option Value → xM → Prop} (hM : ShM μ) (hw : WFt μ) (hc : c < 16) (h0 : noTapeM μ c = 0) (h8 : ¬ kd μ (tp μ c) < 8) (hq : Q (some (.int (nI (noPlainM μ c i)))) μ) : Mt kX5_noPlain [.ref 44, .int (nI c), .int i] μ Q := by
  obtain ⟨ht, et⟩ := hw.1 c hc h0
  obtain ⟨⟨ek, lk⟩, es, ls⟩ := hw.2.1 _ ht
  refine Mt.enter rfl (Nat.le_of_ble_eq_true rfl) ?_
  refine X.aload_n dX5_noPlain_0 rfl ?_
  refine X.iload_n dX5_noPlain_1 rfl ?_
  refine X.cV1i (k' := kX5_noTape) dX5_noPlain_2 (hM.1 44 (by decide) (by decide)) ⟨by decide, rfl⟩ v_X5_noTape wm_X5_102 wi_X5_noTape ws_X5_noTape ⟨Nat.le_of_ble_eq_true rfl, Nat.le_of_ble_eq_true rfl⟩ n_X5_noTape (Nat.le_of_ble_eq_true rfl) ?_
  refine m_noTape hM hc ?_
  refine ⟨_, rfl, ?_⟩
  refine X.istore_n dX5_noPlain_5 (Nat.le_of_ble_eq_true rfl) ?_
  refine X.iload_n dX5_noPlain_6 rfl ?_
  refine X.if_ne_f (tgt := 22) dX5_noPlain_7 (by decide) ((by rw [h0]; rfl)) ?_
  refine X.aload_n dX5_noPlain_10 rfl ?_
  refine X.iload_n dX5_noPlain_11 rfl ?_
  refine X.cV1i (k' := kX5_kindOf) dX5_noPlain_12 (hM.1 44 (by decide) (by decide)) ⟨by decide, rfl⟩ v_X5_kindOf wm_X5_110 wi_X5_kindOf ws_X5_kindOf ⟨Nat.le_of_ble_eq_true rfl, Nat.le_of_ble_eq_true rfl⟩ n_X5_kindOf (Nat.le_of_ble_eq_true rfl) ?_
  refine m_kindOf hM hw hc h0 ?_
  refine ⟨_, rfl, ?_⟩
  refine X.bipush (v := 7) dX5_noPlain_15 (by decide) ?_
  refine X.icmp_le_f (tgt := 22) dX5_noPlain_17 (by decide) (nI_ge (a := 7) (b := kd μ (tp μ c)) (by omega) (by omega)) ?_
  refine X.iconst (v := 2) dX5_noPlain_20 (by decide) ?_
  refine X.istore_n dX5_noPlain_21 (Nat.le_of_ble_eq_true rfl) ?_
  refine X.iload_n dX5_noPlain_22 rfl ?_
  refine X.if_le_f (tgt := 30) dX5_noPlain_23 (by decide) ((by decide)) ?_
  refine X.iload_n dX5_noPlain_26 rfl ?_
  refine X.goto (tgt := 36) dX5_noPlain_27 (by decide) ?_
  refine X.ret dX5_noPlain_36 ⟨trivial, ?_⟩
  unfold noPlainM at hq
  rw [if_pos h0, if_neg h8] at hq
  exact hq
set_option maxRecDepth 100000 in
set_option maxHeartbeats 4000000 in
theorem m_noPlain3 {c : Nat} {i : Int32} {μ : xM} {Q : Option Value → xM → Prop} (hM : ShM μ) (hw : WFt μ) (hc : c < 16) (h0 : ¬ noTapeM μ c = 0) (hq : Q (some (.int (nI (noPlainM μ c i)))) μ) : Mt kX5_noPlain [.ref 44, .int (nI c), .int i] μ Q := by
  refine Mt.enter rfl (Nat.le_of_ble_eq_true rfl) ?_
  refine X.aload_n dX5_noPlain_0 rfl ?_
  refine X.iload_n dX5_noPlain_1 rfl ?_
  refine X.cV1i (k' := kX5_noTape) dX5_noPlain_2 (hM.1 44 (by decide) (by decide)) ⟨by decide, rfl⟩ v_X5_noTape wm_X5_102 wi_X5_noTape ws_X5_noTape ⟨Nat.le_of_ble_eq_true rfl, Nat.le_of_ble_eq_true rfl⟩ n_X5_noTape (Nat.le_of_ble_eq_true rfl) ?_
  refine m_noTape hM hc ?_
  refine ⟨_, rfl, ?_⟩
  refine X.istore_n dX5_noPlain_5 (Nat.le_of_ble_eq_true rfl) ?_
  refine X.iload_n dX5_noPlain_6 rfl ?_
  refine X.if_ne_t (tgt := 22) dX5_noPlain_7 (by decide) (nI_neq (b := 0) h0 (by have := noTapeM_le μ c; omega) (by decide)) ?_
  refine X.iload_n dX5_noPlain_22 rfl ?_
  refine X.if_le_f (tgt := 30) dX5_noPlain_23 (by decide) (fun q => h0 (nI_le0 q (by have := noTapeM_le μ c; omega))) ?_
  refine X.iload_n dX5_noPlain_26 rfl ?_
  refine X.goto (tgt := 36) dX5_noPlain_27 (by decide) ?_
  refine X.ret dX5_noPlain_36 ⟨trivial, ?_⟩
  unfold noPlainM at hq
  rw [if_neg h0] at hq
  exact hq
theorem m_noPlain {c : Nat} {i : Int32} {μ : xM} {Q : Option Value → xM → Prop} (hM : ShM μ) (hw : WFt μ) (hc : c < 16) (hq : Q (some (.int (nI (noPlainM μ c i)))) μ) : Mt kX5_noPlain [.ref 44, .int (nI c), .int i] μ Q := by
  by_cases h0 : noTapeM μ c = 0
  · by_cases h8 : kd μ (tp μ c) < 8
    · exact m_noPlain1 hM hw hc h0 h8 hq
    · exact m_noPlain2 hM hw hc h0 h8 hq
  · exact m_noPlain3 hM hw hc h0 hq
end
section
/-! the reference: a free tape, a new one (laid by wip/whole/mkmodel5.py) -/
def sA (μ : xM) (a : Nat) (u : Nat → Int32) : xM := (mT μ, fun b j => if b = a then u j else mI μ b j, mJ μ, mR μ, mN μ, mS μ)
theorem sA_sI (μ : xM) (a i : Nat) (u : Nat → Int32) (v : Int32) : sI (sA μ a u) a i v = sA μ a (upd u i v) := by
  show (mT μ, up2 (fun b j => if b = a then u j else mI μ b j) a i v, mJ μ, mR μ, mN μ, mS μ) = (mT μ, (fun b j => if b = a then upd u i v j else mI μ b j), mJ μ, mR μ, mN μ, mS μ)
  congr 2
  funext b j
  show (if b = a ∧ j = i then v else (if b = a then u j else mI μ b j)) = (if b = a then (if j = i then v else u j) else mI μ b j)
  by_cases h : b = a
  · by_cases h2 : j = i
    · rw [if_pos ⟨h, h2⟩, if_pos h, if_pos h2]
    · rw [if_neg (fun q => h2 q.2), if_pos h, if_pos h, if_neg h2]
  · rw [if_neg (fun q => h q.1), if_neg h, if_neg h]
theorem sA_self (μ : xM) (a : Nat) : sA μ a (mI μ a) = μ := by
  show (mT μ, (fun b j => if b = a then mI μ a j else mI μ b j), mJ μ, mR μ, mN μ, mS μ) = μ
  have e : (fun b j => if b = a then mI μ a j else mI μ b j) = mI μ := by
    funext b j
    by_cases h : b = a
    · rw [if_pos h, h]
    · rw [if_neg h]
  rw [e]
  rfl
/-- what a channel holds on to -/
def liveC (μ : xM) (c t : Nat) : Prop := noTapeM μ c = 0 ∧ (tp μ c = t ∨ (kd μ (tp μ c) = 10 ∧ ∃ k, k < sz μ (tp μ c) ∧ lx (cv μ (tp μ c) k) = t + 1))
def liveM (μ : xM) (t : Nat) : Prop := ∃ c, c < 16 ∧ liveC μ c t
theorem all_in : ∀ (n : Nat) (L : List Nat), (∀ t, t < n → t ∈ L) → n ≤ L.length
  | 0, _, _ => Nat.zero_le _
  | n + 1, L, h => by
    have h1 := all_in n (L.erase n) (fun t ht => (List.mem_erase_of_ne (by omega)).mpr (h t (by omega)))
    have h2 : n ∈ L := h n (by omega)
    rw [List.length_erase_of_mem h2] at h1
    have h3 := List.length_pos_of_mem h2
    omega
def liveL (μ : xM) (c : Nat) : List Nat := tp μ c :: (List.range 32).map (fun k => lx (cv μ (tp μ c) k) - 1)
theorem live_in {μ : xM} (hw : WFt μ) {t : Nat} (h : liveM μ t) : t ∈ (List.range 16).flatMap (liveL μ) := by
  obtain ⟨c, hc, h0, h1⟩ := h
  refine List.mem_flatMap.mpr ⟨c, List.mem_range.mpr hc, ?_⟩
  rcases h1 with rfl | ⟨-, k, hk, e⟩
  · exact List.mem_cons_self
  · obtain ⟨ht, -⟩ := hw.1 c hc h0
    obtain ⟨-, -, hs⟩ := hw.2.1 _ ht
    exact List.mem_cons_of_mem _ (List.mem_map.mpr ⟨k, List.mem_range.mpr (by omega), by omega⟩)
theorem live_len (μ : xM) : ((List.range 16).flatMap (liveL μ)).length = 528 := by
  have : ∀ n, ((List.range n).flatMap (liveL μ)).length = n * 33 := by
    intro n
    induction n with
    | zero => rfl
    | succ n ih =>
      rw [List.range_succ, List.flatMap_append, List.length_append, ih]
      simp [liveL]
      omega
  exact this 16
theorem some_free {μ : xM} (hw : WFt μ) : ∃ t, t < 560 ∧ ¬ liveM μ t ∧ ∀ j, j < t → liveM μ j := by
  have h : ∃ t, t < 560 ∧ ¬ liveM μ t := by
    apply Classical.byContradiction
    intro hn
    have := all_in 560 ((List.range 16).flatMap (liveL μ)) (fun t ht => live_in hw (Classical.byContradiction (fun q => hn ⟨t, ht, q⟩)))
    rw [live_len] at this
    omega
  obtain ⟨t, ⟨h1, h2⟩, h3⟩ := pk_least (fun t => t < 560 ∧ ¬ liveM μ t) h
  exact ⟨t, h1, h2, fun j hj => Classical.byContradiction (fun q => h3 j hj ⟨by omega, q⟩)⟩
noncomputable def freeM (μ : xM) : Nat := Classical.epsilon (fun t => t < 560 ∧ ¬ liveM μ t ∧ ∀ j, j < t → liveM μ j)
theorem freeM_ok {μ : xM} (hw : WFt μ) : freeM μ < 560 ∧ ¬ liveM μ (freeM μ) ∧ ∀ j, j < freeM μ → liveM μ j := Classical.epsilon_spec (some_free hw)
/-- the marks that stand for a set of tapes -/
def marks (u : Nat → Int32) (p : Nat → Prop) : Prop := ∀ t, t < 560 → (p t → u t = 1) ∧ (¬ p t → u t = 0)
theorem marks.to {u : Nat → Int32} {p q : Nat → Prop} (h : marks u p) (e : ∀ t, p t ↔ q t) : marks u q := fun t ht => ⟨fun x => (h t ht).1 ((e t).mpr x), fun x => (h t ht).2 (fun y => x ((e t).mp y))⟩
theorem marks.put {u : Nat → Int32} {p : Nat → Prop} (h : marks u p) (a : Nat) : marks (upd u a 1) (fun t => p t ∨ t = a) := by
  intro t ht
  unfold upd
  by_cases e : t = a
  · rw [if_pos e]
    exact ⟨fun _ => rfl, fun q => absurd (Or.inr e) q⟩
  · rw [if_neg e]
    exact ⟨fun q => (h t ht).1 (q.resolve_right e), fun q => (h t ht).2 (fun y => q (Or.inl y))⟩
theorem iN (i : Nat) : (some (Value.int (nI i + 1)) : Option Value) = some (Value.int (nI (i + 1))) := by rw [nI_1]
set_option maxRecDepth 100000 in
set_option maxHeartbeats 4000000 in
theorem ft1 {μ : xM} {Q : Option Value → xM → Prop} (hM : ShM μ) (K : ∀ u, (∀ t, t < 560 → u t = 0) → X kX5_freeTape none 22 (xl [(0, .ref 44)]) [] (sA μ 47 u) Q) : ∀ (n i : Nat) (u : Nat → Int32), i + n = 560 → (∀ t, t < i → u t = 0) → X kX5_freeTape none 2 (xl [(0, .ref 44), (1, .int (nI i))]) [] (sA μ 47 u) Q := by
  intro n
  induction n with
  | zero =>
    intro i u hi hu
    obtain rfl : i = 560 := by omega
    refine X.iload_n dX5_freeTape_2 rfl ?_
    refine X.sipush (v := 560) dX5_freeTape_3 (by decide) ?_
    refine X.icmp_ge_t (tgt := 22) dX5_freeTape_6 (by decide) (by decide) ?_
    exact X.at [(0, .ref 44)] ⟨rfl, trivial⟩ (K u (fun t ht => hu t (by omega)))
  | succ n ih =>
    intro i u hi hu
    refine X.iload_n dX5_freeTape_2 rfl ?_
    refine X.sipush (v := 560) dX5_freeTape_3 (by decide) ?_
    refine X.icmp_ge_f (tgt := 22) dX5_freeTape_6 (by decide) (nI_ge (a := i) (b := 560) (by omega) (by decide)) ?_
    refine X.aload_n dX5_freeTape_9 rfl ?_
    refine X.getR (b := 47) (kf := 2) dX5_freeTape_10 (hM.1 44 (by decide) (by decide)) (by decide) (by decide) rfl wf_X5_16 (hM.2 2 (by decide)) ?_
    refine X.iload_n dX5_freeTape_13 rfl ?_
    refine X.iconst (v := 0) dX5_freeTape_14 (by decide) ?_
    refine X.zast dX5_freeTape_15 (hM.1 47 (by decide) (by decide)) (rfl) (by omega) (by decide) (Or.inl rfl) ?_
    refine X.iinc1 dX5_freeTape_16 rfl (Nat.le_of_ble_eq_true rfl) ?_
    refine X.goto (tgt := 2) dX5_freeTape_19 (by decide) ?_
    rw [sA_sI]
    refine X.at [(0, .ref 44), (1, .int (nI (i + 1)))] ⟨rfl, iN i, trivial⟩ ?_
    refine ih (i + 1) _ (by omega) (fun t ht => ?_)
    unfold upd
    by_cases e : t = i
    · rw [if_pos e]
    · rw [if_neg e]; exact hu t (by omega)
set_option maxRecDepth 100000 in
set_option maxHeartbeats 4000000 in
theorem ft3 {μ : xM} {Q : Option Value → xM → Prop} (hM : ShM μ) (hw : WFt μ) {c t : Nat} (ht : t < 560) {p : Nat → Prop} (K : ∀ u, marks u (fun x => (p x ∨ x = t) ∨ (kd μ t = 10 ∧ ∃ k, k < sz μ t ∧ lx (cv μ t k) = x + 1)) → X kX5_freeTape none 106 (xl [(0, .ref 44), (1, .int (nI c))]) [] (sA μ 47 u) Q) : ∀ (n i : Nat) (u : Nat → Int32), i + n = sz μ t → marks u (fun x => (p x ∨ x = t) ∨ (kd μ t = 10 ∧ ∃ k, k < i ∧ lx (cv μ t k) = x + 1)) → X kX5_freeTape none 50 (xl [(0, .ref 44), (1, .int (nI c)), (2, .int (nI t)), (3, .int (nI i))]) [] (sA μ 47 u) Q := by
  obtain ⟨⟨ek, lk⟩, es, ls⟩ := hw.2.1 _ ht
  intro n
  induction n with
  | zero =>
    intro i u hi hu
    have ei : i = sz μ t := by omega
    refine X.iload_n dX5_freeTape_50 rfl ?_
    refine X.aload_n dX5_freeTape_51 rfl ?_
    refine X.getR (b := 46) (kf := 1) dX5_freeTape_52 (hM.1 44 (by decide) (by decide)) (by decide) (by decide) rfl wf_X5_13 (hM.2 1 (by decide)) ?_
    refine X.iload_n dX5_freeTape_55 rfl ?_
    refine X.iald dX5_freeTape_56 (hM.1 46 (by decide) (by decide)) (rfl) (ht) (by decide) ?_
    refine X.icmp_ge_t (tgt := 106) dX5_freeTape_57 (by decide) ((by show mI μ 46 t ≤ nI i; rw [es, ei]; exact nI_le (Nat.le_refl _) (by omega))) ?_
    exact X.at [(0, .ref 44), (1, .int (nI c))] ⟨rfl, rfl, trivial⟩ (K u (by rw [← ei]; exact hu))
  | succ n ih =>
    intro i u hi hu
    by_cases h10 : kd μ t = 10
    · obtain ⟨ew, lw, -⟩ := hw.2.2 t ht (by omega) i (by omega)
      have e9 : (mJ μ 48 (32 * t + i)).toInt32 - 1 = nI (lx (cv μ t i)) - 1 := by
        rw [show mJ μ 48 (32 * t + i) = lN (lx (cv μ t i)) from ew, lN_i]
      by_cases hz : lx (cv μ t i) = 0
      · refine X.iload_n dX5_freeTape_50 rfl ?_
        refine X.aload_n dX5_freeTape_51 rfl ?_
        refine X.getR (b := 46) (kf := 1) dX5_freeTape_52 (hM.1 44 (by decide) (by decide)) (by decide) (by decide) rfl wf_X5_13 (hM.2 1 (by decide)) ?_
        refine X.iload_n dX5_freeTape_55 rfl ?_
        refine X.iald dX5_freeTape_56 (hM.1 46 (by decide) (by decide)) (rfl) (ht) (by decide) ?_
        refine X.icmp_ge_f (tgt := 106) dX5_freeTape_57 (by decide) ((by show ¬ mI μ 46 t ≤ nI i; rw [es]; exact nI_ge (by omega) (by omega))) ?_
        refine X.aload_n dX5_freeTape_60 rfl ?_
        refine X.getR (b := 45) (kf := 0) dX5_freeTape_61 (hM.1 44 (by decide) (by decide)) (by decide) (by decide) rfl wf_X5_7 (hM.2 0 (by decide)) ?_
        refine X.iload_n dX5_freeTape_64 rfl ?_
        refine X.iald dX5_freeTape_65 (hM.1 45 (by decide) (by decide)) (rfl) (ht) (by decide) ?_
        refine X.bipush (v := 10) dX5_freeTape_66 (by decide) ?_
        refine X.icmp_ne_f (tgt := 106) dX5_freeTape_68 (by decide) ((by show mI μ 45 t = 10; rw [ek, h10]; rfl)) ?_
        refine X.aload_n dX5_freeTape_71 rfl ?_
        refine X.getR (b := 48) (kf := 3) dX5_freeTape_72 (hM.1 44 (by decide) (by decide)) (by decide) (by decide) rfl wf_X5_20 (hM.2 3 (by decide)) ?_
        refine X.bipush (v := 32) dX5_freeTape_75 (by decide) ?_
        refine X.iload_n dX5_freeTape_77 rfl ?_
        refine X.imul dX5_freeTape_78 ?_
        refine X.iload_n dX5_freeTape_79 rfl ?_
        refine X.iadd dX5_freeTape_80 ?_
        refine X.lald dX5_freeTape_81 (hM.1 48 (by decide) (by decide)) (at_eq2 t i) (cell_in ht (by omega)) (by decide) ?_
        refine X.l2i dX5_freeTape_82 ?_
        refine X.iconst (v := 1) dX5_freeTape_83 (by decide) ?_
        refine X.isub dX5_freeTape_84 ?_
        refine X.istore dX5_freeTape_85 (Nat.le_of_ble_eq_true rfl) ?_
        refine X.iload dX5_freeTape_87 rfl ?_
        refine X.if_lt_t (tgt := 100) dX5_freeTape_89 (by decide) ((by show (mJ μ 48 (32 * t + i)).toInt32 - 1 < 0; rw [e9, hz]; decide)) ?_
        refine X.iinc1 dX5_freeTape_100 rfl (Nat.le_of_ble_eq_true rfl) ?_
        refine X.goto (tgt := 50) dX5_freeTape_103 (by decide) ?_
        refine X.at [(0, .ref 44), (1, .int (nI c)), (2, .int (nI t)), (3, .int (nI (i + 1)))] ⟨rfl, rfl, rfl, iN i, trivial⟩ ?_
        refine ih (i + 1) _ (by omega) (hu.to (fun x => ?_))
        constructor
        · rintro (h | ⟨h, k, hk, e⟩)
          · exact Or.inl h
          · exact Or.inr ⟨h, k, by omega, e⟩
        · rintro (h | ⟨h, k, hk, e⟩)
          · exact Or.inl h
          · refine Or.inr ⟨h, k, ?_, e⟩
            by_cases q : k = i
            · rw [q, hz] at e; omega
            · omega
      · refine X.iload_n dX5_freeTape_50 rfl ?_
        refine X.aload_n dX5_freeTape_51 rfl ?_
        refine X.getR (b := 46) (kf := 1) dX5_freeTape_52 (hM.1 44 (by decide) (by decide)) (by decide) (by decide) rfl wf_X5_13 (hM.2 1 (by decide)) ?_
        refine X.iload_n dX5_freeTape_55 rfl ?_
        refine X.iald dX5_freeTape_56 (hM.1 46 (by decide) (by decide)) (rfl) (ht) (by decide) ?_
        refine X.icmp_ge_f (tgt := 106) dX5_freeTape_57 (by decide) ((by show ¬ mI μ 46 t ≤ nI i; rw [es]; exact nI_ge (by omega) (by omega))) ?_
        refine X.aload_n dX5_freeTape_60 rfl ?_
        refine X.getR (b := 45) (kf := 0) dX5_freeTape_61 (hM.1 44 (by decide) (by decide)) (by decide) (by decide) rfl wf_X5_7 (hM.2 0 (by decide)) ?_
        refine X.iload_n dX5_freeTape_64 rfl ?_
        refine X.iald dX5_freeTape_65 (hM.1 45 (by decide) (by decide)) (rfl) (ht) (by decide) ?_
        refine X.bipush (v := 10) dX5_freeTape_66 (by decide) ?_
        refine X.icmp_ne_f (tgt := 106) dX5_freeTape_68 (by decide) ((by show mI μ 45 t = 10; rw [ek, h10]; rfl)) ?_
        refine X.aload_n dX5_freeTape_71 rfl ?_
        refine X.getR (b := 48) (kf := 3) dX5_freeTape_72 (hM.1 44 (by decide) (by decide)) (by decide) (by decide) rfl wf_X5_20 (hM.2 3 (by decide)) ?_
        refine X.bipush (v := 32) dX5_freeTape_75 (by decide) ?_
        refine X.iload_n dX5_freeTape_77 rfl ?_
        refine X.imul dX5_freeTape_78 ?_
        refine X.iload_n dX5_freeTape_79 rfl ?_
        refine X.iadd dX5_freeTape_80 ?_
        refine X.lald dX5_freeTape_81 (hM.1 48 (by decide) (by decide)) (at_eq2 t i) (cell_in ht (by omega)) (by decide) ?_
        refine X.l2i dX5_freeTape_82 ?_
        refine X.iconst (v := 1) dX5_freeTape_83 (by decide) ?_
        refine X.isub dX5_freeTape_84 ?_
        refine X.istore dX5_freeTape_85 (Nat.le_of_ble_eq_true rfl) ?_
        refine X.iload dX5_freeTape_87 rfl ?_
        refine X.if_lt_f (tgt := 100) dX5_freeTape_89 (by decide) ((by show ¬ (mJ μ 48 (32 * t + i)).toInt32 - 1 < 0; rw [e9, show nI (lx (cv μ t i)) - 1 = nI (lx (cv μ t i) - 1) from pk_sub (b := 1) (by omega)]; exact nI_pos (by omega))) ?_
        refine X.aload_n dX5_freeTape_92 rfl ?_
        refine X.getR (b := 47) (kf := 2) dX5_freeTape_93 (hM.1 44 (by decide) (by decide)) (by decide) (by decide) rfl wf_X5_16 (hM.2 2 (by decide)) ?_
        refine X.iload dX5_freeTape_96 rfl ?_
        refine X.iconst (v := 1) dX5_freeTape_98 (by decide) ?_
        refine X.zast dX5_freeTape_99 (hM.1 47 (by decide) (by decide)) ((show (mJ μ 48 (32 * t + i)).toInt32 - 1 = nI (lx (cv μ t i) - 1) by rw [e9]; exact pk_sub (b := 1) (by omega))) (by omega) (by decide) (Or.inr rfl) ?_
        refine X.iinc1 dX5_freeTape_100 rfl (Nat.le_of_ble_eq_true rfl) ?_
        refine X.goto (tgt := 50) dX5_freeTape_103 (by decide) ?_
        rw [sA_sI]
        refine X.at [(0, .ref 44), (1, .int (nI c)), (2, .int (nI t)), (3, .int (nI (i + 1)))] ⟨rfl, rfl, rfl, iN i, trivial⟩ ?_
        refine ih (i + 1) _ (by omega) ((hu.put _).to (fun x => ?_))
        constructor
        · rintro ((h | ⟨h, k, hk, e⟩) | h)
          · exact Or.inl h
          · exact Or.inr ⟨h, k, by omega, e⟩
          · exact Or.inr ⟨h10, i, by omega, by omega⟩
        · rintro (h | ⟨h, k, hk, e⟩)
          · exact Or.inl (Or.inl h)
          · by_cases q : k = i
            · rw [q] at e; exact Or.inr (by omega)
            · exact Or.inl (Or.inr ⟨h, k, by omega, e⟩)
    · refine X.iload_n dX5_freeTape_50 rfl ?_
      refine X.aload_n dX5_freeTape_51 rfl ?_
      refine X.getR (b := 46) (kf := 1) dX5_freeTape_52 (hM.1 44 (by decide) (by decide)) (by decide) (by decide) rfl wf_X5_13 (hM.2 1 (by decide)) ?_
      refine X.iload_n dX5_freeTape_55 rfl ?_
      refine X.iald dX5_freeTape_56 (hM.1 46 (by decide) (by decide)) (rfl) (ht) (by decide) ?_
      refine X.icmp_ge_f (tgt := 106) dX5_freeTape_57 (by decide) ((by show ¬ mI μ 46 t ≤ nI i; rw [es]; exact nI_ge (by omega) (by omega))) ?_
      refine X.aload_n dX5_freeTape_60 rfl ?_
      refine X.getR (b := 45) (kf := 0) dX5_freeTape_61 (hM.1 44 (by decide) (by decide)) (by decide) (by decide) rfl wf_X5_7 (hM.2 0 (by decide)) ?_
      refine X.iload_n dX5_freeTape_64 rfl ?_
      refine X.iald dX5_freeTape_65 (hM.1 45 (by decide) (by decide)) (rfl) (ht) (by decide) ?_
      refine X.bipush (v := 10) dX5_freeTape_66 (by decide) ?_
      refine X.icmp_ne_t (tgt := 106) dX5_freeTape_68 (by decide) ((by show ¬ mI μ 45 t = 10; rw [ek]; exact nI_neq h10 (by omega) (by decide))) ?_
      exact X.at [(0, .ref 44), (1, .int (nI c))] ⟨rfl, rfl, trivial⟩ (K u (hu.to (fun x => ⟨fun h => h.elim Or.inl (fun q => absurd q.1 h10), fun h => h.elim Or.inl (fun q => absurd q.1 h10)⟩)))
set_option maxRecDepth 100000 in
set_option maxHeartbeats 4000000 in
theorem ft2 {μ : xM} {Q : Option Value → xM → Prop} (hM : ShM μ) (hw : WFt μ) (K : ∀ u, marks u (liveM μ) → X kX5_freeTape none 112 (xl [(0, .ref 44)]) [] (sA μ 47 u) Q) : ∀ (n c : Nat) (u : Nat → Int32), c + n = 16 → marks u (fun t => ∃ c', c' < c ∧ liveC μ c' t) → X kX5_freeTape none 24 (xl [(0, .ref 44), (1, .int (nI c))]) [] (sA μ 47 u) Q := by
  intro n
  induction n with
  | zero =>
    intro c u hi hu
    obtain rfl : c = 16 := by omega
    refine X.iload_n dX5_freeTape_24 rfl ?_
    refine X.bipush (v := 16) dX5_freeTape_25 (by decide) ?_
    refine X.icmp_ge_t (tgt := 112) dX5_freeTape_27 (by decide) (by decide) ?_
    exact X.at [(0, .ref 44)] ⟨rfl, trivial⟩ (K u hu)
  | succ n ih =>
    intro c u hi hu
    have hnext : ∀ u', marks u' (fun t => ∃ c', c' < c + 1 ∧ liveC μ c' t) → X kX5_freeTape none 106 (xl [(0, .ref 44), (1, .int (nI c))]) [] (sA μ 47 u') Q := by
      intro u' hu'
      refine X.iinc1 dX5_freeTape_106 rfl (Nat.le_of_ble_eq_true rfl) ?_
      refine X.goto (tgt := 24) dX5_freeTape_109 (by decide) ?_
      exact X.at [(0, .ref 44), (1, .int (nI (c + 1)))] ⟨rfl, iN c, trivial⟩ (ih (c + 1) u' (by omega) hu')
    by_cases h0 : noTapeM μ c = 0
    · obtain ⟨ht, et⟩ := hw.1 c (by omega) h0
      refine X.iload_n dX5_freeTape_24 rfl ?_
      refine X.bipush (v := 16) dX5_freeTape_25 (by decide) ?_
      refine X.icmp_ge_f (tgt := 112) dX5_freeTape_27 (by decide) (nI_ge (a := c) (b := 16) (by omega) (by decide)) ?_
      refine X.aload_n dX5_freeTape_30 rfl ?_
      refine X.getR (b := 50) (kf := 6) dX5_freeTape_31 (hM.1 44 (by decide) (by decide)) (by decide) (by decide) rfl wf_X5_27 (hM.2 6 (by decide)) ?_
      refine X.iload_n dX5_freeTape_34 rfl ?_
      refine X.iald dX5_freeTape_35 (hM.1 50 (by decide) (by decide)) (rfl) (by omega) (by decide) ?_
      refine X.istore_n dX5_freeTape_36 (Nat.le_of_ble_eq_true rfl) ?_
      refine X.iload_n dX5_freeTape_37 rfl ?_
      refine X.if_lt_f (tgt := 106) dX5_freeTape_38 (by decide) ((by show ¬ mI μ 50 c < 0; rw [et]; exact nI_pos (by omega))) ?_
      refine X.aload_n dX5_freeTape_41 rfl ?_
      refine X.getR (b := 47) (kf := 2) dX5_freeTape_42 (hM.1 44 (by decide) (by decide)) (by decide) (by decide) rfl wf_X5_16 (hM.2 2 (by decide)) ?_
      refine X.iload_n dX5_freeTape_45 rfl ?_
      refine X.iconst (v := 1) dX5_freeTape_46 (by decide) ?_
      refine X.zast dX5_freeTape_47 (hM.1 47 (by decide) (by decide)) (et) (ht) (by decide) (Or.inr rfl) ?_
      refine X.iconst (v := 0) dX5_freeTape_48 (by decide) ?_
      refine X.istore_n dX5_freeTape_49 (Nat.le_of_ble_eq_true rfl) ?_
      rw [sA_sI]
      refine X.at [(0, .ref 44), (1, .int (nI c)), (2, .int (nI (tp μ c))), (3, .int (nI 0))] ⟨rfl, rfl, congrArg (fun x => some (Value.int x)) et, rfl, trivial⟩ ?_
      refine ft3 hM hw ht (p := fun t => ∃ c', c' < c ∧ liveC μ c' t) (fun u' hu' => hnext u' (hu'.to (fun x => ?_))) (sz μ (tp μ c)) 0 _ (by omega) ((hu.put (tp μ c)).to (fun x => ?_))
      · constructor
        · rintro ((⟨c', h1, h2⟩ | h) | h)
          · exact ⟨c', by omega, h2⟩
          · exact ⟨c, by omega, h0, Or.inl h.symm⟩
          · exact ⟨c, by omega, h0, Or.inr h⟩
        · rintro ⟨c', h1, h2⟩
          by_cases q : c' = c
          · subst q
            rcases h2.2 with h | h
            · exact Or.inl (Or.inr h.symm)
            · exact Or.inr h
          · exact Or.inl (Or.inl ⟨c', by omega, h2⟩)
      · constructor
        · exact Or.inl
        · rintro (h | ⟨-, k, hk, -⟩)
          · exact h
          · omega
    · have hneg : mI μ 50 c < 0 := by
        unfold noTapeM at h0
        by_cases h1 : mI μ 50 c = -1
        · rw [h1]; decide
        · by_cases h2 : mI μ 50 c = -2
          · rw [h2]; decide
          · rw [if_neg h1, if_neg h2] at h0; exact absurd rfl h0
      refine X.iload_n dX5_freeTape_24 rfl ?_
      refine X.bipush (v := 16) dX5_freeTape_25 (by decide) ?_
      refine X.icmp_ge_f (tgt := 112) dX5_freeTape_27 (by decide) (nI_ge (a := c) (b := 16) (by omega) (by decide)) ?_
      refine X.aload_n dX5_freeTape_30 rfl ?_
      refine X.getR (b := 50) (kf := 6) dX5_freeTape_31 (hM.1 44 (by decide) (by decide)) (by decide) (by decide) rfl wf_X5_27 (hM.2 6 (by decide)) ?_
      refine X.iload_n dX5_freeTape_34 rfl ?_
      refine X.iald dX5_freeTape_35 (hM.1 50 (by decide) (by decide)) (rfl) (by omega) (by decide) ?_
      refine X.istore_n dX5_freeTape_36 (Nat.le_of_ble_eq_true rfl) ?_
      refine X.iload_n dX5_freeTape_37 rfl ?_
      refine X.if_lt_t (tgt := 106) dX5_freeTape_38 (by decide) (hneg) ?_
      refine X.at [(0, .ref 44), (1, .int (nI c))] ⟨rfl, rfl, trivial⟩ (hnext u (hu.to (fun x => ?_)))
      constructor
      · rintro ⟨c', h1, h2⟩
        exact ⟨c', by omega, h2⟩
      · rintro ⟨c', h1, h2⟩
        by_cases q : c' = c
        · subst q
          exact absurd h2.1 h0
        · exact ⟨c', by omega, h2⟩
set_option maxRecDepth 100000 in
set_option maxHeartbeats 4000000 in
theorem ft4 {μ : xM} {Q : Option Value → xM → Prop} (hM : ShM μ) (hw : WFt μ) {u : Nat → Int32} (hu : marks u (liveM μ)) (K : Q (some (.int (nI (freeM μ)))) (sA μ 47 u)) : ∀ (n t : Nat), t + n = freeM μ → X kX5_freeTape none 114 (xl [(0, .ref 44), (1, .int (nI t))]) [] (sA μ 47 u) (fun r μ' => xrok kX5_freeTape.2.2.2.1 r ∧ Q r μ') := by
  obtain ⟨hf1, hf2, hf3⟩ := freeM_ok hw
  intro n
  induction n with
  | zero =>
    intro t hi
    obtain rfl : t = freeM μ := by omega
    refine X.aload_n dX5_freeTape_114 rfl ?_
    refine X.getR (b := 47) (kf := 2) dX5_freeTape_115 (hM.1 44 (by decide) (by decide)) (by decide) (by decide) rfl wf_X5_16 (hM.2 2 (by decide)) ?_
    refine X.iload_n dX5_freeTape_118 rfl ?_
    refine X.zald dX5_freeTape_119 (hM.1 47 (by decide) (by decide)) (rfl) (hf1) (by decide) ?_
    refine X.if_eq_t (tgt := 129) dX5_freeTape_120 (by decide) ((hu _ hf1).2 hf2) ?_
    refine X.iload_n dX5_freeTape_129 rfl ?_
    refine X.ret dX5_freeTape_130 ⟨trivial, ?_⟩
    exact K
  | succ n ih =>
    intro t hi
    refine X.aload_n dX5_freeTape_114 rfl ?_
    refine X.getR (b := 47) (kf := 2) dX5_freeTape_115 (hM.1 44 (by decide) (by decide)) (by decide) (by decide) rfl wf_X5_16 (hM.2 2 (by decide)) ?_
    refine X.iload_n dX5_freeTape_118 rfl ?_
    refine X.zald dX5_freeTape_119 (hM.1 47 (by decide) (by decide)) (rfl) (by omega) (by decide) ?_
    refine X.if_eq_f (tgt := 129) dX5_freeTape_120 (by decide) ((by show ¬ u t = 0; rw [(hu t (by omega)).1 (hf3 t (by omega))]; decide)) ?_
    refine X.iinc1 dX5_freeTape_123 rfl (Nat.le_of_ble_eq_true rfl) ?_
    refine X.goto (tgt := 114) dX5_freeTape_126 (by decide) ?_
    exact X.at [(0, .ref 44), (1, .int (nI (t + 1)))] ⟨rfl, iN t, trivial⟩ (ih (t + 1) (by omega))
set_option maxRecDepth 100000 in
set_option maxHeartbeats 4000000 in
theorem m_freeTape {μ : xM} {Q : Option Value → xM → Prop} (hM : ShM μ) (hw : WFt μ) (hq : ∀ u, Q (some (.int (nI (freeM μ)))) (sA μ 47 u)) : Mt kX5_freeTape [.ref 44] μ Q := by
  refine Mt.enter rfl (Nat.le_of_ble_eq_true rfl) ?_
  refine X.iconst (v := 0) dX5_freeTape_0 (by decide) ?_
  refine X.istore_n dX5_freeTape_1 (Nat.le_of_ble_eq_true rfl) ?_
  rw [← sA_self μ 47]
  refine X.at [(0, .ref 44), (1, .int (nI 0))] ⟨rfl, rfl, trivial⟩ ?_
  refine ft1 hM (fun u hu => ?_) 560 0 _ (by omega) (fun t ht => by omega)
  refine X.iconst (v := 0) dX5_freeTape_22 (by decide) ?_
  refine X.istore_n dX5_freeTape_23 (Nat.le_of_ble_eq_true rfl) ?_
  refine X.at [(0, .ref 44), (1, .int (nI 0))] ⟨rfl, rfl, trivial⟩ ?_
  refine ft2 hM hw (fun u hu => ?_) 16 0 u (by omega) (fun t ht => ⟨fun ⟨_, h, _⟩ => by omega, fun _ => hu t ht⟩)
  refine X.iconst (v := 0) dX5_freeTape_112 (by decide) ?_
  refine X.istore_n dX5_freeTape_113 (Nat.le_of_ble_eq_true rfl) ?_
  refine X.at [(0, .ref 44), (1, .int (nI 0))] ⟨rfl, rfl, trivial⟩ ?_
  exact ft4 hM hw hu (hq u) (freeM μ) 0 (by omega)
end
section
/-! the reference: a new tape, faults, moves (laid by wip/whole/mkmodel6.py) -/
def sB (μ : xM) (w : Nat → Int64) : xM := (mT μ, mI μ, fun b j => if b = 48 then w j else mJ μ b j, mR μ, mN μ, mS μ)
def zr (t i : Nat) (f : Nat → Int64) : Nat → Int64 := fun j => if 32 * t ≤ j ∧ j < 32 * t + i then 0 else f j
theorem sB_sJ (μ : xM) (t i : Nat) (f : Nat → Int64) : sJ (sB μ (zr t i f)) 48 (32 * t + i) 0 = sB μ (zr t (i + 1) f) := by
  show (mT μ, mI μ, up2 (fun b j => if b = 48 then zr t i f j else mJ μ b j) 48 (32 * t + i) 0, mR μ, mN μ, mS μ) = (mT μ, mI μ, (fun b j => if b = 48 then zr t (i + 1) f j else mJ μ b j), mR μ, mN μ, mS μ)
  congr 3
  funext b j
  show (if b = 48 ∧ j = 32 * t + i then 0 else (if b = 48 then zr t i f j else mJ μ b j)) = (if b = 48 then zr t (i + 1) f j else mJ μ b j)
  by_cases h : b = 48
  · rw [if_pos h, if_pos h]
    unfold zr
    by_cases h2 : j = 32 * t + i
    · rw [if_pos ⟨h, h2⟩, if_pos (by omega)]
    · rw [if_neg (fun q => h2 q.2)]
      by_cases h3 : 32 * t ≤ j ∧ j < 32 * t + i
      · rw [if_pos h3, if_pos (by omega)]
      · rw [if_neg h3, if_neg (by omega)]
  · rw [if_neg (fun q => h q.1), if_neg h, if_neg h]
theorem sB_0 (μ : xM) (t : Nat) : sB μ (zr t 0 (mJ μ 48)) = μ := by
  show (mT μ, mI μ, (fun b j => if b = 48 then zr t 0 (mJ μ 48) j else mJ μ b j), mR μ, mN μ, mS μ) = μ
  have e : (fun b j => if b = 48 then zr t 0 (mJ μ 48) j else mJ μ b j) = mJ μ := by
    funext b j
    by_cases h : b = 48
    · rw [if_pos h, h]
      unfold zr
      rw [if_neg (by omega)]
    · rw [if_neg h]
  rw [e]
  rfl
noncomputable def newTM (μ : xM) (u : Nat → Int32) (k n : Nat) : xM := sB (sI (sI (sA μ 47 u) 45 (freeM μ) (nI k)) 46 (freeM μ) (nI n)) (zr (freeM μ) n (mJ μ 48))
def failM (μ : xM) (who : Int32) (h : Nat) : xM := sI (sI (sI (sI (sI μ 62 (fM μ % 20) (mI μ 44 19)) 63 (fM μ % 20) who) 64 (fM μ % 20) (nI h)) 44 20 (mI μ 44 20 + 1)) 65 h (mI μ 65 h + 1)
def WFf (μ : xM) : Prop := mI μ 44 20 = nI (fM μ) ∧ fM μ < 2 ^ 30
def fmodM (x n : Int32) : Int32 := if 0 ≤ x - x / n * n then x - x / n * n else x - x / n * n + n
def noMoveM (μ : xM) (c : Nat) : Nat := if noTapeM μ c = 0 then (if sz μ (tp μ c) = 0 then 4 else 0) else noTapeM μ c
def moveM (μ : xM) (c : Nat) : xM := if mI μ 53 c = 0 then sI μ 51 c (mI μ 51 c + mI μ 52 c) else if noMoveM μ c = 0 then sI μ 51 c (fmodM (mI μ 51 c + mI μ 52 c) (mI μ 46 (tp μ c))) else failM μ (100 + nI c) (noMoveM μ c)
set_option maxRecDepth 100000 in
set_option maxHeartbeats 4000000 in
theorem nt1 {μ : xM} {Q : Option Value → xM → Prop} (hM : ShM μ) {t n : Nat} {f : Nat → Int64} (ht : t < 560) (hn : n ≤ 32) (K : Q (some (.int (nI t))) (sB μ (zr t n f))) : ∀ (m i : Nat), i + m = n → X kX5_newTape none 22 (xl [(0, .ref 44), (2, .int (nI n)), (3, .int (nI t)), (4, .int (nI i))]) [] (sB μ (zr t i f)) (fun r μ' => xrok kX5_newTape.2.2.2.1 r ∧ Q r μ') := by
  intro m
  induction m with
  | zero =>
    intro i hi
    obtain rfl : i = n := by omega
    refine X.iload dX5_newTape_22 rfl ?_
    refine X.iload_n dX5_newTape_24 rfl ?_
    refine X.icmp_ge_t (tgt := 47) dX5_newTape_25 (by decide) (nI_le (Nat.le_refl _) (by omega)) ?_
    refine X.iload_n dX5_newTape_47 rfl ?_
    refine X.ret dX5_newTape_48 ⟨trivial, ?_⟩
    exact K
  | succ m ih =>
    intro i hi
    refine X.iload dX5_newTape_22 rfl ?_
    refine X.iload_n dX5_newTape_24 rfl ?_
    refine X.icmp_ge_f (tgt := 47) dX5_newTape_25 (by decide) (nI_ge (by omega) (by omega)) ?_
    refine X.aload_n dX5_newTape_28 rfl ?_
    refine X.getR (b := 48) (kf := 3) dX5_newTape_29 (hM.1 44 (by decide) (by decide)) (by decide) (by decide) rfl wf_X5_20 (hM.2 3 (by decide)) ?_
    refine X.bipush (v := 32) dX5_newTape_32 (by decide) ?_
    refine X.iload_n dX5_newTape_34 rfl ?_
    refine X.imul dX5_newTape_35 ?_
    refine X.iload dX5_newTape_36 rfl ?_
    refine X.iadd dX5_newTape_38 ?_
    refine X.lconst (v := 0) dX5_newTape_39 (by decide) ?_
    refine X.last dX5_newTape_40 (hM.1 48 (by decide) (by decide)) (at_eq2 t i) (cell_in ht (by omega)) (by decide) ?_
    refine X.iinc1 dX5_newTape_41 rfl (Nat.le_of_ble_eq_true rfl) ?_
    refine X.goto (tgt := 22) dX5_newTape_44 (by decide) ?_
    rw [sB_sJ]
    exact X.at [(0, .ref 44), (2, .int (nI n)), (3, .int (nI t)), (4, .int (nI (i + 1)))] ⟨rfl, rfl, rfl, iN i, trivial⟩ (ih (i + 1) (by omega))
set_option maxRecDepth 100000 in
set_option maxHeartbeats 4000000 in
theorem m_newTape {k n : Nat} {μ : xM} {Q : Option Value → xM → Prop} (hM : ShM μ) (hw : WFt μ) (hn : n ≤ 32) (hq : ∀ u, Q (some (.int (nI (freeM μ)))) (newTM μ u k n)) : Mt kX5_newTape [.ref 44, .int (nI k), .int (nI n)] μ Q := by
  obtain ⟨hf1, hf2, hf3⟩ := freeM_ok hw
  refine Mt.enter rfl (Nat.le_of_ble_eq_true rfl) ?_
  refine X.aload_n dX5_newTape_0 rfl ?_
  refine X.cV0i (k' := kX5_freeTape) dX5_newTape_1 (hM.1 44 (by decide) (by decide)) ⟨by decide, rfl⟩ v_X5_freeTape wm_X5_86 wi_X5_freeTape ws_X5_freeTape ⟨Nat.le_of_ble_eq_true rfl, Nat.le_of_ble_eq_true rfl⟩ n_X5_freeTape (Nat.le_of_ble_eq_true rfl) ?_
  refine m_freeTape hM hw (fun u => ?_)
  refine ⟨_, rfl, ?_⟩
  refine X.istore_n dX5_newTape_4 (Nat.le_of_ble_eq_true rfl) ?_
  refine X.aload_n dX5_newTape_5 rfl ?_
  refine X.getR (b := 45) (kf := 0) dX5_newTape_6 (hM.1 44 (by decide) (by decide)) (by decide) (by decide) rfl wf_X5_7 (hM.2 0 (by decide)) ?_
  refine X.iload_n dX5_newTape_9 rfl ?_
  refine X.iload_n dX5_newTape_10 rfl ?_
  refine X.iast dX5_newTape_11 (hM.1 45 (by decide) (by decide)) (rfl) (hf1) (by decide) ?_
  refine X.aload_n dX5_newTape_12 rfl ?_
  refine X.getR (b := 46) (kf := 1) dX5_newTape_13 (hM.1 44 (by decide) (by decide)) (by decide) (by decide) rfl wf_X5_13 (hM.2 1 (by decide)) ?_
  refine X.iload_n dX5_newTape_16 rfl ?_
  refine X.iload_n dX5_newTape_17 rfl ?_
  refine X.iast dX5_newTape_18 (hM.1 46 (by decide) (by decide)) (rfl) (hf1) (by decide) ?_
  refine X.iconst (v := 0) dX5_newTape_19 (by decide) ?_
  refine X.istore dX5_newTape_20 (Nat.le_of_ble_eq_true rfl) ?_
  rw [← sB_0 (sI (sI (sA μ 47 u) 45 (freeM μ) (nI k)) 46 (freeM μ) (nI n)) (freeM μ)]
  refine X.at [(0, .ref 44), (2, .int (nI n)), (3, .int (nI (freeM μ))), (4, .int (nI 0))] ⟨rfl, rfl, rfl, rfl, trivial⟩ ?_
  exact nt1 (Q := Q) (μ := sI (sI (sA μ 47 u) 45 (freeM μ) (nI k)) 46 (freeM μ) (nI n)) (f := mJ μ 48) hM hf1 hn (hq u) n 0 (by omega)
set_option maxRecDepth 100000 in
set_option maxHeartbeats 4000000 in
theorem m_fails {who : Int32} {h : Nat} {μ : xM} {Q : Option Value → xM → Prop} (hM : ShM μ) (hf : WFf μ) (hh : h < 6) (hq : Q none (failM μ who h)) : Mt kX5_fails [.ref 44, .int who, .int (nI h)] μ Q := by
  have e20 : mI μ 44 20 - mI μ 44 20 / 20 * 20 = nI (fM μ % 20) := by
    rw [hf.1]
    exact pk_rem (a := fM μ) (d := 20) (by have := hf.2; omega) (by decide) (by decide)
  refine Mt.enter rfl (Nat.le_of_ble_eq_true rfl) ?_
  refine X.aload_n dX5_fails_0 rfl ?_
  refine X.getI (kf := 20) dX5_fails_1 (hM.1 44 (by decide) (by decide)) (by decide) (by decide) rfl wf_X5_172 ?_
  refine X.bipush (v := 20) dX5_fails_4 (by decide) ?_
  refine X.irem dX5_fails_6 (by decide) ?_
  refine X.istore_n dX5_fails_7 (Nat.le_of_ble_eq_true rfl) ?_
  refine X.aload_n dX5_fails_8 rfl ?_
  refine X.getR (b := 62) (kf := 21) dX5_fails_9 (hM.1 44 (by decide) (by decide)) (by decide) (by decide) rfl wf_X5_63 (hM.2 21 (by decide)) ?_
  refine X.iload_n dX5_fails_12 rfl ?_
  refine X.aload_n dX5_fails_13 rfl ?_
  refine X.getI (kf := 19) dX5_fails_14 (hM.1 44 (by decide) (by decide)) (by decide) (by decide) rfl wf_X5_175 ?_
  refine X.iast dX5_fails_17 (hM.1 62 (by decide) (by decide)) (e20) (by omega) (by decide) ?_
  refine X.aload_n dX5_fails_18 rfl ?_
  refine X.getR (b := 63) (kf := 22) dX5_fails_19 (hM.1 44 (by decide) (by decide)) (by decide) (by decide) rfl wf_X5_66 (hM.2 22 (by decide)) ?_
  refine X.iload_n dX5_fails_22 rfl ?_
  refine X.iload_n dX5_fails_23 rfl ?_
  refine X.iast dX5_fails_24 (hM.1 63 (by decide) (by decide)) (e20) (by omega) (by decide) ?_
  refine X.aload_n dX5_fails_25 rfl ?_
  refine X.getR (b := 64) (kf := 23) dX5_fails_26 (hM.1 44 (by decide) (by decide)) (by decide) (by decide) rfl wf_X5_69 (hM.2 23 (by decide)) ?_
  refine X.iload_n dX5_fails_29 rfl ?_
  refine X.iload_n dX5_fails_30 rfl ?_
  refine X.iast dX5_fails_31 (hM.1 64 (by decide) (by decide)) (e20) (by omega) (by decide) ?_
  refine X.aload_n dX5_fails_32 rfl ?_
  refine X.dup dX5_fails_33 ?_
  refine X.getI (kf := 20) dX5_fails_34 (hM.1 44 (by decide) (by decide)) (by decide) (by decide) rfl wf_X5_172 ?_
  refine X.iconst (v := 1) dX5_fails_37 (by decide) ?_
  refine X.iadd dX5_fails_38 ?_
  refine X.putI (kf := 20) dX5_fails_39 (hM.1 44 (by decide) (by decide)) (by decide) (by decide) rfl (Or.inl rfl) ⟨rfl, rfl⟩ wf_X5_172 ?_
  refine X.aload_n dX5_fails_42 rfl ?_
  refine X.getR (b := 65) (kf := 24) dX5_fails_43 (hM.1 44 (by decide) (by decide)) (by decide) (by decide) rfl wf_X5_72 (hM.2 24 (by decide)) ?_
  refine X.iload_n dX5_fails_46 rfl ?_
  refine X.dup2 dX5_fails_47 ?_
  refine X.iald dX5_fails_48 (hM.1 65 (by decide) (by decide)) (rfl) (hh) (by decide) ?_
  refine X.iconst (v := 1) dX5_fails_49 (by decide) ?_
  refine X.iadd dX5_fails_50 ?_
  refine X.iast dX5_fails_51 (hM.1 65 (by decide) (by decide)) (rfl) (hh) (by decide) ?_
  refine X.retv dX5_fails_52 ⟨trivial, ?_⟩
  exact hq
set_option maxRecDepth 100000 in
set_option maxHeartbeats 4000000 in
theorem m_moves1 {c : Nat} {μ : xM} {Q : Option Value → xM → Prop} (hM : ShM μ) (hw : WFt μ) (hf : WFf μ) (hc : c < 16) (hl : mI μ 53 c = 0) (hq : Q none (moveM μ c)) : Mt kX5_moves [.ref 44, .int (nI c)] μ Q := by
  refine Mt.enter rfl (Nat.le_of_ble_eq_true rfl) ?_
  refine X.aload_n dX5_moves_0 rfl ?_
  refine X.getR (b := 51) (kf := 7) dX5_moves_1 (hM.1 44 (by decide) (by decide)) (by decide) (by decide) rfl wf_X5_30 (hM.2 7 (by decide)) ?_
  refine X.iload_n dX5_moves_4 rfl ?_
  refine X.iald dX5_moves_5 (hM.1 51 (by decide) (by decide)) (rfl) (hc) (by decide) ?_
  refine X.aload_n dX5_moves_6 rfl ?_
  refine X.getR (b := 52) (kf := 8) dX5_moves_7 (hM.1 44 (by decide) (by decide)) (by decide) (by decide) rfl wf_X5_33 (hM.2 8 (by decide)) ?_
  refine X.iload_n dX5_moves_10 rfl ?_
  refine X.iald dX5_moves_11 (hM.1 52 (by decide) (by decide)) (rfl) (hc) (by decide) ?_
  refine X.iadd dX5_moves_12 ?_
  refine X.istore_n dX5_moves_13 (Nat.le_of_ble_eq_true rfl) ?_
  refine X.aload_n dX5_moves_14 rfl ?_
  refine X.getR (b := 53) (kf := 9) dX5_moves_15 (hM.1 44 (by decide) (by decide)) (by decide) (by decide) rfl wf_X5_36 (hM.2 9 (by decide)) ?_
  refine X.iload_n dX5_moves_18 rfl ?_
  refine X.zald dX5_moves_19 (hM.1 53 (by decide) (by decide)) (rfl) (hc) (by decide) ?_
  refine X.if_eq_t (tgt := 94) dX5_moves_20 (by decide) (hl) ?_
  refine X.aload_n dX5_moves_94 rfl ?_
  refine X.getR (b := 51) (kf := 7) dX5_moves_95 (hM.1 44 (by decide) (by decide)) (by decide) (by decide) rfl wf_X5_30 (hM.2 7 (by decide)) ?_
  refine X.iload_n dX5_moves_98 rfl ?_
  refine X.iload_n dX5_moves_99 rfl ?_
  refine X.iast dX5_moves_100 (hM.1 51 (by decide) (by decide)) (rfl) (hc) (by decide) ?_
  refine X.retv dX5_moves_101 ⟨trivial, ?_⟩
  unfold moveM at hq
  rw [if_pos hl] at hq
  exact hq
set_option maxRecDepth 100000 in
set_option maxHeartbeats 4000000 in
theorem m_moves2 {c : Nat} {μ : xM} {Q : Option Value → xM → Prop} (hM : ShM μ) (hw : WFt μ) (hf : WFf μ) (hc : c < 16) (hl : ¬ mI μ 53 c = 0) (h0 : ¬ noTapeM μ c = 0) (hq : Q none (moveM μ c)) : Mt kX5_moves [.ref 44, .int (nI c)] μ Q := by
  have en : noMoveM μ c = noTapeM μ c := by unfold noMoveM; rw [if_neg h0]
  refine Mt.enter rfl (Nat.le_of_ble_eq_true rfl) ?_
  refine X.aload_n dX5_moves_0 rfl ?_
  refine X.getR (b := 51) (kf := 7) dX5_moves_1 (hM.1 44 (by decide) (by decide)) (by decide) (by decide) rfl wf_X5_30 (hM.2 7 (by decide)) ?_
  refine X.iload_n dX5_moves_4 rfl ?_
  refine X.iald dX5_moves_5 (hM.1 51 (by decide) (by decide)) (rfl) (hc) (by decide) ?_
  refine X.aload_n dX5_moves_6 rfl ?_
  refine X.getR (b := 52) (kf := 8) dX5_moves_7 (hM.1 44 (by decide) (by decide)) (by decide) (by decide) rfl wf_X5_33 (hM.2 8 (by decide)) ?_
  refine X.iload_n dX5_moves_10 rfl ?_
  refine X.iald dX5_moves_11 (hM.1 52 (by decide) (by decide)) (rfl) (hc) (by decide) ?_
  refine X.iadd dX5_moves_12 ?_
  refine X.istore_n dX5_moves_13 (Nat.le_of_ble_eq_true rfl) ?_
  refine X.aload_n dX5_moves_14 rfl ?_
  refine X.getR (b := 53) (kf := 9) dX5_moves_15 (hM.1 44 (by decide) (by decide)) (by decide) (by decide) rfl wf_X5_36 (hM.2 9 (by decide)) ?_
  refine X.iload_n dX5_moves_18 rfl ?_
  refine X.zald dX5_moves_19 (hM.1 53 (by decide) (by decide)) (rfl) (hc) (by decide) ?_
  refine X.if_eq_f (tgt := 94) dX5_moves_20 (by decide) (hl) ?_
  refine X.aload_n dX5_moves_23 rfl ?_
  refine X.iload_n dX5_moves_24 rfl ?_
  refine X.cV1i (k' := kX5_noTape) dX5_moves_25 (hM.1 44 (by decide) (by decide)) ⟨by decide, rfl⟩ v_X5_noTape wm_X5_102 wi_X5_noTape ws_X5_noTape ⟨Nat.le_of_ble_eq_true rfl, Nat.le_of_ble_eq_true rfl⟩ n_X5_noTape (Nat.le_of_ble_eq_true rfl) ?_
  refine m_noTape hM hc ?_
  refine ⟨_, rfl, ?_⟩
  refine X.istore_n dX5_moves_28 (Nat.le_of_ble_eq_true rfl) ?_
  refine X.iload_n dX5_moves_29 rfl ?_
  refine X.if_ne_t (tgt := 49) dX5_moves_30 (by decide) (nI_neq (b := 0) h0 (by have := noTapeM_le μ c; omega) (by decide)) ?_
  refine X.iload_n dX5_moves_49 rfl ?_
  refine X.if_le_f (tgt := 63) dX5_moves_50 (by decide) (fun q => h0 (nI_le0 q (by have := noTapeM_le μ c; omega))) ?_
  refine X.aload_n dX5_moves_53 rfl ?_
  refine X.bipush (v := 100) dX5_moves_54 (by decide) ?_
  refine X.iload_n dX5_moves_56 rfl ?_
  refine X.iadd dX5_moves_57 ?_
  refine X.iload_n dX5_moves_58 rfl ?_
  refine X.cV2v (k' := kX5_fails) dX5_moves_59 (hM.1 44 (by decide) (by decide)) ⟨by decide, rfl⟩ v_X5_fails wm_X5_178 wi_X5_fails ws_X5_fails ⟨Nat.le_of_ble_eq_true rfl, Nat.le_of_ble_eq_true rfl⟩ n_X5_fails (Nat.le_of_ble_eq_true rfl) ?_
  refine m_fails hM hf (by have := noTapeM_le μ c; omega) ?_
  refine ⟨rfl, ?_⟩
  refine X.retv dX5_moves_62 ⟨trivial, ?_⟩
  unfold moveM at hq
  rw [if_neg hl, if_neg (by rw [en]; exact h0), en] at hq
  exact hq
set_option maxRecDepth 100000 in
set_option maxHeartbeats 4000000 in
theorem m_moves3 {c : Nat} {μ : xM} {Q : Option Value → xM → Prop} (hM : ShM μ) (hw : WFt μ) (hf : WFf μ) (hc : c < 16) (hl : ¬ mI μ 53 c = 0) (h0 : noTapeM μ c = 0) (hz : sz μ (tp μ c) = 0) (hq : Q none (moveM μ c)) : Mt kX5_moves [.ref 44, .int (nI c)] μ Q := by
  obtain ⟨ht, et⟩ := hw.1 c hc h0
  obtain ⟨⟨ek, lk⟩, es, ls⟩ := hw.2.1 _ ht
  have en : noMoveM μ c = 4 := by unfold noMoveM; rw [if_pos h0, if_pos hz]
  refine Mt.enter rfl (Nat.le_of_ble_eq_true rfl) ?_
  refine X.aload_n dX5_moves_0 rfl ?_
  refine X.getR (b := 51) (kf := 7) dX5_moves_1 (hM.1 44 (by decide) (by decide)) (by decide) (by decide) rfl wf_X5_30 (hM.2 7 (by decide)) ?_
  refine X.iload_n dX5_moves_4 rfl ?_
  refine X.iald dX5_moves_5 (hM.1 51 (by decide) (by decide)) (rfl) (hc) (by decide) ?_
  refine X.aload_n dX5_moves_6 rfl ?_
  refine X.getR (b := 52) (kf := 8) dX5_moves_7 (hM.1 44 (by decide) (by decide)) (by decide) (by decide) rfl wf_X5_33 (hM.2 8 (by decide)) ?_
  refine X.iload_n dX5_moves_10 rfl ?_
  refine X.iald dX5_moves_11 (hM.1 52 (by decide) (by decide)) (rfl) (hc) (by decide) ?_
  refine X.iadd dX5_moves_12 ?_
  refine X.istore_n dX5_moves_13 (Nat.le_of_ble_eq_true rfl) ?_
  refine X.aload_n dX5_moves_14 rfl ?_
  refine X.getR (b := 53) (kf := 9) dX5_moves_15 (hM.1 44 (by decide) (by decide)) (by decide) (by decide) rfl wf_X5_36 (hM.2 9 (by decide)) ?_
  refine X.iload_n dX5_moves_18 rfl ?_
  refine X.zald dX5_moves_19 (hM.1 53 (by decide) (by decide)) (rfl) (hc) (by decide) ?_
  refine X.if_eq_f (tgt := 94) dX5_moves_20 (by decide) (hl) ?_
  refine X.aload_n dX5_moves_23 rfl ?_
  refine X.iload_n dX5_moves_24 rfl ?_
  refine X.cV1i (k' := kX5_noTape) dX5_moves_25 (hM.1 44 (by decide) (by decide)) ⟨by decide, rfl⟩ v_X5_noTape wm_X5_102 wi_X5_noTape ws_X5_noTape ⟨Nat.le_of_ble_eq_true rfl, Nat.le_of_ble_eq_true rfl⟩ n_X5_noTape (Nat.le_of_ble_eq_true rfl) ?_
  refine m_noTape hM hc ?_
  refine ⟨_, rfl, ?_⟩
  refine X.istore_n dX5_moves_28 (Nat.le_of_ble_eq_true rfl) ?_
  refine X.iload_n dX5_moves_29 rfl ?_
  refine X.if_ne_f (tgt := 49) dX5_moves_30 (by decide) ((by rw [h0]; rfl)) ?_
  refine X.aload_n dX5_moves_33 rfl ?_
  refine X.getR (b := 46) (kf := 1) dX5_moves_34 (hM.1 44 (by decide) (by decide)) (by decide) (by decide) rfl wf_X5_13 (hM.2 1 (by decide)) ?_
  refine X.aload_n dX5_moves_37 rfl ?_
  refine X.getR (b := 50) (kf := 6) dX5_moves_38 (hM.1 44 (by decide) (by decide)) (by decide) (by decide) rfl wf_X5_27 (hM.2 6 (by decide)) ?_
  refine X.iload_n dX5_moves_41 rfl ?_
  refine X.iald dX5_moves_42 (hM.1 50 (by decide) (by decide)) (rfl) (hc) (by decide) ?_
  refine X.iald dX5_moves_43 (hM.1 46 (by decide) (by decide)) (et) (ht) (by decide) ?_
  refine X.if_ne_f (tgt := 49) dX5_moves_44 (by decide) ((by rw [es, hz]; rfl)) ?_
  refine X.iconst (v := 4) dX5_moves_47 (by decide) ?_
  refine X.istore_n dX5_moves_48 (Nat.le_of_ble_eq_true rfl) ?_
  refine X.iload_n dX5_moves_49 rfl ?_
  refine X.if_le_f (tgt := 63) dX5_moves_50 (by decide) ((by decide)) ?_
  refine X.aload_n dX5_moves_53 rfl ?_
  refine X.bipush (v := 100) dX5_moves_54 (by decide) ?_
  refine X.iload_n dX5_moves_56 rfl ?_
  refine X.iadd dX5_moves_57 ?_
  refine X.iload_n dX5_moves_58 rfl ?_
  refine X.cV2v (k' := kX5_fails) dX5_moves_59 (hM.1 44 (by decide) (by decide)) ⟨by decide, rfl⟩ v_X5_fails wm_X5_178 wi_X5_fails ws_X5_fails ⟨Nat.le_of_ble_eq_true rfl, Nat.le_of_ble_eq_true rfl⟩ n_X5_fails (Nat.le_of_ble_eq_true rfl) ?_
  refine m_fails (h := 4) hM hf (by decide) ?_
  refine ⟨rfl, ?_⟩
  refine X.retv dX5_moves_62 ⟨trivial, ?_⟩
  unfold moveM at hq
  rw [if_neg hl, if_neg (by rw [en]; decide), en] at hq
  exact hq
set_option maxRecDepth 100000 in
set_option maxHeartbeats 4000000 in
theorem m_moves4 {c : Nat} {μ : xM} {Q : Option Value → xM → Prop} (hM : ShM μ) (hw : WFt μ) (hf : WFf μ) (hc : c < 16) (hl : ¬ mI μ 53 c = 0) (h0 : noTapeM μ c = 0) (hz : ¬ sz μ (tp μ c) = 0) (hq : Q none (moveM μ c)) : Mt kX5_moves [.ref 44, .int (nI c)] μ Q := by
  obtain ⟨ht, et⟩ := hw.1 c hc h0
  obtain ⟨⟨ek, lk⟩, es, ls⟩ := hw.2.1 _ ht
  have en : noMoveM μ c = 0 := by unfold noMoveM; rw [if_pos h0, if_neg hz]
  refine Mt.enter rfl (Nat.le_of_ble_eq_true rfl) ?_
  refine X.aload_n dX5_moves_0 rfl ?_
  refine X.getR (b := 51) (kf := 7) dX5_moves_1 (hM.1 44 (by decide) (by decide)) (by decide) (by decide) rfl wf_X5_30 (hM.2 7 (by decide)) ?_
  refine X.iload_n dX5_moves_4 rfl ?_
  refine X.iald dX5_moves_5 (hM.1 51 (by decide) (by decide)) (rfl) (hc) (by decide) ?_
  refine X.aload_n dX5_moves_6 rfl ?_
  refine X.getR (b := 52) (kf := 8) dX5_moves_7 (hM.1 44 (by decide) (by decide)) (by decide) (by decide) rfl wf_X5_33 (hM.2 8 (by decide)) ?_
  refine X.iload_n dX5_moves_10 rfl ?_
  refine X.iald dX5_moves_11 (hM.1 52 (by decide) (by decide)) (rfl) (hc) (by decide) ?_
  refine X.iadd dX5_moves_12 ?_
  refine X.istore_n dX5_moves_13 (Nat.le_of_ble_eq_true rfl) ?_
  refine X.aload_n dX5_moves_14 rfl ?_
  refine X.getR (b := 53) (kf := 9) dX5_moves_15 (hM.1 44 (by decide) (by decide)) (by decide) (by decide) rfl wf_X5_36 (hM.2 9 (by decide)) ?_
  refine X.iload_n dX5_moves_18 rfl ?_
  refine X.zald dX5_moves_19 (hM.1 53 (by decide) (by decide)) (rfl) (hc) (by decide) ?_
  refine X.if_eq_f (tgt := 94) dX5_moves_20 (by decide) (hl) ?_
  refine X.aload_n dX5_moves_23 rfl ?_
  refine X.iload_n dX5_moves_24 rfl ?_
  refine X.cV1i (k' := kX5_noTape) dX5_moves_25 (hM.1 44 (by decide) (by decide)) ⟨by decide, rfl⟩ v_X5_noTape wm_X5_102 wi_X5_noTape ws_X5_noTape ⟨Nat.le_of_ble_eq_true rfl, Nat.le_of_ble_eq_true rfl⟩ n_X5_noTape (Nat.le_of_ble_eq_true rfl) ?_
  refine m_noTape hM hc ?_
  refine ⟨_, rfl, ?_⟩
  refine X.istore_n dX5_moves_28 (Nat.le_of_ble_eq_true rfl) ?_
  refine X.iload_n dX5_moves_29 rfl ?_
  refine X.if_ne_f (tgt := 49) dX5_moves_30 (by decide) ((by rw [h0]; rfl)) ?_
  refine X.aload_n dX5_moves_33 rfl ?_
  refine X.getR (b := 46) (kf := 1) dX5_moves_34 (hM.1 44 (by decide) (by decide)) (by decide) (by decide) rfl wf_X5_13 (hM.2 1 (by decide)) ?_
  refine X.aload_n dX5_moves_37 rfl ?_
  refine X.getR (b := 50) (kf := 6) dX5_moves_38 (hM.1 44 (by decide) (by decide)) (by decide) (by decide) rfl wf_X5_27 (hM.2 6 (by decide)) ?_
  refine X.iload_n dX5_moves_41 rfl ?_
  refine X.iald dX5_moves_42 (hM.1 50 (by decide) (by decide)) (rfl) (hc) (by decide) ?_
  refine X.iald dX5_moves_43 (hM.1 46 (by decide) (by decide)) (et) (ht) (by decide) ?_
  refine X.if_ne_t (tgt := 49) dX5_moves_44 (by decide) ((by rw [es]; exact nI_neq (b := 0) hz (by omega) (by decide))) ?_
  refine X.iload_n dX5_moves_49 rfl ?_
  refine X.if_le_t (tgt := 63) dX5_moves_50 (by decide) ((by rw [h0]; decide)) ?_
  refine X.aload_n dX5_moves_63 rfl ?_
  refine X.getR (b := 46) (kf := 1) dX5_moves_64 (hM.1 44 (by decide) (by decide)) (by decide) (by decide) rfl wf_X5_13 (hM.2 1 (by decide)) ?_
  refine X.aload_n dX5_moves_67 rfl ?_
  refine X.getR (b := 50) (kf := 6) dX5_moves_68 (hM.1 44 (by decide) (by decide)) (by decide) (by decide) rfl wf_X5_27 (hM.2 6 (by decide)) ?_
  refine X.iload_n dX5_moves_71 rfl ?_
  refine X.iald dX5_moves_72 (hM.1 50 (by decide) (by decide)) (rfl) (hc) (by decide) ?_
  refine X.iald dX5_moves_73 (hM.1 46 (by decide) (by decide)) (et) (ht) (by decide) ?_
  refine X.istore dX5_moves_74 (Nat.le_of_ble_eq_true rfl) ?_
  refine X.iload_n dX5_moves_76 rfl ?_
  refine X.iload dX5_moves_77 rfl ?_
  refine X.irem dX5_moves_79 (by show ¬ mI μ 46 (tp μ c) = 0; rw [es]; exact nI_neq (b := 0) hz (by omega) (by decide)) ?_
  refine X.istore_n dX5_moves_80 (Nat.le_of_ble_eq_true rfl) ?_
  refine X.iload_n dX5_moves_81 rfl ?_
  refine X.if_ge (tgt := 92) dX5_moves_82 (by decide) (fun c82 => ?_) (fun c82 => ?_)
  · refine X.iload_n dX5_moves_92 rfl ?_
    refine X.istore_n dX5_moves_93 (Nat.le_of_ble_eq_true rfl) ?_
    refine X.aload_n dX5_moves_94 rfl ?_
    refine X.getR (b := 51) (kf := 7) dX5_moves_95 (hM.1 44 (by decide) (by decide)) (by decide) (by decide) rfl wf_X5_30 (hM.2 7 (by decide)) ?_
    refine X.iload_n dX5_moves_98 rfl ?_
    refine X.iload_n dX5_moves_99 rfl ?_
    refine X.iast dX5_moves_100 (hM.1 51 (by decide) (by decide)) (rfl) (hc) (by decide) ?_
    refine X.retv dX5_moves_101 ⟨trivial, ?_⟩
    unfold moveM at hq
    rw [if_neg hl, if_pos en] at hq
    unfold fmodM at hq
    first
      | (rw [if_pos c82] at hq; exact hq)
      | (rw [if_neg c82] at hq; exact hq)
  · refine X.iload_n dX5_moves_85 rfl ?_
    refine X.iload dX5_moves_86 rfl ?_
    refine X.iadd dX5_moves_88 ?_
    refine X.goto (tgt := 93) dX5_moves_89 (by decide) ?_
    refine X.istore_n dX5_moves_93 (Nat.le_of_ble_eq_true rfl) ?_
    refine X.aload_n dX5_moves_94 rfl ?_
    refine X.getR (b := 51) (kf := 7) dX5_moves_95 (hM.1 44 (by decide) (by decide)) (by decide) (by decide) rfl wf_X5_30 (hM.2 7 (by decide)) ?_
    refine X.iload_n dX5_moves_98 rfl ?_
    refine X.iload_n dX5_moves_99 rfl ?_
    refine X.iast dX5_moves_100 (hM.1 51 (by decide) (by decide)) (rfl) (hc) (by decide) ?_
    refine X.retv dX5_moves_101 ⟨trivial, ?_⟩
    unfold moveM at hq
    rw [if_neg hl, if_pos en] at hq
    unfold fmodM at hq
    first
      | (rw [if_pos c82] at hq; exact hq)
      | (rw [if_neg c82] at hq; exact hq)
theorem m_moves {c : Nat} {μ : xM} {Q : Option Value → xM → Prop} (hM : ShM μ) (hw : WFt μ) (hf : WFf μ) (hc : c < 16) (hq : Q none (moveM μ c)) : Mt kX5_moves [.ref 44, .int (nI c)] μ Q := by
  by_cases hl : mI μ 53 c = 0
  · exact m_moves1 hM hw hf hc hl hq
  · by_cases h0 : noTapeM μ c = 0
    · by_cases hz : sz μ (tp μ c) = 0
      · exact m_moves3 hM hw hf hc hl h0 hz hq
      · exact m_moves4 hM hw hf hc hl h0 hz hq
    · exact m_moves2 hM hw hf hc hl h0 hq
end
section
/-! the reference: what is written keeps the tapes well; swaps, carries (laid by wip/whole/mkmodel7.py) -/
theorem lx_0 : lx 0 = 0 := by decide
theorem cv_sJ {μ : xM} {t j t' j' : Nat} {v : Int64} (hj : j < 32) (hj' : j' < 32) : cv (sJ μ 48 (32 * t + j) v) t' j' = if t' = t ∧ j' = j then v else cv μ t' j' := by
  show (if (48 : Nat) = 48 ∧ 32 * t' + j' = 32 * t + j then v else mJ μ 48 (32 * t' + j')) = _
  by_cases h : t' = t ∧ j' = j
  · rw [if_pos h, if_pos ⟨rfl, by omega⟩]
  · rw [if_neg h, if_neg (by omega)]
    rfl
theorem WFt.sJ {μ : xM} (hw : WFt μ) {t j : Nat} {v : Int64} (ht : t < 560) (hj : j < sz μ t) (hv : 8 ≤ kd μ t → v = lN (lx v) ∧ lx v ≤ 560 ∧ (kd μ t < 10 → lx v ≤ 200)) : WFt (sJ μ 48 (32 * t + j) v) := by
  refine ⟨hw.1, hw.2.1, fun t' ht' h8 j' hj' => ?_⟩
  have l1 := (hw.2.1 t ht).2.2
  have l2 := (hw.2.1 t' ht').2.2
  have hj2 : j' < sz μ t' := hj'
  have h82 : 8 ≤ kd μ t' := h8
  rw [cv_sJ (by omega) (by omega)]
  by_cases h : t' = t ∧ j' = j
  · rw [if_pos h]
    obtain ⟨e1, e2⟩ := h
    subst e1
    exact hv h82
  · rw [if_neg h]
    exact hw.2.2 t' ht' h82 j' hj2
/-- a cell's value stands well for its kind -/
def cellOK (K : Nat) (v : Int64) : Prop := 8 ≤ K → v = lN (lx v) ∧ lx v ≤ 560 ∧ (K < 10 → lx v ≤ 200) ∧ (K = 11 → v = 0)
theorem read_ok {μ : xM} (hw : WFt μ) {t j : Nat} (ht : t < 560) (hj : j < sz μ t) : cellOK (cellKindM μ t j) (cv μ t j) := by
  intro hK
  unfold cellKindM at hK ⊢
  by_cases h8 : kd μ t < 8
  · rw [if_pos h8] at hK; omega
  · obtain ⟨ew, lw, lw2⟩ := hw.2.2 t ht (by omega) j hj
    have lk := (hw.2.1 t ht).1.2
    rw [if_neg h8]
    refine ⟨ew, lw, fun h => ?_, fun h => ?_⟩
    · by_cases hv : cv μ t j = 0
      · rw [hv, lx_0]; omega
      · rw [if_neg hv] at h
        by_cases h10 : kd μ t = 10
        · rw [if_pos h10] at h; omega
        · exact lw2 (by omega)
    · by_cases hv : cv μ t j = 0
      · exact hv
      · rw [if_neg hv] at h
        by_cases h10 : kd μ t = 10
        · rw [if_pos h10] at h; omega
        · rw [if_neg h10] at h
          split at h <;> omega
theorem takes_8 {k o : Nat} (h8 : 8 ≤ k) (h : takesM k o = true) : o = 11 ∨ o = k ∨ (k = 8 ∧ o = 9) := by
  unfold takesM at h
  rw [if_pos (by omega)] at h
  simp only [Bool.or_eq_true, beq_iff_eq, Bool.and_eq_true] at h
  omega
theorem write_ok {k K : Nat} {v : Int64} (h : takesM k K = true) (hv : cellOK K v) (h8 : 8 ≤ k) : fitM k v = lN (lx (fitM k v)) ∧ lx (fitM k v) ≤ 560 ∧ (k < 10 → lx (fitM k v) ≤ 200) := by
  rw [fit_id h8]
  rcases takes_8 h8 h with e | e | ⟨e1, e2⟩
  · obtain ⟨h1, h2, h3, h4⟩ := hv (by omega)
    have e0 := h4 e
    refine ⟨h1, h2, fun _ => ?_⟩
    rw [e0, lx_0]; omega
  · obtain ⟨h1, h2, h3, h4⟩ := hv (by omega)
    exact ⟨h1, h2, fun q => h3 (by omega)⟩
  · obtain ⟨h1, h2, h3, h4⟩ := hv (by omega)
    exact ⟨h1, h2, fun q => h3 (by omega)⟩
theorem WFt.writes {μ : xM} (hw : WFt μ) {c K : Nat} {i : Int32} {v : Int64} (hc : c < 16) (hv : cellOK K v) : WFt (writesM μ c i K v) := by
  unfold writesM
  by_cases hz : noWriteM μ c i K = 0
  · rw [if_pos hz]
    obtain ⟨hp, htk⟩ := noWrite_0 hz
    obtain ⟨h0, hr, ei, hi⟩ := noPlace_0 hp
    obtain ⟨ht, et⟩ := hw.1 c hc h0
    exact hw.sJ ht hi (write_ok htk hv)
  · rw [if_neg hz]; exact hw
theorem WFt.pass {μ : xM} (hw : WFt μ) {c d : Nat} {i j : Int32} (hc : c < 16) (hd : d < 16) : WFt (passM μ c i d j) := by
  unfold passM
  by_cases hz : noPlaceM μ c i = 0
  · rw [if_pos hz]
    obtain ⟨h0, hr, ei, hi⟩ := noPlace_0 hz
    obtain ⟨ht, et⟩ := hw.1 c hc h0
    exact hw.writes hd (read_ok hw ht hi)
  · rw [if_neg hz]; exact hw
theorem sJ_form (μ : xM) (a : Nat) (v : Int64) : ∃ w, sJ μ 48 a v = sB μ w := by
  refine ⟨fun j => if j = a then v else mJ μ 48 j, ?_⟩
  show (mT μ, mI μ, up2 (mJ μ) 48 a v, mR μ, mN μ, mS μ) = (mT μ, mI μ, (fun b j => if b = 48 then (if j = a then v else mJ μ 48 j) else mJ μ b j), mR μ, mN μ, mS μ)
  congr 3
  funext b j
  show (if b = 48 ∧ j = a then v else mJ μ b j) = (if b = 48 then (if j = a then v else mJ μ 48 j) else mJ μ b j)
  by_cases h : b = 48
  · rw [if_pos h]
    by_cases h2 : j = a
    · rw [if_pos ⟨h, h2⟩, if_pos h2]
    · rw [if_neg (fun q => h2 q.2), if_neg h2, h]
  · rw [if_neg (fun q => h q.1), if_neg h]
theorem sB_self (μ : xM) : ∃ w, μ = sB μ w := by
  refine ⟨mJ μ 48, ?_⟩
  show μ = (mT μ, mI μ, (fun b j => if b = 48 then mJ μ 48 j else mJ μ b j), mR μ, mN μ, mS μ)
  have e : (fun b j => if b = 48 then mJ μ 48 j else mJ μ b j) = mJ μ := by
    funext b j
    by_cases h : b = 48
    · rw [if_pos h, h]
    · rw [if_neg h]
  rw [e]
  rfl
theorem sB_sB (μ : xM) (w w' : Nat → Int64) : sB (sB μ w) w' = sB μ w' := by
  show (mT μ, mI μ, (fun b j => if b = 48 then w' j else (if b = 48 then w j else mJ μ b j)), mR μ, mN μ, mS μ) = (mT μ, mI μ, (fun b j => if b = 48 then w' j else mJ μ b j), mR μ, mN μ, mS μ)
  congr 3
  funext b j
  by_cases h : b = 48
  · rw [if_pos h, if_pos h]
  · rw [if_neg h, if_neg h, if_neg h]
theorem writes_form (μ : xM) (c : Nat) (i : Int32) (K : Nat) (v : Int64) : ∃ w, writesM μ c i K v = sB μ w := by
  unfold writesM
  split
  · exact sJ_form _ _ _
  · exact sB_self μ
theorem pass_form (μ : xM) (c : Nat) (i : Int32) (d : Nat) (j : Int32) : ∃ w, passM μ c i d j = sB μ w := by
  unfold passM
  split
  · exact writes_form _ _ _ _ _
  · exact sB_self μ
def noChangeM (μ : xM) (c : Nat) (i : Int32) (d : Nat) (j : Int32) : Nat := if noPlaceM μ c i = 0 then (if noPlaceM μ d j = 0 then (if noTakeM (kd μ (tp μ d)) (cellKindM μ (tp μ c) (ix i)) = 0 then noTakeM (kd μ (tp μ c)) (cellKindM μ (tp μ d) (ix j)) else noTakeM (kd μ (tp μ d)) (cellKindM μ (tp μ c) (ix i))) else noPlaceM μ d j) else noPlaceM μ c i
def changeM (μ : xM) (c : Nat) (i : Int32) (d : Nat) (j : Int32) : xM := if noChangeM μ c i d j = 0 then sJ (sJ μ 48 (32 * tp μ d + ix j) (fitM (kd μ (tp μ d)) (cv μ (tp μ c) (ix i)))) 48 (32 * tp μ c + ix i) (fitM (kd μ (tp μ c)) (cv μ (tp μ d) (ix j))) else μ
theorem change_form (μ : xM) (c : Nat) (i : Int32) (d : Nat) (j : Int32) : ∃ w, changeM μ c i d j = sB μ w := by
  unfold changeM
  split
  · obtain ⟨w, e⟩ := sJ_form μ (32 * tp μ d + ix j) (fitM (kd μ (tp μ d)) (cv μ (tp μ c) (ix i)))
    rw [e]
    obtain ⟨w2, e2⟩ := sJ_form (sB μ w) (32 * tp μ c + ix i) (fitM (kd μ (tp μ c)) (cv μ (tp μ d) (ix j)))
    rw [e2, sB_sB]
    exact ⟨w2, rfl⟩
  · exact sB_self μ
theorem noTake_0 {k o : Nat} (h : noTakeM k o = 0) : takesM k o = true := by
  unfold noTakeM at h
  by_cases q : takesM k o = true
  · exact q
  · rw [if_neg q] at h; cases h
theorem noChange_le (μ : xM) (c : Nat) (i : Int32) (d : Nat) (j : Int32) : noChangeM μ c i d j < 6 := by
  unfold noChangeM
  split
  · split
    · split
      · exact noTake_le _ _
      · exact noTake_le _ _
    · exact noPlace_le _ _ _
  · exact noPlace_le _ _ _
theorem noChange_0 {μ : xM} {c d : Nat} {i j : Int32} (h : noChangeM μ c i d j = 0) : noPlaceM μ c i = 0 ∧ noPlaceM μ d j = 0 ∧ takesM (kd μ (tp μ d)) (cellKindM μ (tp μ c) (ix i)) = true ∧ takesM (kd μ (tp μ c)) (cellKindM μ (tp μ d) (ix j)) = true := by
  unfold noChangeM at h
  by_cases h1 : noPlaceM μ c i = 0
  · rw [if_pos h1] at h
    by_cases h2 : noPlaceM μ d j = 0
    · rw [if_pos h2] at h
      by_cases h3 : noTakeM (kd μ (tp μ d)) (cellKindM μ (tp μ c) (ix i)) = 0
      · rw [if_pos h3] at h
        exact ⟨h1, h2, noTake_0 h3, noTake_0 h⟩
      · rw [if_neg h3] at h; exact absurd h h3
    · rw [if_neg h2] at h; exact absurd h h2
  · rw [if_neg h1] at h; exact absurd h h1
theorem WFt.change {μ : xM} (hw : WFt μ) {c d : Nat} {i j : Int32} (hc : c < 16) (hd : d < 16) : WFt (changeM μ c i d j) := by
  unfold changeM
  by_cases hz : noChangeM μ c i d j = 0
  · rw [if_pos hz]
    obtain ⟨h1, h2, h3, h4⟩ := noChange_0 hz
    obtain ⟨a0, ar, ae, ai⟩ := noPlace_0 h1
    obtain ⟨b0, br, be, bi⟩ := noPlace_0 h2
    obtain ⟨ht, -⟩ := hw.1 c hc a0
    obtain ⟨hu, -⟩ := hw.1 d hd b0
    exact (hw.sJ hu bi (write_ok h3 (read_ok hw ht ai))).sJ (t := tp μ c) ht ai (write_ok h4 (read_ok hw hu bi))
  · rw [if_neg hz]; exact hw
set_option maxRecDepth 100000 in
set_option maxHeartbeats 4000000 in
theorem m_changes1 {c d : Nat} {i j : Int32} {μ : xM} {Q : Option Value → xM → Prop} (hM : ShM μ) (hw : WFt μ) (hc : c < 16) (hd : d < 16) (h1 : ¬ noPlaceM μ c i = 0) (hq : Q (some (.int (nI (noChangeM μ c i d j)))) (changeM μ c i d j)) : Mt kX5_changes [.ref 44, .int (nI c), .int i, .int (nI d), .int j] μ Q := by
  have e1 : noChangeM μ c i d j = noPlaceM μ c i := by unfold noChangeM; rw [if_neg h1]
  unfold changeM at hq
  rw [if_neg (by rw [e1]; exact h1), e1] at hq
  refine Mt.enter rfl (Nat.le_of_ble_eq_true rfl) ?_
  refine X.aload_n dX5_changes_0 rfl ?_
  refine X.iload_n dX5_changes_1 rfl ?_
  refine X.iload_n dX5_changes_2 rfl ?_
  refine X.cV2i (k' := kX5_noPlace) dX5_changes_3 (hM.1 44 (by decide) (by decide)) ⟨by decide, rfl⟩ v_X5_noPlace wm_X5_113 wi_X5_noPlace ws_X5_noPlace ⟨Nat.le_of_ble_eq_true rfl, Nat.le_of_ble_eq_true rfl⟩ n_X5_noPlace (Nat.le_of_ble_eq_true rfl) ?_
  refine m_noPlace hM hw hc ?_
  refine ⟨_, rfl, ?_⟩
  refine X.istore dX5_changes_6 (Nat.le_of_ble_eq_true rfl) ?_
  refine X.iload dX5_changes_8 rfl ?_
  refine X.if_ne_t (tgt := 22) dX5_changes_10 (by decide) (nI_neq (b := 0) h1 (by have := noPlace_le μ c i; omega) (by decide)) ?_
  refine X.iload dX5_changes_22 rfl ?_
  refine X.if_le_f (tgt := 30) dX5_changes_24 (by decide) (fun q => h1 (nI_le0 q (by have := noPlace_le μ c i; omega))) ?_
  refine X.iload dX5_changes_27 rfl ?_
  refine X.ret dX5_changes_29 ⟨trivial, ?_⟩
  exact hq
set_option maxRecDepth 100000 in
set_option maxHeartbeats 4000000 in
theorem m_changes2 {c d : Nat} {i j : Int32} {μ : xM} {Q : Option Value → xM → Prop} (hM : ShM μ) (hw : WFt μ) (hc : c < 16) (hd : d < 16) (h1 : noPlaceM μ c i = 0) (h2 : ¬ noPlaceM μ d j = 0) (hq : Q (some (.int (nI (noChangeM μ c i d j)))) (changeM μ c i d j)) : Mt kX5_changes [.ref 44, .int (nI c), .int i, .int (nI d), .int j] μ Q := by
  have e1 : noChangeM μ c i d j = noPlaceM μ d j := by unfold noChangeM; rw [if_pos h1, if_neg h2]
  unfold changeM at hq
  rw [if_neg (by rw [e1]; exact h2), e1] at hq
  refine Mt.enter rfl (Nat.le_of_ble_eq_true rfl) ?_
  refine X.aload_n dX5_changes_0 rfl ?_
  refine X.iload_n dX5_changes_1 rfl ?_
  refine X.iload_n dX5_changes_2 rfl ?_
  refine X.cV2i (k' := kX5_noPlace) dX5_changes_3 (hM.1 44 (by decide) (by decide)) ⟨by decide, rfl⟩ v_X5_noPlace wm_X5_113 wi_X5_noPlace ws_X5_noPlace ⟨Nat.le_of_ble_eq_true rfl, Nat.le_of_ble_eq_true rfl⟩ n_X5_noPlace (Nat.le_of_ble_eq_true rfl) ?_
  refine m_noPlace hM hw hc ?_
  refine ⟨_, rfl, ?_⟩
  refine X.istore dX5_changes_6 (Nat.le_of_ble_eq_true rfl) ?_
  refine X.iload dX5_changes_8 rfl ?_
  refine X.if_ne_f (tgt := 22) dX5_changes_10 (by decide) ((by rw [h1]; rfl)) ?_
  refine X.aload_n dX5_changes_13 rfl ?_
  refine X.iload_n dX5_changes_14 rfl ?_
  refine X.iload dX5_changes_15 rfl ?_
  refine X.cV2i (k' := kX5_noPlace) dX5_changes_17 (hM.1 44 (by decide) (by decide)) ⟨by decide, rfl⟩ v_X5_noPlace wm_X5_113 wi_X5_noPlace ws_X5_noPlace ⟨Nat.le_of_ble_eq_true rfl, Nat.le_of_ble_eq_true rfl⟩ n_X5_noPlace (Nat.le_of_ble_eq_true rfl) ?_
  refine m_noPlace hM hw hd ?_
  refine ⟨_, rfl, ?_⟩
  refine X.istore dX5_changes_20 (Nat.le_of_ble_eq_true rfl) ?_
  refine X.iload dX5_changes_22 rfl ?_
  refine X.if_le_f (tgt := 30) dX5_changes_24 (by decide) (fun q => h2 (nI_le0 q (by have := noPlace_le μ d j; omega))) ?_
  refine X.iload dX5_changes_27 rfl ?_
  refine X.ret dX5_changes_29 ⟨trivial, ?_⟩
  exact hq
set_option maxRecDepth 100000 in
set_option maxHeartbeats 4000000 in
theorem m_changes3 {c d : Nat} {i j : Int32} {μ : xM} {Q : Option Value → xM → Prop} (hM : ShM μ) (hw : WFt μ) (hc : c < 16) (hd : d < 16) (h1 : noPlaceM μ c i = 0) (h2 : noPlaceM μ d j = 0) (h3 : ¬ noTakeM (kd μ (tp μ d)) (cellKindM μ (tp μ c) (ix i)) = 0) (hq : Q (some (.int (nI (noChangeM μ c i d j)))) (changeM μ c i d j)) : Mt kX5_changes [.ref 44, .int (nI c), .int i, .int (nI d), .int j] μ Q := by
  obtain ⟨a0, ar, ae, ai⟩ := noPlace_0 h1
  obtain ⟨b0, br, be, bi⟩ := noPlace_0 h2
  obtain ⟨ht, et⟩ := hw.1 c hc a0
  obtain ⟨hu, eu⟩ := hw.1 d hd b0
  obtain ⟨⟨ek, lk⟩, es, ls⟩ := hw.2.1 _ ht
  obtain ⟨⟨ek2, lk2⟩, es2, ls2⟩ := hw.2.1 _ hu
  have e1 : noChangeM μ c i d j = noTakeM (kd μ (tp μ d)) (cellKindM μ (tp μ c) (ix i)) := by unfold noChangeM; rw [if_pos h1, if_pos h2, if_neg h3]
  unfold changeM at hq
  rw [if_neg (by rw [e1]; exact h3), e1] at hq
  have okc := read_ok hw ht ai
  have okd := read_ok hw hu bi
  generalize hgi : ix i = i0 at *
  generalize hgj : ix j = j0 at *
  subst ae
  subst be
  refine Mt.enter rfl (Nat.le_of_ble_eq_true rfl) ?_
  refine X.aload_n dX5_changes_0 rfl ?_
  refine X.iload_n dX5_changes_1 rfl ?_
  refine X.iload_n dX5_changes_2 rfl ?_
  refine X.cV2i (k' := kX5_noPlace) dX5_changes_3 (hM.1 44 (by decide) (by decide)) ⟨by decide, rfl⟩ v_X5_noPlace wm_X5_113 wi_X5_noPlace ws_X5_noPlace ⟨Nat.le_of_ble_eq_true rfl, Nat.le_of_ble_eq_true rfl⟩ n_X5_noPlace (Nat.le_of_ble_eq_true rfl) ?_
  refine m_noPlace hM hw hc ?_
  refine ⟨_, rfl, ?_⟩
  refine X.istore dX5_changes_6 (Nat.le_of_ble_eq_true rfl) ?_
  refine X.iload dX5_changes_8 rfl ?_
  refine X.if_ne_f (tgt := 22) dX5_changes_10 (by decide) ((by rw [h1]; rfl)) ?_
  refine X.aload_n dX5_changes_13 rfl ?_
  refine X.iload_n dX5_changes_14 rfl ?_
  refine X.iload dX5_changes_15 rfl ?_
  refine X.cV2i (k' := kX5_noPlace) dX5_changes_17 (hM.1 44 (by decide) (by decide)) ⟨by decide, rfl⟩ v_X5_noPlace wm_X5_113 wi_X5_noPlace ws_X5_noPlace ⟨Nat.le_of_ble_eq_true rfl, Nat.le_of_ble_eq_true rfl⟩ n_X5_noPlace (Nat.le_of_ble_eq_true rfl) ?_
  refine m_noPlace hM hw hd ?_
  refine ⟨_, rfl, ?_⟩
  refine X.istore dX5_changes_20 (Nat.le_of_ble_eq_true rfl) ?_
  refine X.iload dX5_changes_22 rfl ?_
  refine X.if_le_t (tgt := 30) dX5_changes_24 (by decide) ((by rw [h2]; decide)) ?_
  refine X.aload_n dX5_changes_30 rfl ?_
  refine X.aload_n dX5_changes_31 rfl ?_
  refine X.getR (b := 50) (kf := 6) dX5_changes_32 (hM.1 44 (by decide) (by decide)) (by decide) (by decide) rfl wf_X5_27 (hM.2 6 (by decide)) ?_
  refine X.iload_n dX5_changes_35 rfl ?_
  refine X.iald dX5_changes_36 (hM.1 50 (by decide) (by decide)) (rfl) (hc) (by decide) ?_
  refine X.iload_n dX5_changes_37 rfl ?_
  refine X.cV2i (k' := kX5_cellKind) dX5_changes_38 (hM.1 44 (by decide) (by decide)) ⟨by decide, rfl⟩ v_X5_cellKind wm_X5_130 wi_X5_cellKind ws_X5_cellKind ⟨Nat.le_of_ble_eq_true rfl, Nat.le_of_ble_eq_true rfl⟩ n_X5_cellKind (Nat.le_of_ble_eq_true rfl) ?_
  rw [et]
  refine m_cellKind hM hw ht ai ?_
  refine ⟨_, rfl, ?_⟩
  refine X.istore dX5_changes_41 (Nat.le_of_ble_eq_true rfl) ?_
  refine X.aload_n dX5_changes_43 rfl ?_
  refine X.aload_n dX5_changes_44 rfl ?_
  refine X.getR (b := 50) (kf := 6) dX5_changes_45 (hM.1 44 (by decide) (by decide)) (by decide) (by decide) rfl wf_X5_27 (hM.2 6 (by decide)) ?_
  refine X.iload_n dX5_changes_48 rfl ?_
  refine X.iald dX5_changes_49 (hM.1 50 (by decide) (by decide)) (rfl) (hd) (by decide) ?_
  refine X.iload dX5_changes_50 rfl ?_
  refine X.cV2i (k' := kX5_cellKind) dX5_changes_52 (hM.1 44 (by decide) (by decide)) ⟨by decide, rfl⟩ v_X5_cellKind wm_X5_130 wi_X5_cellKind ws_X5_cellKind ⟨Nat.le_of_ble_eq_true rfl, Nat.le_of_ble_eq_true rfl⟩ n_X5_cellKind (Nat.le_of_ble_eq_true rfl) ?_
  rw [eu]
  refine m_cellKind hM hw hu bi ?_
  refine ⟨_, rfl, ?_⟩
  refine X.istore dX5_changes_55 (Nat.le_of_ble_eq_true rfl) ?_
  refine X.aload_n dX5_changes_57 rfl ?_
  refine X.iload_n dX5_changes_58 rfl ?_
  refine X.cV1i (k' := kX5_kindOf) dX5_changes_59 (hM.1 44 (by decide) (by decide)) ⟨by decide, rfl⟩ v_X5_kindOf wm_X5_110 wi_X5_kindOf ws_X5_kindOf ⟨Nat.le_of_ble_eq_true rfl, Nat.le_of_ble_eq_true rfl⟩ n_X5_kindOf (Nat.le_of_ble_eq_true rfl) ?_
  refine m_kindOf hM hw hd b0 ?_
  refine ⟨_, rfl, ?_⟩
  refine X.iload dX5_changes_62 rfl ?_
  refine X.cS2i (k' := kX5_noTake) dX5_changes_64 v_X5_noTake wm_X5_117 wt_X5_noTake ⟨Nat.le_of_ble_eq_true rfl, Nat.le_of_ble_eq_true rfl⟩ n_X5_noTake (Nat.le_of_ble_eq_true rfl) ?_
  refine m_noTake lk2 (Nat.le_trans cellKind_le (by decide)) ?_
  refine ⟨_, rfl, ?_⟩
  refine X.istore dX5_changes_67 (Nat.le_of_ble_eq_true rfl) ?_
  refine X.iload dX5_changes_69 rfl ?_
  refine X.if_ne_t (tgt := 86) dX5_changes_71 (by decide) (nI_neq (b := 0) h3 (by have := noTake_le (kd μ (tp μ d)) (cellKindM μ (tp μ c) i0); omega) (by decide)) ?_
  refine X.iload dX5_changes_86 rfl ?_
  refine X.if_le_f (tgt := 94) dX5_changes_88 (by decide) (fun q => h3 (nI_le0 q (by have := noTake_le (kd μ (tp μ d)) (cellKindM μ (tp μ c) i0); omega))) ?_
  refine X.iload dX5_changes_91 rfl ?_
  refine X.ret dX5_changes_93 ⟨trivial, ?_⟩
  exact hq
set_option maxRecDepth 100000 in
set_option maxHeartbeats 4000000 in
theorem m_changes4 {c d : Nat} {i j : Int32} {μ : xM} {Q : Option Value → xM → Prop} (hM : ShM μ) (hw : WFt μ) (hc : c < 16) (hd : d < 16) (h1 : noPlaceM μ c i = 0) (h2 : noPlaceM μ d j = 0) (h3 : noTakeM (kd μ (tp μ d)) (cellKindM μ (tp μ c) (ix i)) = 0) (h4 : ¬ noTakeM (kd μ (tp μ c)) (cellKindM μ (tp μ d) (ix j)) = 0) (hq : Q (some (.int (nI (noChangeM μ c i d j)))) (changeM μ c i d j)) : Mt kX5_changes [.ref 44, .int (nI c), .int i, .int (nI d), .int j] μ Q := by
  obtain ⟨a0, ar, ae, ai⟩ := noPlace_0 h1
  obtain ⟨b0, br, be, bi⟩ := noPlace_0 h2
  obtain ⟨ht, et⟩ := hw.1 c hc a0
  obtain ⟨hu, eu⟩ := hw.1 d hd b0
  obtain ⟨⟨ek, lk⟩, es, ls⟩ := hw.2.1 _ ht
  obtain ⟨⟨ek2, lk2⟩, es2, ls2⟩ := hw.2.1 _ hu
  have e1 : noChangeM μ c i d j = noTakeM (kd μ (tp μ c)) (cellKindM μ (tp μ d) (ix j)) := by unfold noChangeM; rw [if_pos h1, if_pos h2, if_pos h3]
  unfold changeM at hq
  rw [if_neg (by rw [e1]; exact h4), e1] at hq
  have okc := read_ok hw ht ai
  have okd := read_ok hw hu bi
  generalize hgi : ix i = i0 at *
  generalize hgj : ix j = j0 at *
  subst ae
  subst be
  refine Mt.enter rfl (Nat.le_of_ble_eq_true rfl) ?_
  refine X.aload_n dX5_changes_0 rfl ?_
  refine X.iload_n dX5_changes_1 rfl ?_
  refine X.iload_n dX5_changes_2 rfl ?_
  refine X.cV2i (k' := kX5_noPlace) dX5_changes_3 (hM.1 44 (by decide) (by decide)) ⟨by decide, rfl⟩ v_X5_noPlace wm_X5_113 wi_X5_noPlace ws_X5_noPlace ⟨Nat.le_of_ble_eq_true rfl, Nat.le_of_ble_eq_true rfl⟩ n_X5_noPlace (Nat.le_of_ble_eq_true rfl) ?_
  refine m_noPlace hM hw hc ?_
  refine ⟨_, rfl, ?_⟩
  refine X.istore dX5_changes_6 (Nat.le_of_ble_eq_true rfl) ?_
  refine X.iload dX5_changes_8 rfl ?_
  refine X.if_ne_f (tgt := 22) dX5_changes_10 (by decide) ((by rw [h1]; rfl)) ?_
  refine X.aload_n dX5_changes_13 rfl ?_
  refine X.iload_n dX5_changes_14 rfl ?_
  refine X.iload dX5_changes_15 rfl ?_
  refine X.cV2i (k' := kX5_noPlace) dX5_changes_17 (hM.1 44 (by decide) (by decide)) ⟨by decide, rfl⟩ v_X5_noPlace wm_X5_113 wi_X5_noPlace ws_X5_noPlace ⟨Nat.le_of_ble_eq_true rfl, Nat.le_of_ble_eq_true rfl⟩ n_X5_noPlace (Nat.le_of_ble_eq_true rfl) ?_
  refine m_noPlace hM hw hd ?_
  refine ⟨_, rfl, ?_⟩
  refine X.istore dX5_changes_20 (Nat.le_of_ble_eq_true rfl) ?_
  refine X.iload dX5_changes_22 rfl ?_
  refine X.if_le_t (tgt := 30) dX5_changes_24 (by decide) ((by rw [h2]; decide)) ?_
  refine X.aload_n dX5_changes_30 rfl ?_
  refine X.aload_n dX5_changes_31 rfl ?_
  refine X.getR (b := 50) (kf := 6) dX5_changes_32 (hM.1 44 (by decide) (by decide)) (by decide) (by decide) rfl wf_X5_27 (hM.2 6 (by decide)) ?_
  refine X.iload_n dX5_changes_35 rfl ?_
  refine X.iald dX5_changes_36 (hM.1 50 (by decide) (by decide)) (rfl) (hc) (by decide) ?_
  refine X.iload_n dX5_changes_37 rfl ?_
  refine X.cV2i (k' := kX5_cellKind) dX5_changes_38 (hM.1 44 (by decide) (by decide)) ⟨by decide, rfl⟩ v_X5_cellKind wm_X5_130 wi_X5_cellKind ws_X5_cellKind ⟨Nat.le_of_ble_eq_true rfl, Nat.le_of_ble_eq_true rfl⟩ n_X5_cellKind (Nat.le_of_ble_eq_true rfl) ?_
  rw [et]
  refine m_cellKind hM hw ht ai ?_
  refine ⟨_, rfl, ?_⟩
  refine X.istore dX5_changes_41 (Nat.le_of_ble_eq_true rfl) ?_
  refine X.aload_n dX5_changes_43 rfl ?_
  refine X.aload_n dX5_changes_44 rfl ?_
  refine X.getR (b := 50) (kf := 6) dX5_changes_45 (hM.1 44 (by decide) (by decide)) (by decide) (by decide) rfl wf_X5_27 (hM.2 6 (by decide)) ?_
  refine X.iload_n dX5_changes_48 rfl ?_
  refine X.iald dX5_changes_49 (hM.1 50 (by decide) (by decide)) (rfl) (hd) (by decide) ?_
  refine X.iload dX5_changes_50 rfl ?_
  refine X.cV2i (k' := kX5_cellKind) dX5_changes_52 (hM.1 44 (by decide) (by decide)) ⟨by decide, rfl⟩ v_X5_cellKind wm_X5_130 wi_X5_cellKind ws_X5_cellKind ⟨Nat.le_of_ble_eq_true rfl, Nat.le_of_ble_eq_true rfl⟩ n_X5_cellKind (Nat.le_of_ble_eq_true rfl) ?_
  rw [eu]
  refine m_cellKind hM hw hu bi ?_
  refine ⟨_, rfl, ?_⟩
  refine X.istore dX5_changes_55 (Nat.le_of_ble_eq_true rfl) ?_
  refine X.aload_n dX5_changes_57 rfl ?_
  refine X.iload_n dX5_changes_58 rfl ?_
  refine X.cV1i (k' := kX5_kindOf) dX5_changes_59 (hM.1 44 (by decide) (by decide)) ⟨by decide, rfl⟩ v_X5_kindOf wm_X5_110 wi_X5_kindOf ws_X5_kindOf ⟨Nat.le_of_ble_eq_true rfl, Nat.le_of_ble_eq_true rfl⟩ n_X5_kindOf (Nat.le_of_ble_eq_true rfl) ?_
  refine m_kindOf hM hw hd b0 ?_
  refine ⟨_, rfl, ?_⟩
  refine X.iload dX5_changes_62 rfl ?_
  refine X.cS2i (k' := kX5_noTake) dX5_changes_64 v_X5_noTake wm_X5_117 wt_X5_noTake ⟨Nat.le_of_ble_eq_true rfl, Nat.le_of_ble_eq_true rfl⟩ n_X5_noTake (Nat.le_of_ble_eq_true rfl) ?_
  refine m_noTake lk2 (Nat.le_trans cellKind_le (by decide)) ?_
  refine ⟨_, rfl, ?_⟩
  refine X.istore dX5_changes_67 (Nat.le_of_ble_eq_true rfl) ?_
  refine X.iload dX5_changes_69 rfl ?_
  refine X.if_ne_f (tgt := 86) dX5_changes_71 (by decide) ((by rw [h3]; rfl)) ?_
  refine X.aload_n dX5_changes_74 rfl ?_
  refine X.iload_n dX5_changes_75 rfl ?_
  refine X.cV1i (k' := kX5_kindOf) dX5_changes_76 (hM.1 44 (by decide) (by decide)) ⟨by decide, rfl⟩ v_X5_kindOf wm_X5_110 wi_X5_kindOf ws_X5_kindOf ⟨Nat.le_of_ble_eq_true rfl, Nat.le_of_ble_eq_true rfl⟩ n_X5_kindOf (Nat.le_of_ble_eq_true rfl) ?_
  refine m_kindOf hM hw hc a0 ?_
  refine ⟨_, rfl, ?_⟩
  refine X.iload dX5_changes_79 rfl ?_
  refine X.cS2i (k' := kX5_noTake) dX5_changes_81 v_X5_noTake wm_X5_117 wt_X5_noTake ⟨Nat.le_of_ble_eq_true rfl, Nat.le_of_ble_eq_true rfl⟩ n_X5_noTake (Nat.le_of_ble_eq_true rfl) ?_
  refine m_noTake lk (Nat.le_trans cellKind_le (by decide)) ?_
  refine ⟨_, rfl, ?_⟩
  refine X.istore dX5_changes_84 (Nat.le_of_ble_eq_true rfl) ?_
  refine X.iload dX5_changes_86 rfl ?_
  refine X.if_le_f (tgt := 94) dX5_changes_88 (by decide) (fun q => h4 (nI_le0 q (by have := noTake_le (kd μ (tp μ c)) (cellKindM μ (tp μ d) j0); omega))) ?_
  refine X.iload dX5_changes_91 rfl ?_
  refine X.ret dX5_changes_93 ⟨trivial, ?_⟩
  exact hq
set_option maxRecDepth 100000 in
set_option maxHeartbeats 4000000 in
theorem m_changes5 {c d : Nat} {i j : Int32} {μ : xM} {Q : Option Value → xM → Prop} (hM : ShM μ) (hw : WFt μ) (hc : c < 16) (hd : d < 16) (h1 : noPlaceM μ c i = 0) (h2 : noPlaceM μ d j = 0) (h3 : noTakeM (kd μ (tp μ d)) (cellKindM μ (tp μ c) (ix i)) = 0) (h4 : noTakeM (kd μ (tp μ c)) (cellKindM μ (tp μ d) (ix j)) = 0) (hq : Q (some (.int (nI (noChangeM μ c i d j)))) (changeM μ c i d j)) : Mt kX5_changes [.ref 44, .int (nI c), .int i, .int (nI d), .int j] μ Q := by
  obtain ⟨a0, ar, ae, ai⟩ := noPlace_0 h1
  obtain ⟨b0, br, be, bi⟩ := noPlace_0 h2
  obtain ⟨ht, et⟩ := hw.1 c hc a0
  obtain ⟨hu, eu⟩ := hw.1 d hd b0
  obtain ⟨⟨ek, lk⟩, es, ls⟩ := hw.2.1 _ ht
  obtain ⟨⟨ek2, lk2⟩, es2, ls2⟩ := hw.2.1 _ hu
  have e1 : noChangeM μ c i d j = 0 := by unfold noChangeM; rw [if_pos h1, if_pos h2, if_pos h3]; exact h4
  unfold changeM at hq
  rw [if_pos e1, e1] at hq
  have okc := read_ok hw ht ai
  have okd := read_ok hw hu bi
  generalize hgi : ix i = i0 at *
  generalize hgj : ix j = j0 at *
  subst ae
  subst be
  have hw2 := hw.sJ (v := fitM (kd μ (tp μ d)) (cv μ (tp μ c) i0)) hu bi (write_ok (noTake_0 h3) okc)
  refine Mt.enter rfl (Nat.le_of_ble_eq_true rfl) ?_
  refine X.aload_n dX5_changes_0 rfl ?_
  refine X.iload_n dX5_changes_1 rfl ?_
  refine X.iload_n dX5_changes_2 rfl ?_
  refine X.cV2i (k' := kX5_noPlace) dX5_changes_3 (hM.1 44 (by decide) (by decide)) ⟨by decide, rfl⟩ v_X5_noPlace wm_X5_113 wi_X5_noPlace ws_X5_noPlace ⟨Nat.le_of_ble_eq_true rfl, Nat.le_of_ble_eq_true rfl⟩ n_X5_noPlace (Nat.le_of_ble_eq_true rfl) ?_
  refine m_noPlace hM hw hc ?_
  refine ⟨_, rfl, ?_⟩
  refine X.istore dX5_changes_6 (Nat.le_of_ble_eq_true rfl) ?_
  refine X.iload dX5_changes_8 rfl ?_
  refine X.if_ne_f (tgt := 22) dX5_changes_10 (by decide) ((by rw [h1]; rfl)) ?_
  refine X.aload_n dX5_changes_13 rfl ?_
  refine X.iload_n dX5_changes_14 rfl ?_
  refine X.iload dX5_changes_15 rfl ?_
  refine X.cV2i (k' := kX5_noPlace) dX5_changes_17 (hM.1 44 (by decide) (by decide)) ⟨by decide, rfl⟩ v_X5_noPlace wm_X5_113 wi_X5_noPlace ws_X5_noPlace ⟨Nat.le_of_ble_eq_true rfl, Nat.le_of_ble_eq_true rfl⟩ n_X5_noPlace (Nat.le_of_ble_eq_true rfl) ?_
  refine m_noPlace hM hw hd ?_
  refine ⟨_, rfl, ?_⟩
  refine X.istore dX5_changes_20 (Nat.le_of_ble_eq_true rfl) ?_
  refine X.iload dX5_changes_22 rfl ?_
  refine X.if_le_t (tgt := 30) dX5_changes_24 (by decide) ((by rw [h2]; decide)) ?_
  refine X.aload_n dX5_changes_30 rfl ?_
  refine X.aload_n dX5_changes_31 rfl ?_
  refine X.getR (b := 50) (kf := 6) dX5_changes_32 (hM.1 44 (by decide) (by decide)) (by decide) (by decide) rfl wf_X5_27 (hM.2 6 (by decide)) ?_
  refine X.iload_n dX5_changes_35 rfl ?_
  refine X.iald dX5_changes_36 (hM.1 50 (by decide) (by decide)) (rfl) (hc) (by decide) ?_
  refine X.iload_n dX5_changes_37 rfl ?_
  refine X.cV2i (k' := kX5_cellKind) dX5_changes_38 (hM.1 44 (by decide) (by decide)) ⟨by decide, rfl⟩ v_X5_cellKind wm_X5_130 wi_X5_cellKind ws_X5_cellKind ⟨Nat.le_of_ble_eq_true rfl, Nat.le_of_ble_eq_true rfl⟩ n_X5_cellKind (Nat.le_of_ble_eq_true rfl) ?_
  rw [et]
  refine m_cellKind hM hw ht ai ?_
  refine ⟨_, rfl, ?_⟩
  refine X.istore dX5_changes_41 (Nat.le_of_ble_eq_true rfl) ?_
  refine X.aload_n dX5_changes_43 rfl ?_
  refine X.aload_n dX5_changes_44 rfl ?_
  refine X.getR (b := 50) (kf := 6) dX5_changes_45 (hM.1 44 (by decide) (by decide)) (by decide) (by decide) rfl wf_X5_27 (hM.2 6 (by decide)) ?_
  refine X.iload_n dX5_changes_48 rfl ?_
  refine X.iald dX5_changes_49 (hM.1 50 (by decide) (by decide)) (rfl) (hd) (by decide) ?_
  refine X.iload dX5_changes_50 rfl ?_
  refine X.cV2i (k' := kX5_cellKind) dX5_changes_52 (hM.1 44 (by decide) (by decide)) ⟨by decide, rfl⟩ v_X5_cellKind wm_X5_130 wi_X5_cellKind ws_X5_cellKind ⟨Nat.le_of_ble_eq_true rfl, Nat.le_of_ble_eq_true rfl⟩ n_X5_cellKind (Nat.le_of_ble_eq_true rfl) ?_
  rw [eu]
  refine m_cellKind hM hw hu bi ?_
  refine ⟨_, rfl, ?_⟩
  refine X.istore dX5_changes_55 (Nat.le_of_ble_eq_true rfl) ?_
  refine X.aload_n dX5_changes_57 rfl ?_
  refine X.iload_n dX5_changes_58 rfl ?_
  refine X.cV1i (k' := kX5_kindOf) dX5_changes_59 (hM.1 44 (by decide) (by decide)) ⟨by decide, rfl⟩ v_X5_kindOf wm_X5_110 wi_X5_kindOf ws_X5_kindOf ⟨Nat.le_of_ble_eq_true rfl, Nat.le_of_ble_eq_true rfl⟩ n_X5_kindOf (Nat.le_of_ble_eq_true rfl) ?_
  refine m_kindOf hM hw hd b0 ?_
  refine ⟨_, rfl, ?_⟩
  refine X.iload dX5_changes_62 rfl ?_
  refine X.cS2i (k' := kX5_noTake) dX5_changes_64 v_X5_noTake wm_X5_117 wt_X5_noTake ⟨Nat.le_of_ble_eq_true rfl, Nat.le_of_ble_eq_true rfl⟩ n_X5_noTake (Nat.le_of_ble_eq_true rfl) ?_
  refine m_noTake lk2 (Nat.le_trans cellKind_le (by decide)) ?_
  refine ⟨_, rfl, ?_⟩
  refine X.istore dX5_changes_67 (Nat.le_of_ble_eq_true rfl) ?_
  refine X.iload dX5_changes_69 rfl ?_
  refine X.if_ne_f (tgt := 86) dX5_changes_71 (by decide) ((by rw [h3]; rfl)) ?_
  refine X.aload_n dX5_changes_74 rfl ?_
  refine X.iload_n dX5_changes_75 rfl ?_
  refine X.cV1i (k' := kX5_kindOf) dX5_changes_76 (hM.1 44 (by decide) (by decide)) ⟨by decide, rfl⟩ v_X5_kindOf wm_X5_110 wi_X5_kindOf ws_X5_kindOf ⟨Nat.le_of_ble_eq_true rfl, Nat.le_of_ble_eq_true rfl⟩ n_X5_kindOf (Nat.le_of_ble_eq_true rfl) ?_
  refine m_kindOf hM hw hc a0 ?_
  refine ⟨_, rfl, ?_⟩
  refine X.iload dX5_changes_79 rfl ?_
  refine X.cS2i (k' := kX5_noTake) dX5_changes_81 v_X5_noTake wm_X5_117 wt_X5_noTake ⟨Nat.le_of_ble_eq_true rfl, Nat.le_of_ble_eq_true rfl⟩ n_X5_noTake (Nat.le_of_ble_eq_true rfl) ?_
  refine m_noTake lk (Nat.le_trans cellKind_le (by decide)) ?_
  refine ⟨_, rfl, ?_⟩
  refine X.istore dX5_changes_84 (Nat.le_of_ble_eq_true rfl) ?_
  refine X.iload dX5_changes_86 rfl ?_
  refine X.if_le_t (tgt := 94) dX5_changes_88 (by decide) ((by rw [h4]; decide)) ?_
  refine X.aload_n dX5_changes_94 rfl ?_
  refine X.getR (b := 48) (kf := 3) dX5_changes_95 (hM.1 44 (by decide) (by decide)) (by decide) (by decide) rfl wf_X5_20 (hM.2 3 (by decide)) ?_
  refine X.aload_n dX5_changes_98 rfl ?_
  refine X.iload_n dX5_changes_99 rfl ?_
  refine X.iload_n dX5_changes_100 rfl ?_
  refine X.cV2i (k' := kX5_at) dX5_changes_101 (hM.1 44 (by decide) (by decide)) ⟨by decide, rfl⟩ v_X5_at wm_X5_124 wi_X5_at ws_X5_at ⟨Nat.le_of_ble_eq_true rfl, Nat.le_of_ble_eq_true rfl⟩ n_X5_at (Nat.le_of_ble_eq_true rfl) ?_
  refine m_at hM hw hc a0 ?_
  refine ⟨_, rfl, ?_⟩
  refine X.lald dX5_changes_104 (hM.1 48 (by decide) (by decide)) (rfl) (cell_in ht (Nat.lt_of_lt_of_le ai ls)) (by decide) ?_
  refine X.lstore dX5_changes_105 (Nat.le_of_ble_eq_true rfl) ?_
  refine X.aload_n dX5_changes_107 rfl ?_
  refine X.getR (b := 48) (kf := 3) dX5_changes_108 (hM.1 44 (by decide) (by decide)) (by decide) (by decide) rfl wf_X5_20 (hM.2 3 (by decide)) ?_
  refine X.aload_n dX5_changes_111 rfl ?_
  refine X.iload_n dX5_changes_112 rfl ?_
  refine X.iload dX5_changes_113 rfl ?_
  refine X.cV2i (k' := kX5_at) dX5_changes_115 (hM.1 44 (by decide) (by decide)) ⟨by decide, rfl⟩ v_X5_at wm_X5_124 wi_X5_at ws_X5_at ⟨Nat.le_of_ble_eq_true rfl, Nat.le_of_ble_eq_true rfl⟩ n_X5_at (Nat.le_of_ble_eq_true rfl) ?_
  refine m_at hM hw hd b0 ?_
  refine ⟨_, rfl, ?_⟩
  refine X.lald dX5_changes_118 (hM.1 48 (by decide) (by decide)) (rfl) (cell_in hu (Nat.lt_of_lt_of_le bi ls2)) (by decide) ?_
  refine X.lstore dX5_changes_119 (Nat.le_of_ble_eq_true rfl) ?_
  refine X.aload_n dX5_changes_121 rfl ?_
  refine X.getR (b := 48) (kf := 3) dX5_changes_122 (hM.1 44 (by decide) (by decide)) (by decide) (by decide) rfl wf_X5_20 (hM.2 3 (by decide)) ?_
  refine X.aload_n dX5_changes_125 rfl ?_
  refine X.iload_n dX5_changes_126 rfl ?_
  refine X.iload dX5_changes_127 rfl ?_
  refine X.cV2i (k' := kX5_at) dX5_changes_129 (hM.1 44 (by decide) (by decide)) ⟨by decide, rfl⟩ v_X5_at wm_X5_124 wi_X5_at ws_X5_at ⟨Nat.le_of_ble_eq_true rfl, Nat.le_of_ble_eq_true rfl⟩ n_X5_at (Nat.le_of_ble_eq_true rfl) ?_
  refine m_at hM hw hd b0 ?_
  refine ⟨_, rfl, ?_⟩
  refine X.aload_n dX5_changes_132 rfl ?_
  refine X.iload_n dX5_changes_133 rfl ?_
  refine X.cV1i (k' := kX5_kindOf) dX5_changes_134 (hM.1 44 (by decide) (by decide)) ⟨by decide, rfl⟩ v_X5_kindOf wm_X5_110 wi_X5_kindOf ws_X5_kindOf ⟨Nat.le_of_ble_eq_true rfl, Nat.le_of_ble_eq_true rfl⟩ n_X5_kindOf (Nat.le_of_ble_eq_true rfl) ?_
  refine m_kindOf hM hw hd b0 ?_
  refine ⟨_, rfl, ?_⟩
  refine X.lload dX5_changes_137 rfl ?_
  refine X.cS2l (k' := kX5_kept) dX5_changes_139 v_X5_kept wm_X5_127 wt_X5_kept ⟨Nat.le_of_ble_eq_true rfl, Nat.le_of_ble_eq_true rfl⟩ n_X5_kept (Nat.le_of_ble_eq_true rfl) ?_
  refine m_kept lk2 ?_
  refine ⟨_, rfl, ?_⟩
  refine X.last dX5_changes_142 (hM.1 48 (by decide) (by decide)) (rfl) (cell_in hu (Nat.lt_of_lt_of_le bi ls2)) (by decide) ?_
  refine X.aload_n dX5_changes_143 rfl ?_
  refine X.getR (b := 48) (kf := 3) dX5_changes_144 (hM.1 44 (by decide) (by decide)) (by decide) (by decide) rfl wf_X5_20 (hM.2 3 (by decide)) ?_
  refine X.aload_n dX5_changes_147 rfl ?_
  refine X.iload_n dX5_changes_148 rfl ?_
  refine X.iload_n dX5_changes_149 rfl ?_
  refine X.cV2i (k' := kX5_at) dX5_changes_150 (hM.1 44 (by decide) (by decide)) ⟨by decide, rfl⟩ v_X5_at wm_X5_124 wi_X5_at ws_X5_at ⟨Nat.le_of_ble_eq_true rfl, Nat.le_of_ble_eq_true rfl⟩ n_X5_at (Nat.le_of_ble_eq_true rfl) ?_
  refine m_at hM hw2 hc a0 ?_
  refine ⟨_, rfl, ?_⟩
  refine X.aload_n dX5_changes_153 rfl ?_
  refine X.iload_n dX5_changes_154 rfl ?_
  refine X.cV1i (k' := kX5_kindOf) dX5_changes_155 (hM.1 44 (by decide) (by decide)) ⟨by decide, rfl⟩ v_X5_kindOf wm_X5_110 wi_X5_kindOf ws_X5_kindOf ⟨Nat.le_of_ble_eq_true rfl, Nat.le_of_ble_eq_true rfl⟩ n_X5_kindOf (Nat.le_of_ble_eq_true rfl) ?_
  refine m_kindOf hM hw2 hc a0 ?_
  refine ⟨_, rfl, ?_⟩
  refine X.lload dX5_changes_158 rfl ?_
  refine X.cS2l (k' := kX5_kept) dX5_changes_160 v_X5_kept wm_X5_127 wt_X5_kept ⟨Nat.le_of_ble_eq_true rfl, Nat.le_of_ble_eq_true rfl⟩ n_X5_kept (Nat.le_of_ble_eq_true rfl) ?_
  refine m_kept lk ?_
  refine ⟨_, rfl, ?_⟩
  refine X.last dX5_changes_163 (hM.1 48 (by decide) (by decide)) (rfl) (cell_in ht (Nat.lt_of_lt_of_le ai ls)) (by decide) ?_
  refine X.iconst (v := 0) dX5_changes_164 (by decide) ?_
  refine X.ret dX5_changes_165 ⟨trivial, ?_⟩
  exact hq
theorem m_changes {c d : Nat} {i j : Int32} {μ : xM} {Q : Option Value → xM → Prop} (hM : ShM μ) (hw : WFt μ) (hc : c < 16) (hd : d < 16) (hq : Q (some (.int (nI (noChangeM μ c i d j)))) (changeM μ c i d j)) : Mt kX5_changes [.ref 44, .int (nI c), .int i, .int (nI d), .int j] μ Q := by
  by_cases h1 : noPlaceM μ c i = 0
  · by_cases h2 : noPlaceM μ d j = 0
    · by_cases h3 : noTakeM (kd μ (tp μ d)) (cellKindM μ (tp μ c) (ix i)) = 0
      · by_cases h4 : noTakeM (kd μ (tp μ c)) (cellKindM μ (tp μ d) (ix j)) = 0
        · exact m_changes5 hM hw hc hd h1 h2 h3 h4 hq
        · exact m_changes4 hM hw hc hd h1 h2 h3 h4 hq
      · exact m_changes3 hM hw hc hd h1 h2 h3 hq
    · exact m_changes2 hM hw hc hd h1 h2 hq
  · exact m_changes1 hM hw hc hd h1 hq
end
section
/-! the reference: a cable is carried (laid by wip/whole/mkmodel8.py) -/
def ck (μ : xM) (k : Nat) : Nat := (mI μ 54 k).toNatClampNeg
def cf (μ : xM) (k : Nat) : Nat := (mI μ 55 k).toNatClampNeg
def ct (μ : xM) (k : Nat) : Nat := (mI μ 56 k).toNatClampNeg
def WFc (μ : xM) : Prop := (mI μ 44 10 = nI (qM μ) ∧ qM μ ≤ 24) ∧ ∀ k, k < qM μ → (mI μ 54 k = nI (ck μ k) ∧ ck μ k < 4) ∧ (mI μ 55 k = nI (cf μ k) ∧ cf μ k < 16) ∧ mI μ 56 k = nI (ct μ k) ∧ ct μ k < 16
abbrev shutM (μ : xM) (k : Nat) : Prop := ck μ k = 1 ∧ noPlaceM μ (cf μ k) ((mI μ 51 (cf μ k))) = 0 ∧ numM μ (tp μ (cf μ k)) (ix ((mI μ 51 (cf μ k)))) = 0
def pass1M (μ : xM) (k : Nat) : xM := passM μ (cf μ k) ((mI μ 51 (cf μ k))) (ct μ k) ((mI μ 51 (ct μ k)))
def noPass1M (μ : xM) (k : Nat) : Nat := noPassM μ (cf μ k) ((mI μ 51 (cf μ k))) (ct μ k) ((mI μ 51 (ct μ k)))
def noCarryM (μ : xM) (k : Nat) : Nat := if ck μ k = 3 then noChangeM μ (cf μ k) ((mI μ 51 (cf μ k))) (ct μ k) ((mI μ 51 (ct μ k))) else if shutM μ k then 6 else if ck μ k = 2 ∧ noPass1M μ k = 0 then noPassM (pass1M μ k) (cf μ k) ((mI μ 51 (cf μ k)) + 1) (ct μ k) ((mI μ 51 (ct μ k)) + 1) else noPass1M μ k
def carryM (μ : xM) (k : Nat) : xM := if ck μ k = 3 then changeM μ (cf μ k) ((mI μ 51 (cf μ k))) (ct μ k) ((mI μ 51 (ct μ k))) else if shutM μ k then μ else if ck μ k = 2 ∧ noPass1M μ k = 0 then passM (pass1M μ k) (cf μ k) ((mI μ 51 (cf μ k)) + 1) (ct μ k) ((mI μ 51 (ct μ k)) + 1) else pass1M μ k
def rC (n : Nat) : Int32 := if n = 6 then -1 else nI n
theorem noCarry_le (μ : xM) (k : Nat) : noCarryM μ k < 7 := by
  unfold noCarryM noPass1M
  split
  · have := noChange_le μ (cf μ k) ((mI μ 51 (cf μ k))) (ct μ k) ((mI μ 51 (ct μ k))); omega
  · split
    · omega
    · split
      · have := noPass_le (pass1M μ k) (cf μ k) ((mI μ 51 (cf μ k)) + 1) (ct μ k) ((mI μ 51 (ct μ k)) + 1); omega
      · have := noPass_le μ (cf μ k) ((mI μ 51 (cf μ k))) (ct μ k) ((mI μ 51 (ct μ k))); omega
theorem carry_form (μ : xM) (k : Nat) : ∃ w, carryM μ k = sB μ w := by
  unfold carryM pass1M
  split
  · exact change_form _ _ _ _ _
  · split
    · exact sB_self μ
    · split
      · obtain ⟨w, e⟩ := pass_form μ (cf μ k) ((mI μ 51 (cf μ k))) (ct μ k) ((mI μ 51 (ct μ k)))
        rw [e]
        obtain ⟨w2, e2⟩ := pass_form (sB μ w) (cf μ k) ((mI μ 51 (cf μ k)) + 1) (ct μ k) ((mI μ 51 (ct μ k)) + 1)
        rw [e2, sB_sB]
        exact ⟨w2, rfl⟩
      · exact pass_form _ _ _ _ _
theorem m_numberOf_i {t j : Nat} {i : Int32} {μ : xM} {Q : Option Value → xM → Prop} (hM : ShM μ) (hw : WFt μ) (ht : t < 560) (hj : j < sz μ t) (ei : i = nI j) (hq : Q (some (.long (numM μ t j))) μ) : Mt kX5_numberOf [.ref 44, .int (nI t), .int i] μ Q := by
  subst ei
  exact m_numberOf hM hw ht hj hq
theorem WFt.carry {μ : xM} (hw : WFt μ) (hcb : WFc μ) {k : Nat} (hk : k < qM μ) : WFt (carryM μ k) := by
  obtain ⟨-, ⟨-, h1⟩, -, h2⟩ := hcb.2 k hk
  unfold carryM pass1M
  split
  · exact hw.change h1 h2
  · split
    · exact hw
    · split
      · exact (hw.pass h1 h2).pass h1 h2
      · exact hw.pass h1 h2
set_option maxRecDepth 100000 in
set_option maxHeartbeats 4000000 in
theorem m_carries1 {k : Nat} {μ : xM} {Q : Option Value → xM → Prop} (hM : ShM μ) (hw : WFt μ) (hcb : WFc μ) (hk : k < qM μ) (h3 : ck μ k = 3) (hq : Q (some (.int (rC (noCarryM μ k)))) (carryM μ k)) : Mt kX5_carries [.ref 44, .int (nI k)] μ Q := by
  obtain ⟨⟨ec, lc⟩, ⟨ef, lf⟩, eg, lg⟩ := hcb.2 k hk
  have hq24 := hcb.1.2
  have hk24 : k < 24 := by omega
  unfold noCarryM carryM at hq
  rw [if_pos h3, if_pos h3] at hq
  have hle := noChange_le μ (cf μ k) ((mI μ 51 (cf μ k))) (ct μ k) ((mI μ 51 (ct μ k)))
  unfold rC at hq
  rw [if_neg (by omega)] at hq
  refine Mt.enter rfl (Nat.le_of_ble_eq_true rfl) ?_
  refine X.aload_n dX5_carries_0 rfl ?_
  refine X.getR (b := 51) (kf := 7) dX5_carries_1 (hM.1 44 (by decide) (by decide)) (by decide) (by decide) rfl wf_X5_30 (hM.2 7 (by decide)) ?_
  refine X.aload_n dX5_carries_4 rfl ?_
  refine X.getR (b := 55) (kf := 12) dX5_carries_5 (hM.1 44 (by decide) (by decide)) (by decide) (by decide) rfl wf_X5_42 (hM.2 12 (by decide)) ?_
  refine X.iload_n dX5_carries_8 rfl ?_
  refine X.iald dX5_carries_9 (hM.1 55 (by decide) (by decide)) (rfl) (hk24) (by decide) ?_
  refine X.iald dX5_carries_10 (hM.1 51 (by decide) (by decide)) (ef) (lf) (by decide) ?_
  refine X.istore_n dX5_carries_11 (Nat.le_of_ble_eq_true rfl) ?_
  refine X.aload_n dX5_carries_12 rfl ?_
  refine X.getR (b := 51) (kf := 7) dX5_carries_13 (hM.1 44 (by decide) (by decide)) (by decide) (by decide) rfl wf_X5_30 (hM.2 7 (by decide)) ?_
  refine X.aload_n dX5_carries_16 rfl ?_
  refine X.getR (b := 56) (kf := 13) dX5_carries_17 (hM.1 44 (by decide) (by decide)) (by decide) (by decide) rfl wf_X5_45 (hM.2 13 (by decide)) ?_
  refine X.iload_n dX5_carries_20 rfl ?_
  refine X.iald dX5_carries_21 (hM.1 56 (by decide) (by decide)) (rfl) (hk24) (by decide) ?_
  refine X.iald dX5_carries_22 (hM.1 51 (by decide) (by decide)) (eg) (lg) (by decide) ?_
  refine X.istore_n dX5_carries_23 (Nat.le_of_ble_eq_true rfl) ?_
  refine X.aload_n dX5_carries_24 rfl ?_
  refine X.getR (b := 54) (kf := 11) dX5_carries_25 (hM.1 44 (by decide) (by decide)) (by decide) (by decide) rfl wf_X5_39 (hM.2 11 (by decide)) ?_
  refine X.iload_n dX5_carries_28 rfl ?_
  refine X.iald dX5_carries_29 (hM.1 54 (by decide) (by decide)) (rfl) (hk24) (by decide) ?_
  refine X.iconst (v := 3) dX5_carries_30 (by decide) ?_
  refine X.icmp_ne_f (tgt := 53) dX5_carries_31 (by decide) ((by rw [ec, h3]; rfl)) ?_
  refine X.aload_n dX5_carries_34 rfl ?_
  refine X.aload_n dX5_carries_35 rfl ?_
  refine X.getR (b := 55) (kf := 12) dX5_carries_36 (hM.1 44 (by decide) (by decide)) (by decide) (by decide) rfl wf_X5_42 (hM.2 12 (by decide)) ?_
  refine X.iload_n dX5_carries_39 rfl ?_
  refine X.iald dX5_carries_40 (hM.1 55 (by decide) (by decide)) (rfl) (hk24) (by decide) ?_
  refine X.iload_n dX5_carries_41 rfl ?_
  refine X.aload_n dX5_carries_42 rfl ?_
  refine X.getR (b := 56) (kf := 13) dX5_carries_43 (hM.1 44 (by decide) (by decide)) (by decide) (by decide) rfl wf_X5_45 (hM.2 13 (by decide)) ?_
  refine X.iload_n dX5_carries_46 rfl ?_
  refine X.iald dX5_carries_47 (hM.1 56 (by decide) (by decide)) (rfl) (hk24) (by decide) ?_
  refine X.iload_n dX5_carries_48 rfl ?_
  refine X.cV4i (k' := kX5_changes) dX5_carries_49 (hM.1 44 (by decide) (by decide)) ⟨by decide, rfl⟩ v_X5_changes wm_X5_161 wi_X5_changes ws_X5_changes ⟨Nat.le_of_ble_eq_true rfl, Nat.le_of_ble_eq_true rfl⟩ n_X5_changes (Nat.le_of_ble_eq_true rfl) ?_
  rw [ef, eg]
  refine m_changes hM hw lf lg ?_
  refine ⟨_, rfl, ?_⟩
  refine X.ret dX5_carries_52 ⟨trivial, ?_⟩
  exact hq
set_option maxRecDepth 100000 in
set_option maxHeartbeats 4000000 in
theorem m_carries2 {k : Nat} {μ : xM} {Q : Option Value → xM → Prop} (hM : ShM μ) (hw : WFt μ) (hcb : WFc μ) (hk : k < qM μ) (h3 : ¬ ck μ k = 3) (hs : shutM μ k) (hq : Q (some (.int (rC (noCarryM μ k)))) (carryM μ k)) : Mt kX5_carries [.ref 44, .int (nI k)] μ Q := by
  obtain ⟨⟨ec, lc⟩, ⟨ef, lf⟩, eg, lg⟩ := hcb.2 k hk
  have hq24 := hcb.1.2
  have hk24 : k < 24 := by omega
  unfold noCarryM carryM at hq
  rw [if_neg h3, if_neg h3, if_pos hs, if_pos hs] at hq
  obtain ⟨s1, s2, s3⟩ := id hs
  obtain ⟨a0, ar, ae, ai⟩ := noPlace_0 s2
  obtain ⟨ht, et⟩ := hw.1 _ lf a0
  refine Mt.enter rfl (Nat.le_of_ble_eq_true rfl) ?_
  refine X.aload_n dX5_carries_0 rfl ?_
  refine X.getR (b := 51) (kf := 7) dX5_carries_1 (hM.1 44 (by decide) (by decide)) (by decide) (by decide) rfl wf_X5_30 (hM.2 7 (by decide)) ?_
  refine X.aload_n dX5_carries_4 rfl ?_
  refine X.getR (b := 55) (kf := 12) dX5_carries_5 (hM.1 44 (by decide) (by decide)) (by decide) (by decide) rfl wf_X5_42 (hM.2 12 (by decide)) ?_
  refine X.iload_n dX5_carries_8 rfl ?_
  refine X.iald dX5_carries_9 (hM.1 55 (by decide) (by decide)) (rfl) (hk24) (by decide) ?_
  refine X.iald dX5_carries_10 (hM.1 51 (by decide) (by decide)) (ef) (lf) (by decide) ?_
  refine X.istore_n dX5_carries_11 (Nat.le_of_ble_eq_true rfl) ?_
  refine X.aload_n dX5_carries_12 rfl ?_
  refine X.getR (b := 51) (kf := 7) dX5_carries_13 (hM.1 44 (by decide) (by decide)) (by decide) (by decide) rfl wf_X5_30 (hM.2 7 (by decide)) ?_
  refine X.aload_n dX5_carries_16 rfl ?_
  refine X.getR (b := 56) (kf := 13) dX5_carries_17 (hM.1 44 (by decide) (by decide)) (by decide) (by decide) rfl wf_X5_45 (hM.2 13 (by decide)) ?_
  refine X.iload_n dX5_carries_20 rfl ?_
  refine X.iald dX5_carries_21 (hM.1 56 (by decide) (by decide)) (rfl) (hk24) (by decide) ?_
  refine X.iald dX5_carries_22 (hM.1 51 (by decide) (by decide)) (eg) (lg) (by decide) ?_
  refine X.istore_n dX5_carries_23 (Nat.le_of_ble_eq_true rfl) ?_
  refine X.aload_n dX5_carries_24 rfl ?_
  refine X.getR (b := 54) (kf := 11) dX5_carries_25 (hM.1 44 (by decide) (by decide)) (by decide) (by decide) rfl wf_X5_39 (hM.2 11 (by decide)) ?_
  refine X.iload_n dX5_carries_28 rfl ?_
  refine X.iald dX5_carries_29 (hM.1 54 (by decide) (by decide)) (rfl) (hk24) (by decide) ?_
  refine X.iconst (v := 3) dX5_carries_30 (by decide) ?_
  refine X.icmp_ne_t (tgt := 53) dX5_carries_31 (by decide) ((by rw [ec]; exact nI_neq h3 (by omega) (by decide))) ?_
  refine X.aload_n dX5_carries_53 rfl ?_
  refine X.getR (b := 54) (kf := 11) dX5_carries_54 (hM.1 44 (by decide) (by decide)) (by decide) (by decide) rfl wf_X5_39 (hM.2 11 (by decide)) ?_
  refine X.iload_n dX5_carries_57 rfl ?_
  refine X.iald dX5_carries_58 (hM.1 54 (by decide) (by decide)) (rfl) (hk24) (by decide) ?_
  refine X.iconst (v := 1) dX5_carries_59 (by decide) ?_
  refine X.icmp_ne_f (tgt := 100) dX5_carries_60 (by decide) ((by rw [ec, s1]; rfl)) ?_
  refine X.aload_n dX5_carries_63 rfl ?_
  refine X.aload_n dX5_carries_64 rfl ?_
  refine X.getR (b := 55) (kf := 12) dX5_carries_65 (hM.1 44 (by decide) (by decide)) (by decide) (by decide) rfl wf_X5_42 (hM.2 12 (by decide)) ?_
  refine X.iload_n dX5_carries_68 rfl ?_
  refine X.iald dX5_carries_69 (hM.1 55 (by decide) (by decide)) (rfl) (hk24) (by decide) ?_
  refine X.iload_n dX5_carries_70 rfl ?_
  refine X.cV2i (k' := kX5_noPlace) dX5_carries_71 (hM.1 44 (by decide) (by decide)) ⟨by decide, rfl⟩ v_X5_noPlace wm_X5_113 wi_X5_noPlace ws_X5_noPlace ⟨Nat.le_of_ble_eq_true rfl, Nat.le_of_ble_eq_true rfl⟩ n_X5_noPlace (Nat.le_of_ble_eq_true rfl) ?_
  rw [ef]
  refine m_noPlace hM hw lf ?_
  refine ⟨_, rfl, ?_⟩
  refine X.if_ne_f (tgt := 100) dX5_carries_74 (by decide) ((by show nI (noPlaceM μ (cf μ k) ((mI μ 51 (cf μ k)))) = 0; rw [s2]; rfl)) ?_
  refine X.aload_n dX5_carries_77 rfl ?_
  refine X.aload_n dX5_carries_78 rfl ?_
  refine X.getR (b := 50) (kf := 6) dX5_carries_79 (hM.1 44 (by decide) (by decide)) (by decide) (by decide) rfl wf_X5_27 (hM.2 6 (by decide)) ?_
  refine X.aload_n dX5_carries_82 rfl ?_
  refine X.getR (b := 55) (kf := 12) dX5_carries_83 (hM.1 44 (by decide) (by decide)) (by decide) (by decide) rfl wf_X5_42 (hM.2 12 (by decide)) ?_
  refine X.iload_n dX5_carries_86 rfl ?_
  refine X.iald dX5_carries_87 (hM.1 55 (by decide) (by decide)) (rfl) (hk24) (by decide) ?_
  refine X.iald dX5_carries_88 (hM.1 50 (by decide) (by decide)) (ef) (lf) (by decide) ?_
  refine X.iload_n dX5_carries_89 rfl ?_
  refine X.cV2l (k' := kX5_numberOf) dX5_carries_90 (hM.1 44 (by decide) (by decide)) ⟨by decide, rfl⟩ v_X5_numberOf wm_X5_165 wi_X5_numberOf ws_X5_numberOf ⟨Nat.le_of_ble_eq_true rfl, Nat.le_of_ble_eq_true rfl⟩ n_X5_numberOf (Nat.le_of_ble_eq_true rfl) ?_
  rw [et]
  refine m_numberOf_i hM hw ht ai ae ?_
  refine ⟨_, rfl, ?_⟩
  refine X.lconst (v := 0) dX5_carries_93 (by decide) ?_
  refine X.lcmp dX5_carries_94 ?_
  refine X.if_ne_f (tgt := 100) dX5_carries_95 (by decide) (lgc_eq s3) ?_
  refine X.iconst (v := -1) dX5_carries_98 (by decide) ?_
  refine X.ret dX5_carries_99 ⟨trivial, ?_⟩
  exact hq
set_option maxRecDepth 100000 in
set_option maxHeartbeats 4000000 in
theorem m_carries3d {k : Nat} {μ : xM} {Q : Option Value → xM → Prop} (hM : ShM μ) (hw : WFt μ) (hcb : WFc μ) (hk : k < qM μ) (h3 : ¬ ck μ k = 3) (hs : ¬ shutM μ k) (h1 : ¬ ck μ k = 1) (h2 : ck μ k = 2 ∧ noPass1M μ k = 0) (hq : Q (some (.int (rC (noCarryM μ k)))) (carryM μ k)) : Mt kX5_carries [.ref 44, .int (nI k)] μ Q := by
  obtain ⟨⟨ec, lc⟩, ⟨ef, lf⟩, eg, lg⟩ := hcb.2 k hk
  have hq24 := hcb.1.2
  have hk24 : k < 24 := by omega
  unfold noCarryM carryM at hq
  rw [if_neg h3, if_neg h3, if_neg hs, if_neg hs, if_pos h2, if_pos h2] at hq
  obtain ⟨w, ew⟩ := pass_form μ (cf μ k) ((mI μ 51 (cf μ k))) (ct μ k) ((mI μ 51 (ct μ k)))
  have hw2 : WFt (passM μ (cf μ k) ((mI μ 51 (cf μ k))) (ct μ k) ((mI μ 51 (ct μ k)))) := hw.pass lf lg
  unfold pass1M at hq
  try unfold noPass1M at hq
  unfold noPass1M at h2
  rw [ew] at hq hw2
  have hle := noPass_le (sB μ w) (cf μ k) ((mI μ 51 (cf μ k)) + 1) (ct μ k) ((mI μ 51 (ct μ k)) + 1)
  unfold rC at hq
  rw [if_neg (by omega)] at hq
  refine Mt.enter rfl (Nat.le_of_ble_eq_true rfl) ?_
  refine X.aload_n dX5_carries_0 rfl ?_
  refine X.getR (b := 51) (kf := 7) dX5_carries_1 (hM.1 44 (by decide) (by decide)) (by decide) (by decide) rfl wf_X5_30 (hM.2 7 (by decide)) ?_
  refine X.aload_n dX5_carries_4 rfl ?_
  refine X.getR (b := 55) (kf := 12) dX5_carries_5 (hM.1 44 (by decide) (by decide)) (by decide) (by decide) rfl wf_X5_42 (hM.2 12 (by decide)) ?_
  refine X.iload_n dX5_carries_8 rfl ?_
  refine X.iald dX5_carries_9 (hM.1 55 (by decide) (by decide)) (rfl) (hk24) (by decide) ?_
  refine X.iald dX5_carries_10 (hM.1 51 (by decide) (by decide)) (ef) (lf) (by decide) ?_
  refine X.istore_n dX5_carries_11 (Nat.le_of_ble_eq_true rfl) ?_
  refine X.aload_n dX5_carries_12 rfl ?_
  refine X.getR (b := 51) (kf := 7) dX5_carries_13 (hM.1 44 (by decide) (by decide)) (by decide) (by decide) rfl wf_X5_30 (hM.2 7 (by decide)) ?_
  refine X.aload_n dX5_carries_16 rfl ?_
  refine X.getR (b := 56) (kf := 13) dX5_carries_17 (hM.1 44 (by decide) (by decide)) (by decide) (by decide) rfl wf_X5_45 (hM.2 13 (by decide)) ?_
  refine X.iload_n dX5_carries_20 rfl ?_
  refine X.iald dX5_carries_21 (hM.1 56 (by decide) (by decide)) (rfl) (hk24) (by decide) ?_
  refine X.iald dX5_carries_22 (hM.1 51 (by decide) (by decide)) (eg) (lg) (by decide) ?_
  refine X.istore_n dX5_carries_23 (Nat.le_of_ble_eq_true rfl) ?_
  refine X.aload_n dX5_carries_24 rfl ?_
  refine X.getR (b := 54) (kf := 11) dX5_carries_25 (hM.1 44 (by decide) (by decide)) (by decide) (by decide) rfl wf_X5_39 (hM.2 11 (by decide)) ?_
  refine X.iload_n dX5_carries_28 rfl ?_
  refine X.iald dX5_carries_29 (hM.1 54 (by decide) (by decide)) (rfl) (hk24) (by decide) ?_
  refine X.iconst (v := 3) dX5_carries_30 (by decide) ?_
  refine X.icmp_ne_t (tgt := 53) dX5_carries_31 (by decide) ((by rw [ec]; exact nI_neq h3 (by omega) (by decide))) ?_
  refine X.aload_n dX5_carries_53 rfl ?_
  refine X.getR (b := 54) (kf := 11) dX5_carries_54 (hM.1 44 (by decide) (by decide)) (by decide) (by decide) rfl wf_X5_39 (hM.2 11 (by decide)) ?_
  refine X.iload_n dX5_carries_57 rfl ?_
  refine X.iald dX5_carries_58 (hM.1 54 (by decide) (by decide)) (rfl) (hk24) (by decide) ?_
  refine X.iconst (v := 1) dX5_carries_59 (by decide) ?_
  refine X.icmp_ne_t (tgt := 100) dX5_carries_60 (by decide) ((by rw [ec]; exact nI_neq h1 (by omega) (by decide))) ?_
  refine X.aload_n dX5_carries_100 rfl ?_
  refine X.aload_n dX5_carries_101 rfl ?_
  refine X.getR (b := 55) (kf := 12) dX5_carries_102 (hM.1 44 (by decide) (by decide)) (by decide) (by decide) rfl wf_X5_42 (hM.2 12 (by decide)) ?_
  refine X.iload_n dX5_carries_105 rfl ?_
  refine X.iald dX5_carries_106 (hM.1 55 (by decide) (by decide)) (rfl) (hk24) (by decide) ?_
  refine X.iload_n dX5_carries_107 rfl ?_
  refine X.aload_n dX5_carries_108 rfl ?_
  refine X.getR (b := 56) (kf := 13) dX5_carries_109 (hM.1 44 (by decide) (by decide)) (by decide) (by decide) rfl wf_X5_45 (hM.2 13 (by decide)) ?_
  refine X.iload_n dX5_carries_112 rfl ?_
  refine X.iald dX5_carries_113 (hM.1 56 (by decide) (by decide)) (rfl) (hk24) (by decide) ?_
  refine X.iload_n dX5_carries_114 rfl ?_
  refine X.cV4i (k' := kX5_passes) dX5_carries_115 (hM.1 44 (by decide) (by decide)) ⟨by decide, rfl⟩ v_X5_passes wm_X5_169 wi_X5_passes ws_X5_passes ⟨Nat.le_of_ble_eq_true rfl, Nat.le_of_ble_eq_true rfl⟩ n_X5_passes (Nat.le_of_ble_eq_true rfl) ?_
  rw [ef, eg]
  refine m_passes hM hw lf lg ?_
  rw [show passM μ (cf μ k) (mI μ 51 (cf μ k)) (ct μ k) (mI μ 51 (ct μ k)) = sB μ w from ew]
  refine ⟨_, rfl, ?_⟩
  refine X.istore dX5_carries_118 (Nat.le_of_ble_eq_true rfl) ?_
  refine X.aload_n dX5_carries_120 rfl ?_
  refine X.getR (b := 54) (kf := 11) dX5_carries_121 (hM.1 44 (by decide) (by decide)) (by decide) (by decide) rfl wf_X5_39 (hM.2 11 (by decide)) ?_
  refine X.iload_n dX5_carries_124 rfl ?_
  refine X.iald dX5_carries_125 (hM.1 54 (by decide) (by decide)) (rfl) (hk24) (by decide) ?_
  refine X.iconst (v := 2) dX5_carries_126 (by decide) ?_
  refine X.icmp_ne_f (tgt := 159) dX5_carries_127 (by decide) ((by show mI μ 54 k = 2; rw [ec, h2.1]; rfl)) ?_
  refine X.iload dX5_carries_130 rfl ?_
  refine X.if_ne_f (tgt := 159) dX5_carries_132 (by decide) ((by show nI (noPassM μ (cf μ k) ((mI μ 51 (cf μ k))) (ct μ k) ((mI μ 51 (ct μ k)))) = 0; rw [h2.2]; rfl)) ?_
  refine X.aload_n dX5_carries_135 rfl ?_
  refine X.aload_n dX5_carries_136 rfl ?_
  refine X.getR (b := 55) (kf := 12) dX5_carries_137 (hM.1 44 (by decide) (by decide)) (by decide) (by decide) rfl wf_X5_42 (hM.2 12 (by decide)) ?_
  refine X.iload_n dX5_carries_140 rfl ?_
  refine X.iald dX5_carries_141 (hM.1 55 (by decide) (by decide)) (rfl) (hk24) (by decide) ?_
  refine X.iload_n dX5_carries_142 rfl ?_
  refine X.iconst (v := 1) dX5_carries_143 (by decide) ?_
  refine X.iadd dX5_carries_144 ?_
  refine X.aload_n dX5_carries_145 rfl ?_
  refine X.getR (b := 56) (kf := 13) dX5_carries_146 (hM.1 44 (by decide) (by decide)) (by decide) (by decide) rfl wf_X5_45 (hM.2 13 (by decide)) ?_
  refine X.iload_n dX5_carries_149 rfl ?_
  refine X.iald dX5_carries_150 (hM.1 56 (by decide) (by decide)) (rfl) (hk24) (by decide) ?_
  refine X.iload_n dX5_carries_151 rfl ?_
  refine X.iconst (v := 1) dX5_carries_152 (by decide) ?_
  refine X.iadd dX5_carries_153 ?_
  refine X.cV4i (k' := kX5_passes) dX5_carries_154 (hM.1 44 (by decide) (by decide)) ⟨by decide, rfl⟩ v_X5_passes wm_X5_169 wi_X5_passes ws_X5_passes ⟨Nat.le_of_ble_eq_true rfl, Nat.le_of_ble_eq_true rfl⟩ n_X5_passes (Nat.le_of_ble_eq_true rfl) ?_
  rw [show mI (sB μ w) 55 k = nI (cf μ k) from ef, show mI (sB μ w) 56 k = nI (ct μ k) from eg]
  refine m_passes hM hw2 lf lg ?_
  refine ⟨_, rfl, ?_⟩
  refine X.istore dX5_carries_157 (Nat.le_of_ble_eq_true rfl) ?_
  refine X.iload dX5_carries_159 rfl ?_
  refine X.ret dX5_carries_161 ⟨trivial, ?_⟩
  exact hq
set_option maxRecDepth 100000 in
set_option maxHeartbeats 4000000 in
theorem m_carries3e {k : Nat} {μ : xM} {Q : Option Value → xM → Prop} (hM : ShM μ) (hw : WFt μ) (hcb : WFc μ) (hk : k < qM μ) (h3 : ¬ ck μ k = 3) (hs : ¬ shutM μ k) (h1 : ¬ ck μ k = 1) (h2 : ck μ k = 2) (hz : ¬ noPass1M μ k = 0) (hq : Q (some (.int (rC (noCarryM μ k)))) (carryM μ k)) : Mt kX5_carries [.ref 44, .int (nI k)] μ Q := by
  obtain ⟨⟨ec, lc⟩, ⟨ef, lf⟩, eg, lg⟩ := hcb.2 k hk
  have hq24 := hcb.1.2
  have hk24 : k < 24 := by omega
  unfold noCarryM carryM at hq
  rw [if_neg h3, if_neg h3, if_neg hs, if_neg hs, if_neg (fun q => hz q.2), if_neg (fun q => hz q.2)] at hq
  have hle := noPass_le μ (cf μ k) ((mI μ 51 (cf μ k))) (ct μ k) ((mI μ 51 (ct μ k)))
  unfold rC at hq
  rw [if_neg (by unfold noPass1M; omega)] at hq
  obtain ⟨w, ew⟩ := pass_form μ (cf μ k) ((mI μ 51 (cf μ k))) (ct μ k) ((mI μ 51 (ct μ k)))
  have hw2 : WFt (passM μ (cf μ k) ((mI μ 51 (cf μ k))) (ct μ k) ((mI μ 51 (ct μ k)))) := hw.pass lf lg
  unfold pass1M at hq
  try unfold noPass1M at hq
  unfold noPass1M at hz
  rw [ew] at hq hw2
  refine Mt.enter rfl (Nat.le_of_ble_eq_true rfl) ?_
  refine X.aload_n dX5_carries_0 rfl ?_
  refine X.getR (b := 51) (kf := 7) dX5_carries_1 (hM.1 44 (by decide) (by decide)) (by decide) (by decide) rfl wf_X5_30 (hM.2 7 (by decide)) ?_
  refine X.aload_n dX5_carries_4 rfl ?_
  refine X.getR (b := 55) (kf := 12) dX5_carries_5 (hM.1 44 (by decide) (by decide)) (by decide) (by decide) rfl wf_X5_42 (hM.2 12 (by decide)) ?_
  refine X.iload_n dX5_carries_8 rfl ?_
  refine X.iald dX5_carries_9 (hM.1 55 (by decide) (by decide)) (rfl) (hk24) (by decide) ?_
  refine X.iald dX5_carries_10 (hM.1 51 (by decide) (by decide)) (ef) (lf) (by decide) ?_
  refine X.istore_n dX5_carries_11 (Nat.le_of_ble_eq_true rfl) ?_
  refine X.aload_n dX5_carries_12 rfl ?_
  refine X.getR (b := 51) (kf := 7) dX5_carries_13 (hM.1 44 (by decide) (by decide)) (by decide) (by decide) rfl wf_X5_30 (hM.2 7 (by decide)) ?_
  refine X.aload_n dX5_carries_16 rfl ?_
  refine X.getR (b := 56) (kf := 13) dX5_carries_17 (hM.1 44 (by decide) (by decide)) (by decide) (by decide) rfl wf_X5_45 (hM.2 13 (by decide)) ?_
  refine X.iload_n dX5_carries_20 rfl ?_
  refine X.iald dX5_carries_21 (hM.1 56 (by decide) (by decide)) (rfl) (hk24) (by decide) ?_
  refine X.iald dX5_carries_22 (hM.1 51 (by decide) (by decide)) (eg) (lg) (by decide) ?_
  refine X.istore_n dX5_carries_23 (Nat.le_of_ble_eq_true rfl) ?_
  refine X.aload_n dX5_carries_24 rfl ?_
  refine X.getR (b := 54) (kf := 11) dX5_carries_25 (hM.1 44 (by decide) (by decide)) (by decide) (by decide) rfl wf_X5_39 (hM.2 11 (by decide)) ?_
  refine X.iload_n dX5_carries_28 rfl ?_
  refine X.iald dX5_carries_29 (hM.1 54 (by decide) (by decide)) (rfl) (hk24) (by decide) ?_
  refine X.iconst (v := 3) dX5_carries_30 (by decide) ?_
  refine X.icmp_ne_t (tgt := 53) dX5_carries_31 (by decide) ((by rw [ec]; exact nI_neq h3 (by omega) (by decide))) ?_
  refine X.aload_n dX5_carries_53 rfl ?_
  refine X.getR (b := 54) (kf := 11) dX5_carries_54 (hM.1 44 (by decide) (by decide)) (by decide) (by decide) rfl wf_X5_39 (hM.2 11 (by decide)) ?_
  refine X.iload_n dX5_carries_57 rfl ?_
  refine X.iald dX5_carries_58 (hM.1 54 (by decide) (by decide)) (rfl) (hk24) (by decide) ?_
  refine X.iconst (v := 1) dX5_carries_59 (by decide) ?_
  refine X.icmp_ne_t (tgt := 100) dX5_carries_60 (by decide) ((by rw [ec]; exact nI_neq h1 (by omega) (by decide))) ?_
  refine X.aload_n dX5_carries_100 rfl ?_
  refine X.aload_n dX5_carries_101 rfl ?_
  refine X.getR (b := 55) (kf := 12) dX5_carries_102 (hM.1 44 (by decide) (by decide)) (by decide) (by decide) rfl wf_X5_42 (hM.2 12 (by decide)) ?_
  refine X.iload_n dX5_carries_105 rfl ?_
  refine X.iald dX5_carries_106 (hM.1 55 (by decide) (by decide)) (rfl) (hk24) (by decide) ?_
  refine X.iload_n dX5_carries_107 rfl ?_
  refine X.aload_n dX5_carries_108 rfl ?_
  refine X.getR (b := 56) (kf := 13) dX5_carries_109 (hM.1 44 (by decide) (by decide)) (by decide) (by decide) rfl wf_X5_45 (hM.2 13 (by decide)) ?_
  refine X.iload_n dX5_carries_112 rfl ?_
  refine X.iald dX5_carries_113 (hM.1 56 (by decide) (by decide)) (rfl) (hk24) (by decide) ?_
  refine X.iload_n dX5_carries_114 rfl ?_
  refine X.cV4i (k' := kX5_passes) dX5_carries_115 (hM.1 44 (by decide) (by decide)) ⟨by decide, rfl⟩ v_X5_passes wm_X5_169 wi_X5_passes ws_X5_passes ⟨Nat.le_of_ble_eq_true rfl, Nat.le_of_ble_eq_true rfl⟩ n_X5_passes (Nat.le_of_ble_eq_true rfl) ?_
  rw [ef, eg]
  refine m_passes hM hw lf lg ?_
  rw [show passM μ (cf μ k) (mI μ 51 (cf μ k)) (ct μ k) (mI μ 51 (ct μ k)) = sB μ w from ew]
  refine ⟨_, rfl, ?_⟩
  refine X.istore dX5_carries_118 (Nat.le_of_ble_eq_true rfl) ?_
  refine X.aload_n dX5_carries_120 rfl ?_
  refine X.getR (b := 54) (kf := 11) dX5_carries_121 (hM.1 44 (by decide) (by decide)) (by decide) (by decide) rfl wf_X5_39 (hM.2 11 (by decide)) ?_
  refine X.iload_n dX5_carries_124 rfl ?_
  refine X.iald dX5_carries_125 (hM.1 54 (by decide) (by decide)) (rfl) (hk24) (by decide) ?_
  refine X.iconst (v := 2) dX5_carries_126 (by decide) ?_
  refine X.icmp_ne_f (tgt := 159) dX5_carries_127 (by decide) ((by show mI μ 54 k = 2; rw [ec, h2]; rfl)) ?_
  refine X.iload dX5_carries_130 rfl ?_
  refine X.if_ne_t (tgt := 159) dX5_carries_132 (by decide) (nI_neq (b := 0) hz (by omega) (by decide)) ?_
  refine X.iload dX5_carries_159 rfl ?_
  refine X.ret dX5_carries_161 ⟨trivial, ?_⟩
  exact hq
set_option maxRecDepth 100000 in
set_option maxHeartbeats 4000000 in
theorem m_carries3f {k : Nat} {μ : xM} {Q : Option Value → xM → Prop} (hM : ShM μ) (hw : WFt μ) (hcb : WFc μ) (hk : k < qM μ) (h3 : ¬ ck μ k = 3) (hs : ¬ shutM μ k) (h1 : ¬ ck μ k = 1) (h2 : ¬ ck μ k = 2) (hq : Q (some (.int (rC (noCarryM μ k)))) (carryM μ k)) : Mt kX5_carries [.ref 44, .int (nI k)] μ Q := by
  obtain ⟨⟨ec, lc⟩, ⟨ef, lf⟩, eg, lg⟩ := hcb.2 k hk
  have hq24 := hcb.1.2
  have hk24 : k < 24 := by omega
  unfold noCarryM carryM at hq
  rw [if_neg h3, if_neg h3, if_neg hs, if_neg hs, if_neg (fun q => h2 q.1), if_neg (fun q => h2 q.1)] at hq
  have hle := noPass_le μ (cf μ k) ((mI μ 51 (cf μ k))) (ct μ k) ((mI μ 51 (ct μ k)))
  unfold rC at hq
  rw [if_neg (by unfold noPass1M; omega)] at hq
  obtain ⟨w, ew⟩ := pass_form μ (cf μ k) ((mI μ 51 (cf μ k))) (ct μ k) ((mI μ 51 (ct μ k)))
  have hw2 : WFt (passM μ (cf μ k) ((mI μ 51 (cf μ k))) (ct μ k) ((mI μ 51 (ct μ k)))) := hw.pass lf lg
  unfold pass1M at hq
  try unfold noPass1M at hq
  rw [ew] at hq hw2
  refine Mt.enter rfl (Nat.le_of_ble_eq_true rfl) ?_
  refine X.aload_n dX5_carries_0 rfl ?_
  refine X.getR (b := 51) (kf := 7) dX5_carries_1 (hM.1 44 (by decide) (by decide)) (by decide) (by decide) rfl wf_X5_30 (hM.2 7 (by decide)) ?_
  refine X.aload_n dX5_carries_4 rfl ?_
  refine X.getR (b := 55) (kf := 12) dX5_carries_5 (hM.1 44 (by decide) (by decide)) (by decide) (by decide) rfl wf_X5_42 (hM.2 12 (by decide)) ?_
  refine X.iload_n dX5_carries_8 rfl ?_
  refine X.iald dX5_carries_9 (hM.1 55 (by decide) (by decide)) (rfl) (hk24) (by decide) ?_
  refine X.iald dX5_carries_10 (hM.1 51 (by decide) (by decide)) (ef) (lf) (by decide) ?_
  refine X.istore_n dX5_carries_11 (Nat.le_of_ble_eq_true rfl) ?_
  refine X.aload_n dX5_carries_12 rfl ?_
  refine X.getR (b := 51) (kf := 7) dX5_carries_13 (hM.1 44 (by decide) (by decide)) (by decide) (by decide) rfl wf_X5_30 (hM.2 7 (by decide)) ?_
  refine X.aload_n dX5_carries_16 rfl ?_
  refine X.getR (b := 56) (kf := 13) dX5_carries_17 (hM.1 44 (by decide) (by decide)) (by decide) (by decide) rfl wf_X5_45 (hM.2 13 (by decide)) ?_
  refine X.iload_n dX5_carries_20 rfl ?_
  refine X.iald dX5_carries_21 (hM.1 56 (by decide) (by decide)) (rfl) (hk24) (by decide) ?_
  refine X.iald dX5_carries_22 (hM.1 51 (by decide) (by decide)) (eg) (lg) (by decide) ?_
  refine X.istore_n dX5_carries_23 (Nat.le_of_ble_eq_true rfl) ?_
  refine X.aload_n dX5_carries_24 rfl ?_
  refine X.getR (b := 54) (kf := 11) dX5_carries_25 (hM.1 44 (by decide) (by decide)) (by decide) (by decide) rfl wf_X5_39 (hM.2 11 (by decide)) ?_
  refine X.iload_n dX5_carries_28 rfl ?_
  refine X.iald dX5_carries_29 (hM.1 54 (by decide) (by decide)) (rfl) (hk24) (by decide) ?_
  refine X.iconst (v := 3) dX5_carries_30 (by decide) ?_
  refine X.icmp_ne_t (tgt := 53) dX5_carries_31 (by decide) ((by rw [ec]; exact nI_neq h3 (by omega) (by decide))) ?_
  refine X.aload_n dX5_carries_53 rfl ?_
  refine X.getR (b := 54) (kf := 11) dX5_carries_54 (hM.1 44 (by decide) (by decide)) (by decide) (by decide) rfl wf_X5_39 (hM.2 11 (by decide)) ?_
  refine X.iload_n dX5_carries_57 rfl ?_
  refine X.iald dX5_carries_58 (hM.1 54 (by decide) (by decide)) (rfl) (hk24) (by decide) ?_
  refine X.iconst (v := 1) dX5_carries_59 (by decide) ?_
  refine X.icmp_ne_t (tgt := 100) dX5_carries_60 (by decide) ((by rw [ec]; exact nI_neq h1 (by omega) (by decide))) ?_
  refine X.aload_n dX5_carries_100 rfl ?_
  refine X.aload_n dX5_carries_101 rfl ?_
  refine X.getR (b := 55) (kf := 12) dX5_carries_102 (hM.1 44 (by decide) (by decide)) (by decide) (by decide) rfl wf_X5_42 (hM.2 12 (by decide)) ?_
  refine X.iload_n dX5_carries_105 rfl ?_
  refine X.iald dX5_carries_106 (hM.1 55 (by decide) (by decide)) (rfl) (hk24) (by decide) ?_
  refine X.iload_n dX5_carries_107 rfl ?_
  refine X.aload_n dX5_carries_108 rfl ?_
  refine X.getR (b := 56) (kf := 13) dX5_carries_109 (hM.1 44 (by decide) (by decide)) (by decide) (by decide) rfl wf_X5_45 (hM.2 13 (by decide)) ?_
  refine X.iload_n dX5_carries_112 rfl ?_
  refine X.iald dX5_carries_113 (hM.1 56 (by decide) (by decide)) (rfl) (hk24) (by decide) ?_
  refine X.iload_n dX5_carries_114 rfl ?_
  refine X.cV4i (k' := kX5_passes) dX5_carries_115 (hM.1 44 (by decide) (by decide)) ⟨by decide, rfl⟩ v_X5_passes wm_X5_169 wi_X5_passes ws_X5_passes ⟨Nat.le_of_ble_eq_true rfl, Nat.le_of_ble_eq_true rfl⟩ n_X5_passes (Nat.le_of_ble_eq_true rfl) ?_
  rw [ef, eg]
  refine m_passes hM hw lf lg ?_
  rw [show passM μ (cf μ k) (mI μ 51 (cf μ k)) (ct μ k) (mI μ 51 (ct μ k)) = sB μ w from ew]
  refine ⟨_, rfl, ?_⟩
  refine X.istore dX5_carries_118 (Nat.le_of_ble_eq_true rfl) ?_
  refine X.aload_n dX5_carries_120 rfl ?_
  refine X.getR (b := 54) (kf := 11) dX5_carries_121 (hM.1 44 (by decide) (by decide)) (by decide) (by decide) rfl wf_X5_39 (hM.2 11 (by decide)) ?_
  refine X.iload_n dX5_carries_124 rfl ?_
  refine X.iald dX5_carries_125 (hM.1 54 (by decide) (by decide)) (rfl) (hk24) (by decide) ?_
  refine X.iconst (v := 2) dX5_carries_126 (by decide) ?_
  refine X.icmp_ne_t (tgt := 159) dX5_carries_127 (by decide) ((by show ¬ mI μ 54 k = 2; rw [ec]; exact nI_neq h2 (by omega) (by decide))) ?_
  refine X.iload dX5_carries_159 rfl ?_
  refine X.ret dX5_carries_161 ⟨trivial, ?_⟩
  exact hq
set_option maxRecDepth 100000 in
set_option maxHeartbeats 4000000 in
theorem m_carries3b {k : Nat} {μ : xM} {Q : Option Value → xM → Prop} (hM : ShM μ) (hw : WFt μ) (hcb : WFc μ) (hk : k < qM μ) (h3 : ¬ ck μ k = 3) (hs : ¬ shutM μ k) (h1 : ck μ k = 1) (hp : ¬ noPlaceM μ (cf μ k) ((mI μ 51 (cf μ k))) = 0) (hq : Q (some (.int (rC (noCarryM μ k)))) (carryM μ k)) : Mt kX5_carries [.ref 44, .int (nI k)] μ Q := by
  obtain ⟨⟨ec, lc⟩, ⟨ef, lf⟩, eg, lg⟩ := hcb.2 k hk
  have hq24 := hcb.1.2
  have hk24 : k < 24 := by omega
  unfold noCarryM carryM at hq
  rw [if_neg h3, if_neg h3, if_neg hs, if_neg hs, if_neg (fun q => by have := q.1; omega), if_neg (fun q => by have := q.1; omega)] at hq
  have hle := noPass_le μ (cf μ k) ((mI μ 51 (cf μ k))) (ct μ k) ((mI μ 51 (ct μ k)))
  unfold rC at hq
  rw [if_neg (by unfold noPass1M; omega)] at hq
  have h2 : True ∨ noPass1M μ k = 0 := Or.inl trivial
  obtain ⟨w, ew⟩ := pass_form μ (cf μ k) ((mI μ 51 (cf μ k))) (ct μ k) ((mI μ 51 (ct μ k)))
  have hw2 : WFt (passM μ (cf μ k) ((mI μ 51 (cf μ k))) (ct μ k) ((mI μ 51 (ct μ k)))) := hw.pass lf lg
  unfold pass1M at hq
  try unfold noPass1M at hq
  unfold noPass1M at h2
  rw [ew] at hq hw2
  refine Mt.enter rfl (Nat.le_of_ble_eq_true rfl) ?_
  refine X.aload_n dX5_carries_0 rfl ?_
  refine X.getR (b := 51) (kf := 7) dX5_carries_1 (hM.1 44 (by decide) (by decide)) (by decide) (by decide) rfl wf_X5_30 (hM.2 7 (by decide)) ?_
  refine X.aload_n dX5_carries_4 rfl ?_
  refine X.getR (b := 55) (kf := 12) dX5_carries_5 (hM.1 44 (by decide) (by decide)) (by decide) (by decide) rfl wf_X5_42 (hM.2 12 (by decide)) ?_
  refine X.iload_n dX5_carries_8 rfl ?_
  refine X.iald dX5_carries_9 (hM.1 55 (by decide) (by decide)) (rfl) (hk24) (by decide) ?_
  refine X.iald dX5_carries_10 (hM.1 51 (by decide) (by decide)) (ef) (lf) (by decide) ?_
  refine X.istore_n dX5_carries_11 (Nat.le_of_ble_eq_true rfl) ?_
  refine X.aload_n dX5_carries_12 rfl ?_
  refine X.getR (b := 51) (kf := 7) dX5_carries_13 (hM.1 44 (by decide) (by decide)) (by decide) (by decide) rfl wf_X5_30 (hM.2 7 (by decide)) ?_
  refine X.aload_n dX5_carries_16 rfl ?_
  refine X.getR (b := 56) (kf := 13) dX5_carries_17 (hM.1 44 (by decide) (by decide)) (by decide) (by decide) rfl wf_X5_45 (hM.2 13 (by decide)) ?_
  refine X.iload_n dX5_carries_20 rfl ?_
  refine X.iald dX5_carries_21 (hM.1 56 (by decide) (by decide)) (rfl) (hk24) (by decide) ?_
  refine X.iald dX5_carries_22 (hM.1 51 (by decide) (by decide)) (eg) (lg) (by decide) ?_
  refine X.istore_n dX5_carries_23 (Nat.le_of_ble_eq_true rfl) ?_
  refine X.aload_n dX5_carries_24 rfl ?_
  refine X.getR (b := 54) (kf := 11) dX5_carries_25 (hM.1 44 (by decide) (by decide)) (by decide) (by decide) rfl wf_X5_39 (hM.2 11 (by decide)) ?_
  refine X.iload_n dX5_carries_28 rfl ?_
  refine X.iald dX5_carries_29 (hM.1 54 (by decide) (by decide)) (rfl) (hk24) (by decide) ?_
  refine X.iconst (v := 3) dX5_carries_30 (by decide) ?_
  refine X.icmp_ne_t (tgt := 53) dX5_carries_31 (by decide) ((by rw [ec]; exact nI_neq h3 (by omega) (by decide))) ?_
  refine X.aload_n dX5_carries_53 rfl ?_
  refine X.getR (b := 54) (kf := 11) dX5_carries_54 (hM.1 44 (by decide) (by decide)) (by decide) (by decide) rfl wf_X5_39 (hM.2 11 (by decide)) ?_
  refine X.iload_n dX5_carries_57 rfl ?_
  refine X.iald dX5_carries_58 (hM.1 54 (by decide) (by decide)) (rfl) (hk24) (by decide) ?_
  refine X.iconst (v := 1) dX5_carries_59 (by decide) ?_
  refine X.icmp_ne_f (tgt := 100) dX5_carries_60 (by decide) ((by rw [ec, h1]; rfl)) ?_
  refine X.aload_n dX5_carries_63 rfl ?_
  refine X.aload_n dX5_carries_64 rfl ?_
  refine X.getR (b := 55) (kf := 12) dX5_carries_65 (hM.1 44 (by decide) (by decide)) (by decide) (by decide) rfl wf_X5_42 (hM.2 12 (by decide)) ?_
  refine X.iload_n dX5_carries_68 rfl ?_
  refine X.iald dX5_carries_69 (hM.1 55 (by decide) (by decide)) (rfl) (hk24) (by decide) ?_
  refine X.iload_n dX5_carries_70 rfl ?_
  refine X.cV2i (k' := kX5_noPlace) dX5_carries_71 (hM.1 44 (by decide) (by decide)) ⟨by decide, rfl⟩ v_X5_noPlace wm_X5_113 wi_X5_noPlace ws_X5_noPlace ⟨Nat.le_of_ble_eq_true rfl, Nat.le_of_ble_eq_true rfl⟩ n_X5_noPlace (Nat.le_of_ble_eq_true rfl) ?_
  rw [ef]
  refine m_noPlace hM hw lf ?_
  refine ⟨_, rfl, ?_⟩
  refine X.if_ne_t (tgt := 100) dX5_carries_74 (by decide) (nI_neq (b := 0) hp (by have := noPlace_le μ (cf μ k) ((mI μ 51 (cf μ k))); omega) (by decide)) ?_
  refine X.aload_n dX5_carries_100 rfl ?_
  refine X.aload_n dX5_carries_101 rfl ?_
  refine X.getR (b := 55) (kf := 12) dX5_carries_102 (hM.1 44 (by decide) (by decide)) (by decide) (by decide) rfl wf_X5_42 (hM.2 12 (by decide)) ?_
  refine X.iload_n dX5_carries_105 rfl ?_
  refine X.iald dX5_carries_106 (hM.1 55 (by decide) (by decide)) (rfl) (hk24) (by decide) ?_
  refine X.iload_n dX5_carries_107 rfl ?_
  refine X.aload_n dX5_carries_108 rfl ?_
  refine X.getR (b := 56) (kf := 13) dX5_carries_109 (hM.1 44 (by decide) (by decide)) (by decide) (by decide) rfl wf_X5_45 (hM.2 13 (by decide)) ?_
  refine X.iload_n dX5_carries_112 rfl ?_
  refine X.iald dX5_carries_113 (hM.1 56 (by decide) (by decide)) (rfl) (hk24) (by decide) ?_
  refine X.iload_n dX5_carries_114 rfl ?_
  refine X.cV4i (k' := kX5_passes) dX5_carries_115 (hM.1 44 (by decide) (by decide)) ⟨by decide, rfl⟩ v_X5_passes wm_X5_169 wi_X5_passes ws_X5_passes ⟨Nat.le_of_ble_eq_true rfl, Nat.le_of_ble_eq_true rfl⟩ n_X5_passes (Nat.le_of_ble_eq_true rfl) ?_
  rw [ef, eg]
  refine m_passes hM hw lf lg ?_
  rw [show passM μ (cf μ k) (mI μ 51 (cf μ k)) (ct μ k) (mI μ 51 (ct μ k)) = sB μ w from ew]
  refine ⟨_, rfl, ?_⟩
  refine X.istore dX5_carries_118 (Nat.le_of_ble_eq_true rfl) ?_
  refine X.aload_n dX5_carries_120 rfl ?_
  refine X.getR (b := 54) (kf := 11) dX5_carries_121 (hM.1 44 (by decide) (by decide)) (by decide) (by decide) rfl wf_X5_39 (hM.2 11 (by decide)) ?_
  refine X.iload_n dX5_carries_124 rfl ?_
  refine X.iald dX5_carries_125 (hM.1 54 (by decide) (by decide)) (rfl) (hk24) (by decide) ?_
  refine X.iconst (v := 2) dX5_carries_126 (by decide) ?_
  refine X.icmp_ne_t (tgt := 159) dX5_carries_127 (by decide) ((by show ¬ mI μ 54 k = 2; rw [ec, h1]; decide)) ?_
  refine X.iload dX5_carries_159 rfl ?_
  refine X.ret dX5_carries_161 ⟨trivial, ?_⟩
  exact hq
set_option maxRecDepth 100000 in
set_option maxHeartbeats 4000000 in
theorem m_carries3c {k : Nat} {μ : xM} {Q : Option Value → xM → Prop} (hM : ShM μ) (hw : WFt μ) (hcb : WFc μ) (hk : k < qM μ) (h3 : ¬ ck μ k = 3) (hs : ¬ shutM μ k) (h1 : ck μ k = 1) (hp : noPlaceM μ (cf μ k) ((mI μ 51 (cf μ k))) = 0) (hn : ¬ numM μ (tp μ (cf μ k)) (ix ((mI μ 51 (cf μ k)))) = 0) (hq : Q (some (.int (rC (noCarryM μ k)))) (carryM μ k)) : Mt kX5_carries [.ref 44, .int (nI k)] μ Q := by
  obtain ⟨⟨ec, lc⟩, ⟨ef, lf⟩, eg, lg⟩ := hcb.2 k hk
  have hq24 := hcb.1.2
  have hk24 : k < 24 := by omega
  unfold noCarryM carryM at hq
  rw [if_neg h3, if_neg h3, if_neg hs, if_neg hs, if_neg (fun q => by have := q.1; omega), if_neg (fun q => by have := q.1; omega)] at hq
  have hle := noPass_le μ (cf μ k) ((mI μ 51 (cf μ k))) (ct μ k) ((mI μ 51 (ct μ k)))
  unfold rC at hq
  rw [if_neg (by unfold noPass1M; omega)] at hq
  have h2 : True ∨ noPass1M μ k = 0 := Or.inl trivial
  obtain ⟨w, ew⟩ := pass_form μ (cf μ k) ((mI μ 51 (cf μ k))) (ct μ k) ((mI μ 51 (ct μ k)))
  have hw2 : WFt (passM μ (cf μ k) ((mI μ 51 (cf μ k))) (ct μ k) ((mI μ 51 (ct μ k)))) := hw.pass lf lg
  unfold pass1M at hq
  try unfold noPass1M at hq
  unfold noPass1M at h2
  rw [ew] at hq hw2
  obtain ⟨a0, ar, ae, ai⟩ := noPlace_0 hp
  obtain ⟨ht, et⟩ := hw.1 _ lf a0
  refine Mt.enter rfl (Nat.le_of_ble_eq_true rfl) ?_
  refine X.aload_n dX5_carries_0 rfl ?_
  refine X.getR (b := 51) (kf := 7) dX5_carries_1 (hM.1 44 (by decide) (by decide)) (by decide) (by decide) rfl wf_X5_30 (hM.2 7 (by decide)) ?_
  refine X.aload_n dX5_carries_4 rfl ?_
  refine X.getR (b := 55) (kf := 12) dX5_carries_5 (hM.1 44 (by decide) (by decide)) (by decide) (by decide) rfl wf_X5_42 (hM.2 12 (by decide)) ?_
  refine X.iload_n dX5_carries_8 rfl ?_
  refine X.iald dX5_carries_9 (hM.1 55 (by decide) (by decide)) (rfl) (hk24) (by decide) ?_
  refine X.iald dX5_carries_10 (hM.1 51 (by decide) (by decide)) (ef) (lf) (by decide) ?_
  refine X.istore_n dX5_carries_11 (Nat.le_of_ble_eq_true rfl) ?_
  refine X.aload_n dX5_carries_12 rfl ?_
  refine X.getR (b := 51) (kf := 7) dX5_carries_13 (hM.1 44 (by decide) (by decide)) (by decide) (by decide) rfl wf_X5_30 (hM.2 7 (by decide)) ?_
  refine X.aload_n dX5_carries_16 rfl ?_
  refine X.getR (b := 56) (kf := 13) dX5_carries_17 (hM.1 44 (by decide) (by decide)) (by decide) (by decide) rfl wf_X5_45 (hM.2 13 (by decide)) ?_
  refine X.iload_n dX5_carries_20 rfl ?_
  refine X.iald dX5_carries_21 (hM.1 56 (by decide) (by decide)) (rfl) (hk24) (by decide) ?_
  refine X.iald dX5_carries_22 (hM.1 51 (by decide) (by decide)) (eg) (lg) (by decide) ?_
  refine X.istore_n dX5_carries_23 (Nat.le_of_ble_eq_true rfl) ?_
  refine X.aload_n dX5_carries_24 rfl ?_
  refine X.getR (b := 54) (kf := 11) dX5_carries_25 (hM.1 44 (by decide) (by decide)) (by decide) (by decide) rfl wf_X5_39 (hM.2 11 (by decide)) ?_
  refine X.iload_n dX5_carries_28 rfl ?_
  refine X.iald dX5_carries_29 (hM.1 54 (by decide) (by decide)) (rfl) (hk24) (by decide) ?_
  refine X.iconst (v := 3) dX5_carries_30 (by decide) ?_
  refine X.icmp_ne_t (tgt := 53) dX5_carries_31 (by decide) ((by rw [ec]; exact nI_neq h3 (by omega) (by decide))) ?_
  refine X.aload_n dX5_carries_53 rfl ?_
  refine X.getR (b := 54) (kf := 11) dX5_carries_54 (hM.1 44 (by decide) (by decide)) (by decide) (by decide) rfl wf_X5_39 (hM.2 11 (by decide)) ?_
  refine X.iload_n dX5_carries_57 rfl ?_
  refine X.iald dX5_carries_58 (hM.1 54 (by decide) (by decide)) (rfl) (hk24) (by decide) ?_
  refine X.iconst (v := 1) dX5_carries_59 (by decide) ?_
  refine X.icmp_ne_f (tgt := 100) dX5_carries_60 (by decide) ((by rw [ec, h1]; rfl)) ?_
  refine X.aload_n dX5_carries_63 rfl ?_
  refine X.aload_n dX5_carries_64 rfl ?_
  refine X.getR (b := 55) (kf := 12) dX5_carries_65 (hM.1 44 (by decide) (by decide)) (by decide) (by decide) rfl wf_X5_42 (hM.2 12 (by decide)) ?_
  refine X.iload_n dX5_carries_68 rfl ?_
  refine X.iald dX5_carries_69 (hM.1 55 (by decide) (by decide)) (rfl) (hk24) (by decide) ?_
  refine X.iload_n dX5_carries_70 rfl ?_
  refine X.cV2i (k' := kX5_noPlace) dX5_carries_71 (hM.1 44 (by decide) (by decide)) ⟨by decide, rfl⟩ v_X5_noPlace wm_X5_113 wi_X5_noPlace ws_X5_noPlace ⟨Nat.le_of_ble_eq_true rfl, Nat.le_of_ble_eq_true rfl⟩ n_X5_noPlace (Nat.le_of_ble_eq_true rfl) ?_
  rw [ef]
  refine m_noPlace hM hw lf ?_
  refine ⟨_, rfl, ?_⟩
  refine X.if_ne_f (tgt := 100) dX5_carries_74 (by decide) ((by show nI (noPlaceM μ (cf μ k) ((mI μ 51 (cf μ k)))) = 0; rw [hp]; rfl)) ?_
  refine X.aload_n dX5_carries_77 rfl ?_
  refine X.aload_n dX5_carries_78 rfl ?_
  refine X.getR (b := 50) (kf := 6) dX5_carries_79 (hM.1 44 (by decide) (by decide)) (by decide) (by decide) rfl wf_X5_27 (hM.2 6 (by decide)) ?_
  refine X.aload_n dX5_carries_82 rfl ?_
  refine X.getR (b := 55) (kf := 12) dX5_carries_83 (hM.1 44 (by decide) (by decide)) (by decide) (by decide) rfl wf_X5_42 (hM.2 12 (by decide)) ?_
  refine X.iload_n dX5_carries_86 rfl ?_
  refine X.iald dX5_carries_87 (hM.1 55 (by decide) (by decide)) (rfl) (hk24) (by decide) ?_
  refine X.iald dX5_carries_88 (hM.1 50 (by decide) (by decide)) (ef) (lf) (by decide) ?_
  refine X.iload_n dX5_carries_89 rfl ?_
  refine X.cV2l (k' := kX5_numberOf) dX5_carries_90 (hM.1 44 (by decide) (by decide)) ⟨by decide, rfl⟩ v_X5_numberOf wm_X5_165 wi_X5_numberOf ws_X5_numberOf ⟨Nat.le_of_ble_eq_true rfl, Nat.le_of_ble_eq_true rfl⟩ n_X5_numberOf (Nat.le_of_ble_eq_true rfl) ?_
  rw [et]
  refine m_numberOf_i hM hw ht ai ae ?_
  refine ⟨_, rfl, ?_⟩
  refine X.lconst (v := 0) dX5_carries_93 (by decide) ?_
  refine X.lcmp dX5_carries_94 ?_
  refine X.if_ne_t (tgt := 100) dX5_carries_95 (by decide) (lgc_ne hn) ?_
  refine X.aload_n dX5_carries_100 rfl ?_
  refine X.aload_n dX5_carries_101 rfl ?_
  refine X.getR (b := 55) (kf := 12) dX5_carries_102 (hM.1 44 (by decide) (by decide)) (by decide) (by decide) rfl wf_X5_42 (hM.2 12 (by decide)) ?_
  refine X.iload_n dX5_carries_105 rfl ?_
  refine X.iald dX5_carries_106 (hM.1 55 (by decide) (by decide)) (rfl) (hk24) (by decide) ?_
  refine X.iload_n dX5_carries_107 rfl ?_
  refine X.aload_n dX5_carries_108 rfl ?_
  refine X.getR (b := 56) (kf := 13) dX5_carries_109 (hM.1 44 (by decide) (by decide)) (by decide) (by decide) rfl wf_X5_45 (hM.2 13 (by decide)) ?_
  refine X.iload_n dX5_carries_112 rfl ?_
  refine X.iald dX5_carries_113 (hM.1 56 (by decide) (by decide)) (rfl) (hk24) (by decide) ?_
  refine X.iload_n dX5_carries_114 rfl ?_
  refine X.cV4i (k' := kX5_passes) dX5_carries_115 (hM.1 44 (by decide) (by decide)) ⟨by decide, rfl⟩ v_X5_passes wm_X5_169 wi_X5_passes ws_X5_passes ⟨Nat.le_of_ble_eq_true rfl, Nat.le_of_ble_eq_true rfl⟩ n_X5_passes (Nat.le_of_ble_eq_true rfl) ?_
  rw [ef, eg]
  refine m_passes hM hw lf lg ?_
  rw [show passM μ (cf μ k) (mI μ 51 (cf μ k)) (ct μ k) (mI μ 51 (ct μ k)) = sB μ w from ew]
  refine ⟨_, rfl, ?_⟩
  refine X.istore dX5_carries_118 (Nat.le_of_ble_eq_true rfl) ?_
  refine X.aload_n dX5_carries_120 rfl ?_
  refine X.getR (b := 54) (kf := 11) dX5_carries_121 (hM.1 44 (by decide) (by decide)) (by decide) (by decide) rfl wf_X5_39 (hM.2 11 (by decide)) ?_
  refine X.iload_n dX5_carries_124 rfl ?_
  refine X.iald dX5_carries_125 (hM.1 54 (by decide) (by decide)) (rfl) (hk24) (by decide) ?_
  refine X.iconst (v := 2) dX5_carries_126 (by decide) ?_
  refine X.icmp_ne_t (tgt := 159) dX5_carries_127 (by decide) ((by show ¬ mI μ 54 k = 2; rw [ec, h1]; decide)) ?_
  refine X.iload dX5_carries_159 rfl ?_
  refine X.ret dX5_carries_161 ⟨trivial, ?_⟩
  exact hq
theorem m_carries {k : Nat} {μ : xM} {Q : Option Value → xM → Prop} (hM : ShM μ) (hw : WFt μ) (hcb : WFc μ) (hk : k < qM μ) (hq : Q (some (.int (rC (noCarryM μ k)))) (carryM μ k)) : Mt kX5_carries [.ref 44, .int (nI k)] μ Q := by
  by_cases h3 : ck μ k = 3
  · exact m_carries1 hM hw hcb hk h3 hq
  · by_cases hs : shutM μ k
    · exact m_carries2 hM hw hcb hk h3 hs hq
    · by_cases h1 : ck μ k = 1
      · by_cases hp : noPlaceM μ (cf μ k) ((mI μ 51 (cf μ k))) = 0
        · exact m_carries3c hM hw hcb hk h3 hs h1 hp (fun e => hs ⟨h1, hp, e⟩) hq
        · exact m_carries3b hM hw hcb hk h3 hs h1 hp hq
      · by_cases h2 : ck μ k = 2
        · by_cases hz : noPass1M μ k = 0
          · exact m_carries3d hM hw hcb hk h3 hs h1 ⟨h2, hz⟩ hq
          · exact m_carries3e hM hw hcb hk h3 hs h1 h2 hz hq
        · exact m_carries3f hM hw hcb hk h3 hs h1 h2 hq
end
section
/-! the reference: tick (laid by wip/whole/mkmodel9.py) -/
def calmM (μ : xM) (k : Nat) (a b : Int32) : xM := sI (sI (sI μ 59 k 0) 61 k (mI μ 61 k + a)) 60 k (mI μ 60 k + b)
def strikeM (μ : xM) (k : Nat) : xM := sI (sI μ 59 k (mI μ 59 k + 1)) 57 k (if mI μ 59 k + 1 = mI μ 58 k then 0 else 1)
def cabM (μ : xM) (k : Nat) : xM := if mI μ 57 k = 0 then μ else if noCarryM μ k = 6 then calmM (carryM μ k) k 1 0 else if noCarryM μ k = 0 then calmM (carryM μ k) k 0 1 else strikeM (failM (carryM μ k) (nI k) (noCarryM μ k)) k
def cntM (μ : xM) (k : Nat) : Int32 := if mI μ 57 k = 0 then 0 else if noCarryM μ k = 0 then 1 else 0
def cabsM (μ : xM) : Nat → xM
  | 0 => μ
  | k + 1 => cabM (cabsM μ k) k
def cntsM (μ : xM) : Nat → Int32
  | 0 => 0
  | k + 1 => cntsM μ k + cntM (cabsM μ k) k
def mvsM (μ : xM) : Nat → xM
  | 0 => μ
  | c + 1 => moveM (mvsM μ c) c
def WFm (μ : xM) (B : Nat) : Prop := ShM μ ∧ WFt μ ∧ WFc μ ∧ mI μ 44 20 = nI (fM μ) ∧ fM μ ≤ B
theorem WFm.f {μ : xM} {B : Nat} (h : WFm μ B) (hB : B < 2 ^ 30) : WFf μ := ⟨h.2.2.2.1, Nat.lt_of_le_of_lt h.2.2.2.2 hB⟩
theorem WFm.up {μ : xM} {B B' : Nat} (h : WFm μ B) (hB : B ≤ B') : WFm μ B' := ⟨h.1, h.2.1, h.2.2.1, h.2.2.2.1, Nat.le_trans h.2.2.2.2 hB⟩
theorem WFm.carry {μ : xM} {B : Nat} (h : WFm μ B) {k : Nat} (hk : k < qM μ) : WFm (carryM μ k) B := by
  have hw := h.2.1.carry h.2.2.1 hk
  obtain ⟨w, e⟩ := carry_form μ k
  rw [e] at hw ⊢
  exact ⟨h.1, hw, h.2.2.1, h.2.2.2.1, h.2.2.2.2⟩
theorem fM_fail {μ : xM} {B : Nat} (h : WFm μ B) (hB : B < 2 ^ 30) (who : Int32) (x : Nat) : mI (failM μ who x) 44 20 = nI (fM (failM μ who x)) ∧ fM (failM μ who x) = fM μ + 1 := by
  have e : mI (failM μ who x) 44 20 = mI μ 44 20 + 1 := rfl
  have e2 : mI (failM μ who x) 44 20 = nI (fM μ + 1) := by rw [e, h.2.2.2.1, nI_1]
  have e3 : fM (failM μ who x) = fM μ + 1 := by
    have := h.2.2.2.2
    unfold fM at e2 ⊢
    rw [e2, nI_clamp]
    unfold fM at this
    omega
  exact ⟨by rw [e3]; exact e2, e3⟩
theorem WFm.fail {μ : xM} {B : Nat} (h : WFm μ B) (hB : B < 2 ^ 30) (who : Int32) (x : Nat) : WFm (failM μ who x) (B + 1) := by
  obtain ⟨e1, e2⟩ := fM_fail h hB who x
  exact ⟨h.1, h.2.1, h.2.2.1, e1, by rw [e2]; have := h.2.2.2.2; omega⟩
theorem WFm.calm {μ : xM} {B : Nat} (h : WFm μ B) (k : Nat) (a b : Int32) : WFm (calmM μ k a b) B := ⟨h.1, h.2.1, h.2.2.1, h.2.2.2.1, h.2.2.2.2⟩
theorem WFm.strike {μ : xM} {B : Nat} (h : WFm μ B) (k : Nat) : WFm (strikeM μ k) B := ⟨h.1, h.2.1, h.2.2.1, h.2.2.2.1, h.2.2.2.2⟩
theorem WFm.cab {μ : xM} {B : Nat} (h : WFm μ B) (hB : B < 2 ^ 30) {k : Nat} (hk : k < qM μ) : WFm (cabM μ k) (B + 1) := by
  unfold cabM
  have hc := h.carry hk
  split
  · exact h.up (by omega)
  · split
    · exact (hc.calm k 1 0).up (by omega)
    · split
      · exact (hc.calm k 0 1).up (by omega)
      · exact (hc.fail hB (nI k) (noCarryM μ k)).strike k
theorem WFm.move {μ : xM} {B : Nat} (h : WFm μ B) (hB : B < 2 ^ 30) (c : Nat) : WFm (moveM μ c) (B + 1) := by
  unfold moveM
  split
  · exact WFm.up (B := B) ⟨h.1, h.2.1, h.2.2.1, h.2.2.2.1, h.2.2.2.2⟩ (by omega)
  · split
    · exact WFm.up (B := B) ⟨h.1, h.2.1, h.2.2.1, h.2.2.2.1, h.2.2.2.2⟩ (by omega)
    · exact h.fail hB _ _
theorem qM_cab (μ : xM) (k : Nat) : qM (cabM μ k) = qM μ := by
  obtain ⟨w, e⟩ := carry_form μ k
  unfold cabM
  rw [e]
  split
  · rfl
  · split
    · rfl
    · split <;> rfl
theorem qM_cabs (μ : xM) : ∀ k, qM (cabsM μ k) = qM μ
  | 0 => rfl
  | k + 1 => by rw [show cabsM μ (k + 1) = cabM (cabsM μ k) k from rfl, qM_cab, qM_cabs μ k]
theorem WFm.cabs {μ : xM} {B : Nat} (h : WFm μ B) (hB : B + 24 < 2 ^ 30) : ∀ k, k ≤ qM μ → WFm (cabsM μ k) (B + k)
  | 0, _ => h
  | k + 1, hk => by
    have hq := h.2.2.1.1.2
    exact (h.cabs hB k (by omega)).cab (by omega) (by rw [qM_cabs]; omega)
theorem WFm.mvs {μ : xM} {B : Nat} (h : WFm μ B) (hB : B + 16 < 2 ^ 30) : ∀ c, c ≤ 16 → WFm (mvsM μ c) (B + c)
  | 0, _ => h
  | c + 1, hc => (h.mvs hB c (by omega)).move (by omega) c
theorem rC_pos {n : Nat} (h6 : n ≠ 6) : rC n = nI n := by unfold rC; rw [if_neg h6]
set_option maxRecDepth 100000 in
set_option maxHeartbeats 4000000 in
theorem tk0 {ν : xM} {Q : Option Value → xM → Prop} {B k : Nat} {n : Int32} (h : WFm ν B) (hB : B < 2 ^ 30) (hk : k < qM ν) (hin : mI ν 57 k = 0) (K : X kX5_tick none 141 (xl [(0, .ref 44), (1, .int (n + cntM ν k)), (2, .int (nI k))]) [] (cabM ν k) Q) : X kX5_tick none 22 (xl [(0, .ref 44), (1, .int n), (2, .int (nI k))]) [] ν Q := by
  obtain ⟨hM, hw, hcb, -⟩ := id h
  have hq24 := hcb.1.2
  have hk24 : k < 24 := by omega
  obtain ⟨w, ew⟩ := carry_form ν k
  unfold cntM cabM at K
  rw [if_pos hin, if_pos hin, Int32.add_zero] at K
  refine X.aload_n dX5_tick_22 rfl ?_
  refine X.getR (b := 57) (kf := 14) dX5_tick_23 (hM.1 44 (by decide) (by decide)) (by decide) (by decide) rfl wf_X5_48 (hM.2 14 (by decide)) ?_
  refine X.iload_n dX5_tick_26 rfl ?_
  refine X.zald dX5_tick_27 (hM.1 57 (by decide) (by decide)) (rfl) (hk24) (by decide) ?_
  refine X.if_eq_t (tgt := 141) dX5_tick_28 (by decide) (hin) ?_
  exact X.at [(0, .ref 44), (1, .int n), (2, .int (nI k))] ⟨rfl, rfl, rfl, trivial⟩ K
set_option maxRecDepth 100000 in
set_option maxHeartbeats 4000000 in
theorem tk6 {ν : xM} {Q : Option Value → xM → Prop} {B k : Nat} {n : Int32} (h : WFm ν B) (hB : B < 2 ^ 30) (hk : k < qM ν) (hin : ¬ mI ν 57 k = 0) (h6 : noCarryM ν k = 6) (K : X kX5_tick none 141 (xl [(0, .ref 44), (1, .int (n + cntM ν k)), (2, .int (nI k))]) [] (cabM ν k) Q) : X kX5_tick none 22 (xl [(0, .ref 44), (1, .int n), (2, .int (nI k))]) [] ν Q := by
  obtain ⟨hM, hw, hcb, -⟩ := id h
  have hq24 := hcb.1.2
  have hk24 : k < 24 := by omega
  obtain ⟨w, ew⟩ := carry_form ν k
  have hr : rC (noCarryM ν k) = -1 := by rw [h6]; rfl
  unfold cntM cabM at K
  rw [if_neg hin, if_neg hin, if_pos h6, if_neg (by omega), ew] at K
  refine X.aload_n dX5_tick_22 rfl ?_
  refine X.getR (b := 57) (kf := 14) dX5_tick_23 (hM.1 44 (by decide) (by decide)) (by decide) (by decide) rfl wf_X5_48 (hM.2 14 (by decide)) ?_
  refine X.iload_n dX5_tick_26 rfl ?_
  refine X.zald dX5_tick_27 (hM.1 57 (by decide) (by decide)) (rfl) (hk24) (by decide) ?_
  refine X.if_eq_f (tgt := 141) dX5_tick_28 (by decide) (hin) ?_
  refine X.aload_n dX5_tick_31 rfl ?_
  refine X.iload_n dX5_tick_32 rfl ?_
  refine X.cV1i (k' := kX5_carries) dX5_tick_33 (hM.1 44 (by decide) (by decide)) ⟨by decide, rfl⟩ v_X5_carries wm_X5_182 wi_X5_carries ws_X5_carries ⟨Nat.le_of_ble_eq_true rfl, Nat.le_of_ble_eq_true rfl⟩ n_X5_carries (Nat.le_of_ble_eq_true rfl) ?_
  refine m_carries hM hw hcb hk ?_
  rw [hr, ew]
  refine ⟨_, rfl, ?_⟩
  refine X.istore_n dX5_tick_36 (Nat.le_of_ble_eq_true rfl) ?_
  refine X.iload_n dX5_tick_37 rfl ?_
  refine X.if_le_t (tgt := 86) dX5_tick_38 (by decide) ((by decide)) ?_
  refine X.aload_n dX5_tick_86 rfl ?_
  refine X.getR (b := 59) (kf := 16) dX5_tick_87 (hM.1 44 (by decide) (by decide)) (by decide) (by decide) rfl wf_X5_54 (hM.2 16 (by decide)) ?_
  refine X.iload_n dX5_tick_90 rfl ?_
  refine X.iconst (v := 0) dX5_tick_91 (by decide) ?_
  refine X.iast dX5_tick_92 (hM.1 59 (by decide) (by decide)) (rfl) (hk24) (by decide) ?_
  refine X.aload_n dX5_tick_93 rfl ?_
  refine X.getR (b := 61) (kf := 18) dX5_tick_94 (hM.1 44 (by decide) (by decide)) (by decide) (by decide) rfl wf_X5_60 (hM.2 18 (by decide)) ?_
  refine X.iload_n dX5_tick_97 rfl ?_
  refine X.dup2 dX5_tick_98 ?_
  refine X.iald dX5_tick_99 (hM.1 61 (by decide) (by decide)) (rfl) (hk24) (by decide) ?_
  refine X.iload_n dX5_tick_100 rfl ?_
  refine X.if_ge_f (tgt := 108) dX5_tick_101 (by decide) ((by decide)) ?_
  refine X.iconst (v := 1) dX5_tick_104 (by decide) ?_
  refine X.goto (tgt := 109) dX5_tick_105 (by decide) ?_
  refine X.iadd dX5_tick_109 ?_
  refine X.iast dX5_tick_110 (hM.1 61 (by decide) (by decide)) (rfl) (hk24) (by decide) ?_
  refine X.aload_n dX5_tick_111 rfl ?_
  refine X.getR (b := 60) (kf := 17) dX5_tick_112 (hM.1 44 (by decide) (by decide)) (by decide) (by decide) rfl wf_X5_57 (hM.2 17 (by decide)) ?_
  refine X.iload_n dX5_tick_115 rfl ?_
  refine X.dup2 dX5_tick_116 ?_
  refine X.iald dX5_tick_117 (hM.1 60 (by decide) (by decide)) (rfl) (hk24) (by decide) ?_
  refine X.iload_n dX5_tick_118 rfl ?_
  refine X.if_ge_f (tgt := 126) dX5_tick_119 (by decide) ((by decide)) ?_
  refine X.iconst (v := 0) dX5_tick_122 (by decide) ?_
  refine X.goto (tgt := 127) dX5_tick_123 (by decide) ?_
  refine X.iadd dX5_tick_127 ?_
  refine X.iast dX5_tick_128 (hM.1 60 (by decide) (by decide)) (rfl) (hk24) (by decide) ?_
  refine X.iload_n dX5_tick_129 rfl ?_
  refine X.iload_n dX5_tick_130 rfl ?_
  refine X.if_ge_f (tgt := 138) dX5_tick_131 (by decide) ((by decide)) ?_
  refine X.iconst (v := 0) dX5_tick_134 (by decide) ?_
  refine X.goto (tgt := 139) dX5_tick_135 (by decide) ?_
  refine X.iadd dX5_tick_139 ?_
  refine X.istore_n dX5_tick_140 (Nat.le_of_ble_eq_true rfl) ?_
  exact X.at [(0, .ref 44), (1, .int (n + 0)), (2, .int (nI k))] ⟨rfl, rfl, rfl, trivial⟩ K
set_option maxRecDepth 100000 in
set_option maxHeartbeats 4000000 in
theorem tk1 {ν : xM} {Q : Option Value → xM → Prop} {B k : Nat} {n : Int32} (h : WFm ν B) (hB : B < 2 ^ 30) (hk : k < qM ν) (hin : ¬ mI ν 57 k = 0) (h0 : noCarryM ν k = 0) (K : X kX5_tick none 141 (xl [(0, .ref 44), (1, .int (n + cntM ν k)), (2, .int (nI k))]) [] (cabM ν k) Q) : X kX5_tick none 22 (xl [(0, .ref 44), (1, .int n), (2, .int (nI k))]) [] ν Q := by
  obtain ⟨hM, hw, hcb, -⟩ := id h
  have hq24 := hcb.1.2
  have hk24 : k < 24 := by omega
  obtain ⟨w, ew⟩ := carry_form ν k
  have hr : rC (noCarryM ν k) = 0 := by rw [h0]; rfl
  unfold cntM cabM at K
  have h6 : ¬ noCarryM ν k = 6 := by omega
  rw [if_neg hin, if_neg hin, if_neg h6, if_pos h0, if_pos h0, ew] at K
  refine X.aload_n dX5_tick_22 rfl ?_
  refine X.getR (b := 57) (kf := 14) dX5_tick_23 (hM.1 44 (by decide) (by decide)) (by decide) (by decide) rfl wf_X5_48 (hM.2 14 (by decide)) ?_
  refine X.iload_n dX5_tick_26 rfl ?_
  refine X.zald dX5_tick_27 (hM.1 57 (by decide) (by decide)) (rfl) (hk24) (by decide) ?_
  refine X.if_eq_f (tgt := 141) dX5_tick_28 (by decide) (hin) ?_
  refine X.aload_n dX5_tick_31 rfl ?_
  refine X.iload_n dX5_tick_32 rfl ?_
  refine X.cV1i (k' := kX5_carries) dX5_tick_33 (hM.1 44 (by decide) (by decide)) ⟨by decide, rfl⟩ v_X5_carries wm_X5_182 wi_X5_carries ws_X5_carries ⟨Nat.le_of_ble_eq_true rfl, Nat.le_of_ble_eq_true rfl⟩ n_X5_carries (Nat.le_of_ble_eq_true rfl) ?_
  refine m_carries hM hw hcb hk ?_
  rw [hr, ew]
  refine ⟨_, rfl, ?_⟩
  refine X.istore_n dX5_tick_36 (Nat.le_of_ble_eq_true rfl) ?_
  refine X.iload_n dX5_tick_37 rfl ?_
  refine X.if_le_t (tgt := 86) dX5_tick_38 (by decide) ((by decide)) ?_
  refine X.aload_n dX5_tick_86 rfl ?_
  refine X.getR (b := 59) (kf := 16) dX5_tick_87 (hM.1 44 (by decide) (by decide)) (by decide) (by decide) rfl wf_X5_54 (hM.2 16 (by decide)) ?_
  refine X.iload_n dX5_tick_90 rfl ?_
  refine X.iconst (v := 0) dX5_tick_91 (by decide) ?_
  refine X.iast dX5_tick_92 (hM.1 59 (by decide) (by decide)) (rfl) (hk24) (by decide) ?_
  refine X.aload_n dX5_tick_93 rfl ?_
  refine X.getR (b := 61) (kf := 18) dX5_tick_94 (hM.1 44 (by decide) (by decide)) (by decide) (by decide) rfl wf_X5_60 (hM.2 18 (by decide)) ?_
  refine X.iload_n dX5_tick_97 rfl ?_
  refine X.dup2 dX5_tick_98 ?_
  refine X.iald dX5_tick_99 (hM.1 61 (by decide) (by decide)) (rfl) (hk24) (by decide) ?_
  refine X.iload_n dX5_tick_100 rfl ?_
  refine X.if_ge_t (tgt := 108) dX5_tick_101 (by decide) ((by decide)) ?_
  refine X.iconst (v := 0) dX5_tick_108 (by decide) ?_
  refine X.iadd dX5_tick_109 ?_
  refine X.iast dX5_tick_110 (hM.1 61 (by decide) (by decide)) (rfl) (hk24) (by decide) ?_
  refine X.aload_n dX5_tick_111 rfl ?_
  refine X.getR (b := 60) (kf := 17) dX5_tick_112 (hM.1 44 (by decide) (by decide)) (by decide) (by decide) rfl wf_X5_57 (hM.2 17 (by decide)) ?_
  refine X.iload_n dX5_tick_115 rfl ?_
  refine X.dup2 dX5_tick_116 ?_
  refine X.iald dX5_tick_117 (hM.1 60 (by decide) (by decide)) (rfl) (hk24) (by decide) ?_
  refine X.iload_n dX5_tick_118 rfl ?_
  refine X.if_ge_t (tgt := 126) dX5_tick_119 (by decide) ((by decide)) ?_
  refine X.iconst (v := 1) dX5_tick_126 (by decide) ?_
  refine X.iadd dX5_tick_127 ?_
  refine X.iast dX5_tick_128 (hM.1 60 (by decide) (by decide)) (rfl) (hk24) (by decide) ?_
  refine X.iload_n dX5_tick_129 rfl ?_
  refine X.iload_n dX5_tick_130 rfl ?_
  refine X.if_ge_t (tgt := 138) dX5_tick_131 (by decide) ((by decide)) ?_
  refine X.iconst (v := 1) dX5_tick_138 (by decide) ?_
  refine X.iadd dX5_tick_139 ?_
  refine X.istore_n dX5_tick_140 (Nat.le_of_ble_eq_true rfl) ?_
  exact X.at [(0, .ref 44), (1, .int (n + 1)), (2, .int (nI k))] ⟨rfl, rfl, rfl, trivial⟩ K
set_option maxRecDepth 100000 in
set_option maxHeartbeats 4000000 in
theorem tk2 {ν : xM} {Q : Option Value → xM → Prop} {B k : Nat} {n : Int32} (h : WFm ν B) (hB : B < 2 ^ 30) (hk : k < qM ν) (hin : ¬ mI ν 57 k = 0) (h6 : ¬ noCarryM ν k = 6) (h0 : ¬ noCarryM ν k = 0) (K : X kX5_tick none 141 (xl [(0, .ref 44), (1, .int (n + cntM ν k)), (2, .int (nI k))]) [] (cabM ν k) Q) : X kX5_tick none 22 (xl [(0, .ref 44), (1, .int n), (2, .int (nI k))]) [] ν Q := by
  obtain ⟨hM, hw, hcb, -⟩ := id h
  have hq24 := hcb.1.2
  have hk24 : k < 24 := by omega
  obtain ⟨w, ew⟩ := carry_form ν k
  have hle := noCarry_le ν k
  have hr : rC (noCarryM ν k) = nI (noCarryM ν k) := rC_pos h6
  have hcar := h.carry hk
  unfold cntM cabM at K
  rw [if_neg hin, if_neg hin, if_neg h6, if_neg h0, if_neg h0, Int32.add_zero, ew] at K
  rw [ew] at hcar
  refine X.aload_n dX5_tick_22 rfl ?_
  refine X.getR (b := 57) (kf := 14) dX5_tick_23 (hM.1 44 (by decide) (by decide)) (by decide) (by decide) rfl wf_X5_48 (hM.2 14 (by decide)) ?_
  refine X.iload_n dX5_tick_26 rfl ?_
  refine X.zald dX5_tick_27 (hM.1 57 (by decide) (by decide)) (rfl) (hk24) (by decide) ?_
  refine X.if_eq_f (tgt := 141) dX5_tick_28 (by decide) (hin) ?_
  refine X.aload_n dX5_tick_31 rfl ?_
  refine X.iload_n dX5_tick_32 rfl ?_
  refine X.cV1i (k' := kX5_carries) dX5_tick_33 (hM.1 44 (by decide) (by decide)) ⟨by decide, rfl⟩ v_X5_carries wm_X5_182 wi_X5_carries ws_X5_carries ⟨Nat.le_of_ble_eq_true rfl, Nat.le_of_ble_eq_true rfl⟩ n_X5_carries (Nat.le_of_ble_eq_true rfl) ?_
  refine m_carries hM hw hcb hk ?_
  rw [hr, ew]
  refine ⟨_, rfl, ?_⟩
  refine X.istore_n dX5_tick_36 (Nat.le_of_ble_eq_true rfl) ?_
  refine X.iload_n dX5_tick_37 rfl ?_
  refine X.if_le_f (tgt := 86) dX5_tick_38 (by decide) (fun q => h0 (nI_le0 q (by omega))) ?_
  refine X.aload_n dX5_tick_41 rfl ?_
  refine X.iload_n dX5_tick_42 rfl ?_
  refine X.iload_n dX5_tick_43 rfl ?_
  refine X.cV2v (k' := kX5_fails) dX5_tick_44 (hM.1 44 (by decide) (by decide)) ⟨by decide, rfl⟩ v_X5_fails wm_X5_178 wi_X5_fails ws_X5_fails ⟨Nat.le_of_ble_eq_true rfl, Nat.le_of_ble_eq_true rfl⟩ n_X5_fails (Nat.le_of_ble_eq_true rfl) ?_
  refine m_fails hM (hcar.f hB) (by omega) ?_
  refine ⟨rfl, ?_⟩
  refine X.aload_n dX5_tick_47 rfl ?_
  refine X.getR (b := 59) (kf := 16) dX5_tick_48 (hM.1 44 (by decide) (by decide)) (by decide) (by decide) rfl wf_X5_54 (hM.2 16 (by decide)) ?_
  refine X.iload_n dX5_tick_51 rfl ?_
  refine X.dup2 dX5_tick_52 ?_
  refine X.iald dX5_tick_53 (hM.1 59 (by decide) (by decide)) (rfl) (hk24) (by decide) ?_
  refine X.iconst (v := 1) dX5_tick_54 (by decide) ?_
  refine X.iadd dX5_tick_55 ?_
  refine X.iast dX5_tick_56 (hM.1 59 (by decide) (by decide)) (rfl) (hk24) (by decide) ?_
  refine X.aload_n dX5_tick_57 rfl ?_
  refine X.getR (b := 57) (kf := 14) dX5_tick_58 (hM.1 44 (by decide) (by decide)) (by decide) (by decide) rfl wf_X5_48 (hM.2 14 (by decide)) ?_
  refine X.iload_n dX5_tick_61 rfl ?_
  refine X.aload_n dX5_tick_62 rfl ?_
  refine X.getR (b := 59) (kf := 16) dX5_tick_63 (hM.1 44 (by decide) (by decide)) (by decide) (by decide) rfl wf_X5_54 (hM.2 16 (by decide)) ?_
  refine X.iload_n dX5_tick_66 rfl ?_
  refine X.iald dX5_tick_67 (hM.1 59 (by decide) (by decide)) (rfl) (hk24) (by decide) ?_
  refine X.aload_n dX5_tick_68 rfl ?_
  refine X.getR (b := 58) (kf := 15) dX5_tick_69 (hM.1 44 (by decide) (by decide)) (by decide) (by decide) rfl wf_X5_51 (hM.2 15 (by decide)) ?_
  refine X.iload_n dX5_tick_72 rfl ?_
  refine X.iald dX5_tick_73 (hM.1 58 (by decide) (by decide)) (rfl) (hk24) (by decide) ?_
  refine X.icmp_eq (tgt := 81) dX5_tick_74 (by decide) (fun c74 => ?_) (fun c74 => ?_)
  · refine X.iconst (v := 0) dX5_tick_81 (by decide) ?_
    refine X.zast dX5_tick_82 (hM.1 57 (by decide) (by decide)) (rfl) (hk24) (by decide) (by first | exact Or.inl rfl | exact Or.inr rfl) ?_
    refine X.goto (tgt := 141) dX5_tick_83 (by decide) ?_
    unfold strikeM at K
    rw [mI_sI, up2_s, up2_a _ _ (show (58 : Nat) ≠ 59 by decide)] at c74
    first
      | (rw [if_pos c74] at K; exact X.at [(0, .ref 44), (1, .int n), (2, .int (nI k))] ⟨rfl, rfl, rfl, trivial⟩ K)
      | (rw [if_neg c74] at K; exact X.at [(0, .ref 44), (1, .int n), (2, .int (nI k))] ⟨rfl, rfl, rfl, trivial⟩ K)
  · refine X.iconst (v := 1) dX5_tick_77 (by decide) ?_
    refine X.goto (tgt := 82) dX5_tick_78 (by decide) ?_
    refine X.zast dX5_tick_82 (hM.1 57 (by decide) (by decide)) (rfl) (hk24) (by decide) (by first | exact Or.inl rfl | exact Or.inr rfl) ?_
    refine X.goto (tgt := 141) dX5_tick_83 (by decide) ?_
    unfold strikeM at K
    rw [mI_sI, up2_s, up2_a _ _ (show (58 : Nat) ≠ 59 by decide)] at c74
    first
      | (rw [if_pos c74] at K; exact X.at [(0, .ref 44), (1, .int n), (2, .int (nI k))] ⟨rfl, rfl, rfl, trivial⟩ K)
      | (rw [if_neg c74] at K; exact X.at [(0, .ref 44), (1, .int n), (2, .int (nI k))] ⟨rfl, rfl, rfl, trivial⟩ K)
theorem tkc {ν : xM} {Q : Option Value → xM → Prop} {B k : Nat} {n : Int32} (h : WFm ν B) (hB : B < 2 ^ 30) (hk : k < qM ν) (K : X kX5_tick none 141 (xl [(0, .ref 44), (1, .int (n + cntM ν k)), (2, .int (nI k))]) [] (cabM ν k) Q) : X kX5_tick none 22 (xl [(0, .ref 44), (1, .int n), (2, .int (nI k))]) [] ν Q := by
  by_cases hin : mI ν 57 k = 0
  · exact tk0 h hB hk hin K
  · by_cases h6 : noCarryM ν k = 6
    · exact tk6 h hB hk hin h6 K
    · by_cases h0 : noCarryM ν k = 0
      · exact tk1 h hB hk hin h0 K
      · exact tk2 h hB hk hin h6 h0 K
set_option maxRecDepth 100000 in
set_option maxHeartbeats 4000000 in
theorem tkl {μ : xM} {Q : Option Value → xM → Prop} {B : Nat} (h : WFm μ B) (hB : B + 24 < 2 ^ 30) (K : X kX5_tick none 147 (xl [(0, .ref 44), (1, .int (cntsM μ (qM μ)))]) [] (cabsM μ (qM μ)) Q) : ∀ (n k : Nat), k + n = qM μ → X kX5_tick none 14 (xl [(0, .ref 44), (1, .int (cntsM μ k)), (2, .int (nI k))]) [] (cabsM μ k) Q := by
  have hq24 := h.2.2.1.1.2
  intro n
  induction n with
  | zero =>
    intro k hk
    obtain rfl : k = qM μ := by omega
    have hk2 := h.cabs hB (qM μ) (Nat.le_refl _)
    have hM := hk2.1
    have eq10 := hk2.2.2.1.1.1
    rw [qM_cabs] at eq10
    refine X.iload_n dX5_tick_14 rfl ?_
    refine X.aload_n dX5_tick_15 rfl ?_
    refine X.getI (kf := 10) dX5_tick_16 (hM.1 44 (by decide) (by decide)) (by decide) (by decide) rfl wf_X5_79 ?_
    refine X.icmp_ge_t (tgt := 147) dX5_tick_19 (by decide) ((by rw [eq10]; exact nI_le (Nat.le_refl _) (by omega))) ?_
    exact X.at [(0, .ref 44), (1, .int (cntsM μ (qM μ)))] ⟨rfl, rfl, trivial⟩ K
  | succ n ih =>
    intro k hk
    have hk2 := h.cabs hB k (by omega)
    have hM := hk2.1
    have eq10 := hk2.2.2.1.1.1
    rw [qM_cabs] at eq10
    refine X.iload_n dX5_tick_14 rfl ?_
    refine X.aload_n dX5_tick_15 rfl ?_
    refine X.getI (kf := 10) dX5_tick_16 (hM.1 44 (by decide) (by decide)) (by decide) (by decide) rfl wf_X5_79 ?_
    refine X.icmp_ge_f (tgt := 147) dX5_tick_19 (by decide) ((by rw [eq10]; exact nI_ge (by omega) (by omega))) ?_
    refine X.at [(0, .ref 44), (1, .int (cntsM μ k)), (2, .int (nI k))] ⟨rfl, rfl, rfl, trivial⟩ ?_
    refine tkc hk2 (by omega) (by rw [qM_cabs]; omega) ?_
    refine X.iinc1 dX5_tick_141 rfl (Nat.le_of_ble_eq_true rfl) ?_
    refine X.goto (tgt := 14) dX5_tick_144 (by decide) ?_
    exact X.at [(0, .ref 44), (1, .int (cntsM μ (k + 1))), (2, .int (nI (k + 1)))] ⟨rfl, rfl, iN k, trivial⟩ (ih (k + 1) (by omega))
set_option maxRecDepth 100000 in
set_option maxHeartbeats 4000000 in
theorem tkm {μ : xM} {Q : Option Value → xM → Prop} {B : Nat} {n : Int32} (h : WFm μ B) (hB : B + 16 < 2 ^ 30) (K : Q (some (.int n)) (mvsM μ 16)) : ∀ (m c : Nat), c + m = 16 → X kX5_tick none 149 (xl [(0, .ref 44), (1, .int n), (2, .int (nI c))]) [] (mvsM μ c) (fun r μ' => xrok kX5_tick.2.2.2.1 r ∧ Q r μ') := by
  intro m
  induction m with
  | zero =>
    intro c hc
    obtain rfl : c = 16 := by omega
    refine X.iload_n dX5_tick_149 rfl ?_
    refine X.bipush (v := 16) dX5_tick_150 (by decide) ?_
    refine X.icmp_ge_t (tgt := 166) dX5_tick_152 (by decide) ((by decide)) ?_
    refine X.iload_n dX5_tick_166 rfl ?_
    refine X.ret dX5_tick_167 ⟨trivial, ?_⟩
    exact K
  | succ m ih =>
    intro c hc
    have hk2 := h.mvs hB c (by omega)
    have hM := hk2.1
    refine X.iload_n dX5_tick_149 rfl ?_
    refine X.bipush (v := 16) dX5_tick_150 (by decide) ?_
    refine X.icmp_ge_f (tgt := 166) dX5_tick_152 (by decide) (nI_ge (a := c) (b := 16) (by omega) (by decide)) ?_
    refine X.aload_n dX5_tick_155 rfl ?_
    refine X.iload_n dX5_tick_156 rfl ?_
    refine X.cV1v (k' := kX5_moves) dX5_tick_157 (hM.1 44 (by decide) (by decide)) ⟨by decide, rfl⟩ v_X5_moves wm_X5_185 wi_X5_moves ws_X5_moves ⟨Nat.le_of_ble_eq_true rfl, Nat.le_of_ble_eq_true rfl⟩ n_X5_moves (Nat.le_of_ble_eq_true rfl) ?_
    refine m_moves hM hk2.2.1 (hk2.f (by omega)) (by omega) ?_
    refine ⟨rfl, ?_⟩
    refine X.iinc1 dX5_tick_160 rfl (Nat.le_of_ble_eq_true rfl) ?_
    refine X.goto (tgt := 149) dX5_tick_163 (by decide) ?_
    exact X.at [(0, .ref 44), (1, .int n), (2, .int (nI (c + 1)))] ⟨rfl, rfl, iN c, trivial⟩ (ih (c + 1) (by omega))
def timeM (μ : xM) : xM := sI μ 44 19 (mI μ 44 19 + 1)
def tickM (μ : xM) : xM := mvsM (cabsM (timeM μ) (qM μ)) 16
theorem WFm.time {μ : xM} {B : Nat} (h : WFm μ B) : WFm (timeM μ) B := ⟨h.1, h.2.1, h.2.2.1, h.2.2.2.1, h.2.2.2.2⟩
set_option maxRecDepth 100000 in
set_option maxHeartbeats 4000000 in
theorem m_tick {B : Nat} {μ : xM} {Q : Option Value → xM → Prop} (h : WFm μ B) (hB : B + 40 < 2 ^ 30) (hq : Q (some (.int (cntsM (timeM μ) (qM μ)))) (tickM μ)) : Mt kX5_tick [.ref 44] μ Q := by
  have hM := h.1
  refine Mt.enter rfl (Nat.le_of_ble_eq_true rfl) ?_
  refine X.aload_n dX5_tick_0 rfl ?_
  refine X.dup dX5_tick_1 ?_
  refine X.getI (kf := 19) dX5_tick_2 (hM.1 44 (by decide) (by decide)) (by decide) (by decide) rfl wf_X5_175 ?_
  refine X.iconst (v := 1) dX5_tick_5 (by decide) ?_
  refine X.iadd dX5_tick_6 ?_
  refine X.putI (kf := 19) dX5_tick_7 (hM.1 44 (by decide) (by decide)) (by decide) (by decide) rfl (Or.inl rfl) ⟨rfl, rfl⟩ wf_X5_175 ?_
  refine X.iconst (v := 0) dX5_tick_10 (by decide) ?_
  refine X.istore_n dX5_tick_11 (Nat.le_of_ble_eq_true rfl) ?_
  refine X.iconst (v := 0) dX5_tick_12 (by decide) ?_
  refine X.istore_n dX5_tick_13 (Nat.le_of_ble_eq_true rfl) ?_
  have ht := h.time
  refine X.at [(0, .ref 44), (1, .int (cntsM (timeM μ) 0)), (2, .int (nI 0))] ⟨rfl, rfl, rfl, trivial⟩ ?_
  refine tkl ht (by omega) ?_ (qM (timeM μ)) 0 (by omega)
  refine X.iconst (v := 0) dX5_tick_147 (by decide) ?_
  refine X.istore_n dX5_tick_148 (Nat.le_of_ble_eq_true rfl) ?_
  refine X.at [(0, .ref 44), (1, .int (cntsM (timeM μ) (qM (timeM μ)))), (2, .int (nI 0))] ⟨rfl, rfl, rfl, trivial⟩ ?_
  have hq24 := ht.2.2.1.1.2
  exact tkm (ht.cabs (by omega) (qM (timeM μ)) (Nat.le_refl _)) (by omega) hq 16 0 (by omega)
end
