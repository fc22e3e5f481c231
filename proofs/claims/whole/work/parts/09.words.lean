/-! method records; the tables' words by their places (laid by wip/whole/mkwords.py) -/
theorem xmem {w : Cond} (i : Nat) (h : tables_1[i]? = some w) (g : goodWord w = true) : w ∈ xtbl := xtbl_of (List.mem_append_right _ (List.mem_of_getElem? h)) g
theorem xmemp {w : Cond} (i : Nat) (h : (k2_sels lw_privs)[i]? = some w) (g : goodWord w = true) : w ∈ xtbl := xtbl_of (List.mem_append_left _ (List.mem_of_getElem? h)) g
def kX0_init : xk := (yX0_init, cX0_init, 5, none, 1, 12)
def kX0_strike : xk := (yX0_strike, cX0_strike, 1, none, 0, 0)
def kX1_init : xk := (yX1_init, cX1_init, 1, none, 1, 12)
def kX1_become : xk := (yX1_become, cX1_become, 5, none, 0, 0)
def kX2_init : xk := (yX2_init, cX2_init, 2, none, 1, 12)
def kX2_hold : xk := (yX2_hold, cX2_hold, 3, none, 0, 0)
def kX2_has : xk := (yX2_has, cX2_has, 1, (some .int), 0, 0)
def kX2_refusalWithoutTape : xk := (yX2_refusalWithoutTape, cX2_refusalWithoutTape, 1, (some .int), 0, 0)
def kX2_refusalOfPlain : xk := (yX2_refusalOfPlain, cX2_refusalOfPlain, 1, (some .int), 1, 20)
def kX2_read : xk := (yX2_read, cX2_read, 3, (some .int), 2, 46)
def kX2_write : xk := (yX2_write, cX2_write, 3, (some .int), 2, 44)
def kX2_asCell : xk := (yX2_asCell, cX2_asCell, 2, none, 1, 24)
def kX3_init : xk := (yX3_init, cX3_init, 4, none, 1, 20)
def kX3_copyTo : xk := (yX3_copyTo, cX3_copyTo, 3, (some .int), 1, 24)
def kX3_accept : xk := (yX3_accept, cX3_accept, 3, (some .int), 1, 22)
def kX4_init : xk := (yX4_init, cX4_init, 2, none, 2, 33)
def kX4_tape : xk := (yX4_tape, cX4_tape, 5, (some .int), 3, 64)
def kX4_plug : xk := (yX4_plug, cX4_plug, 2, (some .int), 2, 46)
def kX4_strip : xk := (yX4_strip, cX4_strip, 2, (some .int), 2, 46)
def kX4_share : xk := (yX4_share, cX4_share, 5, (some .int), 1, 22)
def kX4_head : xk := (yX4_head, cX4_head, 4, (some .int), 1, 21)
def kX4_step : xk := (yX4_step, cX4_step, 5, (some .int), 1, 21)
def kX4_loop : xk := (yX4_loop, cX4_loop, 5, (some .int), 1, 21)
def kX4_stamp : xk := (yX4_stamp, cX4_stamp, 8, (some .int), 3, 66)
def kX4_probe : xk := (yX4_probe, cX4_probe, 6, (some .long), 3, 68)
def kX4_tag : xk := (yX4_tag, cX4_tag, 5, (some .int), 3, 66)
def kX4_rack : xk := (yX4_rack, cX4_rack, 6, (some .int), 3, 66)
def kX4_unrack : xk := (yX4_unrack, cX4_unrack, 7, (some .int), 3, 68)
def kX4_cable : xk := (yX4_cable, cX4_cable, 6, (some .int), 2, 36)
def kX4_patience : xk := (yX4_patience, cX4_patience, 5, (some .int), 1, 21)
def kX4_pull : xk := (yX4_pull, cX4_pull, 4, (some .int), 1, 21)
def kX4_plugIn : xk := (yX4_plugIn, cX4_plugIn, 4, (some .int), 1, 21)
def kX4_tick : xk := (yX4_tick, cX4_tick, 5, (some .int), 6, 141)
def kX4_splice : xk := (yX4_splice, cX4_splice, 10, (some .int), 4, 93)
def kX4_dub : xk := (yX4_dub, cX4_dub, 10, (some .int), 3, 64)
def kX4_sum : xk := (yX4_sum, cX4_sum, 7, (some .long), 2, 42)
def kX4_match : xk := (yX4_match, cX4_match, 9, (some .int), 2, 42)
def kX4_why : xk := (yX4_why, cX4_why, 1, (some .int), 0, 0)
def kX4_number : xk := (yX4_number, cX4_number, 5, (some .long), 3, 68)
def kX4_kind : xk := (yX4_kind, cX4_kind, 5, (some .int), 3, 68)
def kX4_cells : xk := (yX4_cells, cX4_cells, 4, (some .int), 3, 64)
def kX4_of : xk := (yX4_of, cX4_of, 4, (some .int), 1, 21)
def kX4_told : xk := (yX4_told, cX4_told, 4, (some .int), 1, 21)
def kX4_fault : xk := (yX4_fault, cX4_fault, 4, (some .int), 1, 22)
def kX4_count : xk := (yX4_count, cX4_count, 2, (some .int), 1, 21)
def kX4_channelAt : xk := (yX4_channelAt, cX4_channelAt, 2, (some (.object "PatchBay$Channel")), 0, 0)
def kX4_cableAt : xk := (yX4_cableAt, cX4_cableAt, 2, (some (.object "PatchBay$Cable")), 0, 0)
def kX4_holdNoTape : xk := (yX4_holdNoTape, cX4_holdNoTape, 5, (some .int), 1, 22)
def kX4_isPlain : xk := (yX4_isPlain, cX4_isPlain, 1, (some .boolean), 0, 0)
def kX4_isTapeKind : xk := (yX4_isTapeKind, cX4_isTapeKind, 1, (some .boolean), 0, 0)
def kX4_takes : xk := (yX4_takes, cX4_takes, 2, (some .boolean), 0, 0)
def kX4_fitted : xk := (yX4_fitted, cX4_fitted, 3, (some .long), 0, 0)
def kX4_meet : xk := (yX4_meet, cX4_meet, 2, none, 0, 0)
def kX4_timesMet : xk := (yX4_timesMet, cX4_timesMet, 2, (some .int), 0, 0)
def kX4_note : xk := (yX4_note, cX4_note, 2, none, 1, 21)
def kX4_answer : xk := (yX4_answer, cX4_answer, 3, (some .int), 2, 42)
def kX4_noteFault : xk := (yX4_noteFault, cX4_noteFault, 4, none, 1, 22)
def kX4_keepBooks : xk := (yX4_keepBooks, cX4_keepBooks, 3, none, 2, 45)
def kX4_carry : xk := (yX4_carry, cX4_carry, 4, (some .int), 5, 118)
def kX4_wire : xk := (yX4_wire, cX4_wire, 6, (some .int), 3, 68)
def kX4_gate : xk := (yX4_gate, cX4_gate, 6, (some .int), 3, 68)
def kX4_pair : xk := (yX4_pair, cX4_pair, 6, (some .int), 4, 93)
def kX4_swap : xk := (yX4_swap, cX4_swap, 6, (some .int), 3, 68)
def kX4_move : xk := (yX4_move, cX4_move, 4, none, 2, 45)
def kX5_init : xk := (yX5_init, cX5_init, 2, none, 1, 12)
def kX5_isIn : xk := (yX5_isIn, cX5_isIn, 3, (some .boolean), 0, 0)
def kX5_isChannel : xk := (yX5_isChannel, cX5_isChannel, 1, (some .boolean), 1, 22)
def kX5_isCable : xk := (yX5_isCable, cX5_isCable, 2, (some .boolean), 1, 22)
def kX5_met : xk := (yX5_met, cX5_met, 2, (some .int), 0, 0)
def kX5_sort : xk := (yX5_sort, cX5_sort, 2, (some .int), 0, 0)
def kX5_freeTape : xk := (yX5_freeTape, cX5_freeTape, 5, (some .int), 0, 0)
def kX5_newTape : xk := (yX5_newTape, cX5_newTape, 5, (some .int), 1, 24)
def kX5_nearest : xk := (yX5_nearest, cX5_nearest, 15, (some .long), 0, 0)
def kX5_made : xk := (yX5_made, cX5_made, 3, (some .long), 1, 34)
def kX5_takes : xk := (yX5_takes, cX5_takes, 2, (some .boolean), 0, 0)
def kX5_cellKind : xk := (yX5_cellKind, cX5_cellKind, 6, (some .int), 0, 0)
def kX5_numberOf : xk := (yX5_numberOf, cX5_numberOf, 5, (some .long), 0, 0)
def kX5_kept : xk := (yX5_kept, cX5_kept, 3, (some .long), 2, 56)
def kX5_noTape : xk := (yX5_noTape, cX5_noTape, 2, (some .int), 0, 0)
def kX5_noPlace : xk := (yX5_noPlace, cX5_noPlace, 4, (some .int), 1, 22)
def kX5_kindOf : xk := (yX5_kindOf, cX5_kindOf, 2, (some .int), 0, 0)
def kX5_at : xk := (yX5_at, cX5_at, 3, (some .int), 0, 0)
def kX5_noTake : xk := (yX5_noTake, cX5_noTake, 2, (some .int), 1, 21)
def kX5_noWrite : xk := (yX5_noWrite, cX5_noWrite, 5, (some .int), 2, 45)
def kX5_writes : xk := (yX5_writes, cX5_writes, 7, (some .int), 3, 78)
def kX5_passes : xk := (yX5_passes, cX5_passes, 6, (some .int), 4, 104)
def kX5_tape : xk := (yX5_tape, cX5_tape, 4, (some .int), 2, 48)
def kX5_plug : xk := (yX5_plug, cX5_plug, 3, (some .int), 2, 42)
def kX5_strip : xk := (yX5_strip, cX5_strip, 3, (some .int), 2, 42)
def kX5_share : xk := (yX5_share, cX5_share, 3, (some .int), 2, 42)
def kX5_head : xk := (yX5_head, cX5_head, 3, (some .int), 2, 42)
def kX5_step : xk := (yX5_step, cX5_step, 4, (some .int), 2, 42)
def kX5_loop : xk := (yX5_loop, cX5_loop, 4, (some .int), 2, 42)
def kX5_noPlain : xk := (yX5_noPlain, cX5_noPlain, 4, (some .int), 2, 45)
def kX5_stamp : xk := (yX5_stamp, cX5_stamp, 7, (some .int), 3, 68)
def kX5_probe : xk := (yX5_probe, cX5_probe, 5, (some .long), 3, 68)
def kX5_tag : xk := (yX5_tag, cX5_tag, 5, (some .int), 4, 104)
def kX5_rack : xk := (yX5_rack, cX5_rack, 6, (some .int), 4, 104)
def kX5_unrack : xk := (yX5_unrack, cX5_unrack, 6, (some .int), 2, 45)
def kX5_cable : xk := (yX5_cable, cX5_cable, 4, (some .int), 2, 42)
def kX5_patience : xk := (yX5_patience, cX5_patience, 4, (some .int), 2, 43)
def kX5_pull : xk := (yX5_pull, cX5_pull, 3, (some .int), 2, 43)
def kX5_plugIn : xk := (yX5_plugIn, cX5_plugIn, 3, (some .int), 2, 43)
def kX5_changes : xk := (yX5_changes, cX5_changes, 12, (some .int), 3, 78)
def kX5_carries : xk := (yX5_carries, cX5_carries, 5, (some .int), 5, 129)
def kX5_fails : xk := (yX5_fails, cX5_fails, 4, none, 0, 0)
def kX5_moves : xk := (yX5_moves, cX5_moves, 5, none, 1, 23)
def kX5_tick : xk := (yX5_tick, cX5_tick, 4, (some .int), 6, 153)
def kX5_splice : xk := (yX5_splice, cX5_splice, 8, (some .int), 5, 129)
def kX5_dub : xk := (yX5_dub, cX5_dub, 9, (some .int), 3, 78)
def kX5_sum : xk := (yX5_sum, cX5_sum, 5, (some .long), 2, 42)
def kX5_match : xk := (yX5_match, cX5_match, 7, (some .int), 2, 42)
def kX5_why : xk := (yX5_why, cX5_why, 1, (some .int), 0, 0)
def kX5_number : xk := (yX5_number, cX5_number, 3, (some .long), 2, 45)
def kX5_kind : xk := (yX5_kind, cX5_kind, 4, (some .int), 2, 45)
def kX5_cells : xk := (yX5_cells, cX5_cells, 3, (some .int), 2, 42)
def kX5_of : xk := (yX5_of, cX5_of, 3, (some .int), 2, 42)
def kX5_told : xk := (yX5_told, cX5_told, 3, (some .int), 2, 43)
def kX5_fault : xk := (yX5_fault, cX5_fault, 4, (some .int), 1, 22)
def kX5_count : xk := (yX5_count, cX5_count, 2, (some .int), 1, 22)
def kJ9_floorMod_7cf53 : xk := (yJ9_floorMod_7cf53, cJ9_floorMod_7cf53, 3, (some .int), 0, 0)
def kJ9_min_7cf53 : xk := (yJ9_min_7cf53, cJ9_min_7cf53, 2, (some .int), 0, 0)
def kL_law : xk := (yL_law, cL_law, 4, (some .boolean), 9, 358)
theorem wini_RL : Cond.initialized RL ∈ xtbl := xmem 0 (by decide +kernel) rfl
theorem wini_RX4 : Cond.initialized RX4 ∈ xtbl := xmem 1 (by decide +kernel) rfl
theorem wini_RX1 : Cond.initialized RX1 ∈ xtbl := xmem 2 (by decide +kernel) rfl
theorem wini_RX2 : Cond.initialized RX2 ∈ xtbl := xmem 3 (by decide +kernel) rfl
theorem wini_RX5 : Cond.initialized RX5 ∈ xtbl := xmem 4 (by decide +kernel) rfl
theorem wini_RX3 : Cond.initialized RX3 ∈ xtbl := xmem 5 (by decide +kernel) rfl
theorem wini_RX0 : Cond.initialized RX0 ∈ xtbl := xmem 6 (by decide +kernel) rfl
theorem wini_RJ9 : Cond.initialized RJ9 ∈ xtbl := xmem 7 (by decide +kernel) rfl
theorem wc_L_7 : Cond.classLink RL 7 RX4 ∈ xtbl := xmem 8 (by decide +kernel) rfl
theorem wins_RX4 : Cond.instantiable RX4 11 ∈ xtbl := xmem 9 (by decide +kernel) rfl
theorem wm_L_9 : Cond.methodLink RL 9 yX4_init ∈ xtbl := xmem 10 (by decide +kernel) rfl
theorem wi_X4_init : Cond.instanceMethod yX4_init ∈ xtbl := xmem 11 (by decide +kernel) rfl
theorem wcode_X4_init : Cond.code kX4_init.1 kX4_init.2.1 kX4_init.2.2.1 kX4_init.2.2.2.1 ∈ xtbl := xmem 12 (by decide +kernel) rfl
theorem wm_X4_1 : Cond.methodLink RX4 1 objectInit ∈ xtbl := xmem 13 (by decide +kernel) rfl
theorem wi_obj : Cond.instanceMethod objectInit ∈ xtbl := xmem 14 (by decide +kernel) rfl
theorem w_objc : Cond.code objectInit ⟨#[0xb1]⟩ 1 none ∈ xtbl := xmem 15 (by decide +kernel) rfl
theorem wc_X4_9 : Cond.classLink RX4 9 RX2 ∈ xtbl := xmem 16 (by decide +kernel) rfl
theorem wc_X4_15 : Cond.classLink RX4 15 RX0 ∈ xtbl := xmem 18 (by decide +kernel) rfl
theorem wc_X4_31 : Cond.classLink RX4 31 "[[I" ∈ xtbl := xmem 20 (by decide +kernel) rfl
theorem wc_X4_46 : Cond.classLink RX4 46 RX1 ∈ xtbl := xmem 22 (by decide +kernel) rfl
theorem wins_RX1 : Cond.instantiable RX1 3 ∈ xtbl := xmem 23 (by decide +kernel) rfl
theorem wi_X1_init : Cond.instanceMethod yX1_init ∈ xtbl := xmem 25 (by decide +kernel) rfl
theorem wcode_X1_init : Cond.code kX1_init.1 kX1_init.2.1 kX1_init.2.2.1 kX1_init.2.2.2.1 ∈ xtbl := xmem 26 (by decide +kernel) rfl
theorem wm_X1_3 : Cond.methodLink RX1 3 objectInit ∈ xtbl := xmem 27 (by decide +kernel) rfl
theorem wf_X1_9 : Cond.fieldLink RX1 9 "PatchBay$Cell" "kind" "I" ∈ xtbl := xmem 28 (by decide +kernel) rfl
theorem wf_X3_40 : Cond.fieldLink RX3 40 "PatchBay$Cell" "kind" "I" ∈ xtbl := xmem 29 (by decide +kernel) rfl
theorem wf_X4_126 : Cond.fieldLink RX4 126 "PatchBay$Cell" "kind" "I" ∈ xtbl := xmem 30 (by decide +kernel) rfl
theorem wf_X1_15 : Cond.fieldLink RX1 15 "PatchBay$Cell" "number" "J" ∈ xtbl := xmem 31 (by decide +kernel) rfl
theorem wf_X3_45 : Cond.fieldLink RX3 45 "PatchBay$Cell" "number" "J" ∈ xtbl := xmem 32 (by decide +kernel) rfl
theorem wf_X4_136 : Cond.fieldLink RX4 136 "PatchBay$Cell" "number" "J" ∈ xtbl := xmem 33 (by decide +kernel) rfl
theorem wf_X1_19 : Cond.fieldLink RX1 19 "PatchBay$Cell" "tape" "LPatchBay$Tape;" ∈ xtbl := xmem 34 (by decide +kernel) rfl
theorem wf_X3_53 : Cond.fieldLink RX3 53 "PatchBay$Cell" "tape" "LPatchBay$Tape;" ∈ xtbl := xmem 35 (by decide +kernel) rfl
theorem wf_X4_144 : Cond.fieldLink RX4 144 "PatchBay$Cell" "tape" "LPatchBay$Tape;" ∈ xtbl := xmem 36 (by decide +kernel) rfl
theorem wa_int : Cond.arrayClass .int ∈ xtbl := xmem 44 (by decide +kernel) rfl
theorem wins_RX2 : Cond.instantiable RX2 6 ∈ xtbl := xmem 45 (by decide +kernel) rfl
theorem wm_X4_56 : Cond.methodLink RX4 56 yX2_init ∈ xtbl := xmem 46 (by decide +kernel) rfl
theorem wi_X2_init : Cond.instanceMethod yX2_init ∈ xtbl := xmem 47 (by decide +kernel) rfl
theorem wcode_X2_init : Cond.code kX2_init.1 kX2_init.2.1 kX2_init.2.2.1 kX2_init.2.2.2.1 ∈ xtbl := xmem 48 (by decide +kernel) rfl
theorem wm_X2_3 : Cond.methodLink RX2 3 objectInit ∈ xtbl := xmem 49 (by decide +kernel) rfl
theorem wf_X2_29 : Cond.fieldLink RX2 29 "PatchBay$Channel" "place" "I" ∈ xtbl := xmem 50 (by decide +kernel) rfl
theorem wf_X4_206 : Cond.fieldLink RX4 206 "PatchBay$Channel" "place" "I" ∈ xtbl := xmem 51 (by decide +kernel) rfl
theorem wf_X2_9 : Cond.fieldLink RX2 9 "PatchBay$Channel" "tape" "LPatchBay$Tape;" ∈ xtbl := xmem 52 (by decide +kernel) rfl
theorem wf_X4_84 : Cond.fieldLink RX4 84 "PatchBay$Channel" "tape" "LPatchBay$Tape;" ∈ xtbl := xmem 53 (by decide +kernel) rfl
theorem wf_X2_15 : Cond.fieldLink RX2 15 "PatchBay$Channel" "plugged" "Z" ∈ xtbl := xmem 54 (by decide +kernel) rfl
theorem wf_X4_88 : Cond.fieldLink RX4 88 "PatchBay$Channel" "plugged" "Z" ∈ xtbl := xmem 55 (by decide +kernel) rfl
theorem wf_X2_19 : Cond.fieldLink RX2 19 "PatchBay$Channel" "head" "I" ∈ xtbl := xmem 56 (by decide +kernel) rfl
theorem wf_X4_96 : Cond.fieldLink RX4 96 "PatchBay$Channel" "head" "I" ∈ xtbl := xmem 57 (by decide +kernel) rfl
theorem wf_X2_23 : Cond.fieldLink RX2 23 "PatchBay$Channel" "step" "I" ∈ xtbl := xmem 58 (by decide +kernel) rfl
theorem wf_X4_99 : Cond.fieldLink RX4 99 "PatchBay$Channel" "step" "I" ∈ xtbl := xmem 59 (by decide +kernel) rfl
theorem wf_X2_26 : Cond.fieldLink RX2 26 "PatchBay$Channel" "loops" "Z" ∈ xtbl := xmem 60 (by decide +kernel) rfl
theorem wf_X4_102 : Cond.fieldLink RX4 102 "PatchBay$Channel" "loops" "Z" ∈ xtbl := xmem 61 (by decide +kernel) rfl
theorem wf_X4_11 : Cond.fieldLink RX4 11 "PatchBay" "channels" "[LPatchBay$Channel;" ∈ xtbl := xmem 75 (by decide +kernel) rfl
theorem wf_X4_17 : Cond.fieldLink RX4 17 "PatchBay" "cables" "[LPatchBay$Cable;" ∈ xtbl := xmem 76 (by decide +kernel) rfl
theorem wf_X4_21 : Cond.fieldLink RX4 21 "PatchBay" "cablesMade" "I" ∈ xtbl := xmem 77 (by decide +kernel) rfl
theorem wf_X4_25 : Cond.fieldLink RX4 25 "PatchBay" "tagsMade" "I" ∈ xtbl := xmem 78 (by decide +kernel) rfl
theorem wf_X4_28 : Cond.fieldLink RX4 28 "PatchBay" "time" "I" ∈ xtbl := xmem 79 (by decide +kernel) rfl
theorem wf_X4_33 : Cond.fieldLink RX4 33 "PatchBay" "faults" "[[I" ∈ xtbl := xmem 80 (by decide +kernel) rfl
theorem wf_X4_36 : Cond.fieldLink RX4 36 "PatchBay" "faultsNoted" "I" ∈ xtbl := xmem 81 (by decide +kernel) rfl
theorem wf_X4_39 : Cond.fieldLink RX4 39 "PatchBay" "met" "[I" ∈ xtbl := xmem 82 (by decide +kernel) rfl
theorem wf_X4_43 : Cond.fieldLink RX4 43 "PatchBay" "latestRefusal" "I" ∈ xtbl := xmem 83 (by decide +kernel) rfl
theorem wf_X4_49 : Cond.fieldLink RX4 49 "PatchBay" "hand" "LPatchBay$Cell;" ∈ xtbl := xmem 84 (by decide +kernel) rfl
theorem wf_X4_53 : Cond.fieldLink RX4 53 "PatchBay" "otherHand" "LPatchBay$Cell;" ∈ xtbl := xmem 85 (by decide +kernel) rfl
theorem wm_L_13 : Cond.methodLink RL 13 yX4_tape ∈ xtbl := xmem 109 (by decide +kernel) rfl
theorem wi_X4_tape : Cond.instanceMethod yX4_tape ∈ xtbl := xmem 110 (by decide +kernel) rfl
theorem ws_X4_tape : Cond.selects yX4_tape.cls yX4_tape yX4_tape ∈ xtbl := xmem 111 (by decide +kernel) rfl
theorem wcode_X4_tape : Cond.code kX4_tape.1 kX4_tape.2.1 kX4_tape.2.2.1 kX4_tape.2.2.2.1 ∈ xtbl := xmem 112 (by decide +kernel) rfl
theorem wm_X4_59 : Cond.methodLink RX4 59 yX4_channelAt ∈ xtbl := xmem 113 (by decide +kernel) rfl
theorem wi_X4_channelAt : Cond.instanceMethod yX4_channelAt ∈ xtbl := xmem 115 (by decide +kernel) rfl
theorem wcode_X4_channelAt : Cond.code kX4_channelAt.1 kX4_channelAt.2.1 kX4_channelAt.2.2.1 kX4_channelAt.2.2.2.1 ∈ xtbl := xmem 116 (by decide +kernel) rfl
theorem wm_X4_63 : Cond.methodLink RX4 63 yX4_isTapeKind ∈ xtbl := xmem 117 (by decide +kernel) rfl
theorem wt_X4_isTapeKind : Cond.static yX4_isTapeKind ∈ xtbl := xmem 118 (by decide +kernel) rfl
theorem wcode_X4_isTapeKind : Cond.code kX4_isTapeKind.1 kX4_isTapeKind.2.1 kX4_isTapeKind.2.2.1 kX4_isTapeKind.2.2.2.1 ∈ xtbl := xmem 119 (by decide +kernel) rfl
theorem wm_X4_67 : Cond.methodLink RX4 67 yX4_answer ∈ xtbl := xmem 120 (by decide +kernel) rfl
theorem wi_X4_answer : Cond.instanceMethod yX4_answer ∈ xtbl := xmem 122 (by decide +kernel) rfl
theorem wcode_X4_answer : Cond.code kX4_answer.1 kX4_answer.2.1 kX4_answer.2.2.1 kX4_answer.2.2.2.1 ∈ xtbl := xmem 123 (by decide +kernel) rfl
theorem wm_X4_133 : Cond.methodLink RX4 133 yX4_note ∈ xtbl := xmem 124 (by decide +kernel) rfl
theorem wi_X4_note : Cond.instanceMethod yX4_note ∈ xtbl := xmem 126 (by decide +kernel) rfl
theorem wcode_X4_note : Cond.code kX4_note.1 kX4_note.2.1 kX4_note.2.2.1 kX4_note.2.2.2.1 ∈ xtbl := xmem 127 (by decide +kernel) rfl
theorem wm_X4_225 : Cond.methodLink RX4 225 yX4_meet ∈ xtbl := xmem 128 (by decide +kernel) rfl
theorem wi_X4_meet : Cond.instanceMethod yX4_meet ∈ xtbl := xmem 130 (by decide +kernel) rfl
theorem wcode_X4_meet : Cond.code kX4_meet.1 kX4_meet.2.1 kX4_meet.2.2.1 kX4_meet.2.2.2.1 ∈ xtbl := xmem 131 (by decide +kernel) rfl
theorem wc_X4_71 : Cond.classLink RX4 71 RX3 ∈ xtbl := xmem 132 (by decide +kernel) rfl
theorem wins_RX3 : Cond.instantiable RX3 5 ∈ xtbl := xmem 133 (by decide +kernel) rfl
theorem wm_X4_73 : Cond.methodLink RX4 73 yX3_init ∈ xtbl := xmem 134 (by decide +kernel) rfl
theorem wi_X3_init : Cond.instanceMethod yX3_init ∈ xtbl := xmem 135 (by decide +kernel) rfl
theorem wcode_X3_init : Cond.code kX3_init.1 kX3_init.2.1 kX3_init.2.2.1 kX3_init.2.2.2.1 ∈ xtbl := xmem 136 (by decide +kernel) rfl
theorem wm_X3_3 : Cond.methodLink RX3 3 objectInit ∈ xtbl := xmem 137 (by decide +kernel) rfl
theorem wc_X3_10 : Cond.classLink RX3 10 RX3 ∈ xtbl := xmem 138 (by decide +kernel) rfl
theorem wt_X4_isPlain : Cond.static yX4_isPlain ∈ xtbl := xmem 141 (by decide +kernel) rfl
theorem wcode_X4_isPlain : Cond.code kX4_isPlain.1 kX4_isPlain.2.1 kX4_isPlain.2.2.1 kX4_isPlain.2.2.2.1 ∈ xtbl := xmem 142 (by decide +kernel) rfl
theorem wf_X3_9 : Cond.fieldLink RX3 9 "PatchBay$Tape" "kind" "I" ∈ xtbl := xmem 143 (by decide +kernel) rfl
theorem wf_X2_36 : Cond.fieldLink RX2 36 "PatchBay$Tape" "kind" "I" ∈ xtbl := xmem 144 (by decide +kernel) rfl
theorem wf_X3_15 : Cond.fieldLink RX3 15 "PatchBay$Tape" "size" "I" ∈ xtbl := xmem 145 (by decide +kernel) rfl
theorem wf_X2_52 : Cond.fieldLink RX2 52 "PatchBay$Tape" "size" "I" ∈ xtbl := xmem 146 (by decide +kernel) rfl
theorem wf_X4_145 : Cond.fieldLink RX4 145 "PatchBay$Tape" "size" "I" ∈ xtbl := xmem 147 (by decide +kernel) rfl
theorem wf_X3_18 : Cond.fieldLink RX3 18 "PatchBay$Tape" "kinds" "[I" ∈ xtbl := xmem 148 (by decide +kernel) rfl
theorem wf_X3_22 : Cond.fieldLink RX3 22 "PatchBay$Tape" "numbers" "[J" ∈ xtbl := xmem 149 (by decide +kernel) rfl
theorem wf_X4_189 : Cond.fieldLink RX4 189 "PatchBay$Tape" "numbers" "[J" ∈ xtbl := xmem 150 (by decide +kernel) rfl
theorem wf_X3_26 : Cond.fieldLink RX3 26 "PatchBay$Tape" "tapes" "[LPatchBay$Tape;" ∈ xtbl := xmem 151 (by decide +kernel) rfl
theorem wa_long : Cond.arrayClass .long ∈ xtbl := xmem 163 (by decide +kernel) rfl
theorem wm_X4_76 : Cond.methodLink RX4 76 yX2_hold ∈ xtbl := xmem 164 (by decide +kernel) rfl
theorem wi_X2_hold : Cond.instanceMethod yX2_hold ∈ xtbl := xmem 165 (by decide +kernel) rfl
theorem ws_X2_hold : Cond.selects yX2_hold.cls yX2_hold yX2_hold ∈ xtbl := xmem 166 (by decide +kernel) rfl
theorem wcode_X2_hold : Cond.code kX2_hold.1 kX2_hold.2.1 kX2_hold.2.2.1 kX2_hold.2.2.2.1 ∈ xtbl := xmem 167 (by decide +kernel) rfl
theorem wm_L_18 : Cond.methodLink RL 18 yX4_plug ∈ xtbl := xmem 168 (by decide +kernel) rfl
theorem wi_X4_plug : Cond.instanceMethod yX4_plug ∈ xtbl := xmem 169 (by decide +kernel) rfl
theorem ws_X4_plug : Cond.selects yX4_plug.cls yX4_plug yX4_plug ∈ xtbl := xmem 170 (by decide +kernel) rfl
theorem wcode_X4_plug : Cond.code kX4_plug.1 kX4_plug.2.1 kX4_plug.2.2.1 kX4_plug.2.2.2.1 ∈ xtbl := xmem 171 (by decide +kernel) rfl
theorem wm_X4_80 : Cond.methodLink RX4 80 yX4_holdNoTape ∈ xtbl := xmem 172 (by decide +kernel) rfl
theorem wi_X4_holdNoTape : Cond.instanceMethod yX4_holdNoTape ∈ xtbl := xmem 174 (by decide +kernel) rfl
theorem wcode_X4_holdNoTape : Cond.code kX4_holdNoTape.1 kX4_holdNoTape.2.1 kX4_holdNoTape.2.2.1 kX4_holdNoTape.2.2.2.1 ∈ xtbl := xmem 175 (by decide +kernel) rfl
theorem wm_X4_92 : Cond.methodLink RX4 92 yX2_has ∈ xtbl := xmem 176 (by decide +kernel) rfl
theorem wi_X2_has : Cond.instanceMethod yX2_has ∈ xtbl := xmem 177 (by decide +kernel) rfl
theorem ws_X2_has : Cond.selects yX2_has.cls yX2_has yX2_has ∈ xtbl := xmem 178 (by decide +kernel) rfl
theorem wcode_X2_has : Cond.code kX2_has.1 kX2_has.2.1 kX2_has.2.2.1 kX2_has.2.2.2.1 ∈ xtbl := xmem 179 (by decide +kernel) rfl
theorem wm_L_23 : Cond.methodLink RL 23 yX4_strip ∈ xtbl := xmem 180 (by decide +kernel) rfl
theorem wi_X4_strip : Cond.instanceMethod yX4_strip ∈ xtbl := xmem 181 (by decide +kernel) rfl
theorem ws_X4_strip : Cond.selects yX4_strip.cls yX4_strip yX4_strip ∈ xtbl := xmem 182 (by decide +kernel) rfl
theorem wcode_X4_strip : Cond.code kX4_strip.1 kX4_strip.2.1 kX4_strip.2.2.1 kX4_strip.2.2.2.1 ∈ xtbl := xmem 183 (by decide +kernel) rfl
theorem wm_L_27 : Cond.methodLink RL 27 yX4_share ∈ xtbl := xmem 184 (by decide +kernel) rfl
theorem wi_X4_share : Cond.instanceMethod yX4_share ∈ xtbl := xmem 185 (by decide +kernel) rfl
theorem ws_X4_share : Cond.selects yX4_share.cls yX4_share yX4_share ∈ xtbl := xmem 186 (by decide +kernel) rfl
theorem wcode_X4_share : Cond.code kX4_share.1 kX4_share.2.1 kX4_share.2.2.1 kX4_share.2.2.2.1 ∈ xtbl := xmem 187 (by decide +kernel) rfl
theorem wm_L_32 : Cond.methodLink RL 32 yX4_head ∈ xtbl := xmem 188 (by decide +kernel) rfl
theorem wi_X4_head : Cond.instanceMethod yX4_head ∈ xtbl := xmem 189 (by decide +kernel) rfl
theorem ws_X4_head : Cond.selects yX4_head.cls yX4_head yX4_head ∈ xtbl := xmem 190 (by decide +kernel) rfl
theorem wcode_X4_head : Cond.code kX4_head.1 kX4_head.2.1 kX4_head.2.2.1 kX4_head.2.2.2.1 ∈ xtbl := xmem 191 (by decide +kernel) rfl
theorem wm_L_36 : Cond.methodLink RL 36 yX4_step ∈ xtbl := xmem 192 (by decide +kernel) rfl
theorem wi_X4_step : Cond.instanceMethod yX4_step ∈ xtbl := xmem 193 (by decide +kernel) rfl
theorem ws_X4_step : Cond.selects yX4_step.cls yX4_step yX4_step ∈ xtbl := xmem 194 (by decide +kernel) rfl
theorem wcode_X4_step : Cond.code kX4_step.1 kX4_step.2.1 kX4_step.2.2.1 kX4_step.2.2.2.1 ∈ xtbl := xmem 195 (by decide +kernel) rfl
theorem wm_L_40 : Cond.methodLink RL 40 yX4_loop ∈ xtbl := xmem 196 (by decide +kernel) rfl
theorem wi_X4_loop : Cond.instanceMethod yX4_loop ∈ xtbl := xmem 197 (by decide +kernel) rfl
theorem ws_X4_loop : Cond.selects yX4_loop.cls yX4_loop yX4_loop ∈ xtbl := xmem 198 (by decide +kernel) rfl
theorem wcode_X4_loop : Cond.code kX4_loop.1 kX4_loop.2.1 kX4_loop.2.2.1 kX4_loop.2.2.2.1 ∈ xtbl := xmem 199 (by decide +kernel) rfl
theorem wm_L_47 : Cond.methodLink RL 47 yX4_stamp ∈ xtbl := xmem 200 (by decide +kernel) rfl
theorem wi_X4_stamp : Cond.instanceMethod yX4_stamp ∈ xtbl := xmem 201 (by decide +kernel) rfl
theorem ws_X4_stamp : Cond.selects yX4_stamp.cls yX4_stamp yX4_stamp ∈ xtbl := xmem 202 (by decide +kernel) rfl
theorem wcode_X4_stamp : Cond.code kX4_stamp.1 kX4_stamp.2.1 kX4_stamp.2.2.1 kX4_stamp.2.2.2.1 ∈ xtbl := xmem 203 (by decide +kernel) rfl
theorem wm_X4_105 : Cond.methodLink RX4 105 yX4_isPlain ∈ xtbl := xmem 204 (by decide +kernel) rfl
theorem wm_X4_108 : Cond.methodLink RX4 108 yX2_refusalOfPlain ∈ xtbl := xmem 205 (by decide +kernel) rfl
theorem wi_X2_refusalOfPlain : Cond.instanceMethod yX2_refusalOfPlain ∈ xtbl := xmem 206 (by decide +kernel) rfl
theorem ws_X2_refusalOfPlain : Cond.selects yX2_refusalOfPlain.cls yX2_refusalOfPlain yX2_refusalOfPlain ∈ xtbl := xmem 207 (by decide +kernel) rfl
theorem wcode_X2_refusalOfPlain : Cond.code kX2_refusalOfPlain.1 kX2_refusalOfPlain.2.1 kX2_refusalOfPlain.2.2.1 kX2_refusalOfPlain.2.2.2.1 ∈ xtbl := xmem 208 (by decide +kernel) rfl
theorem wm_X2_32 : Cond.methodLink RX2 32 yX2_refusalWithoutTape ∈ xtbl := xmem 209 (by decide +kernel) rfl
theorem wi_X2_refusalWithoutTape : Cond.instanceMethod yX2_refusalWithoutTape ∈ xtbl := xmem 210 (by decide +kernel) rfl
theorem ws_X2_refusalWithoutTape : Cond.selects yX2_refusalWithoutTape.cls yX2_refusalWithoutTape yX2_refusalWithoutTape ∈ xtbl := xmem 211 (by decide +kernel) rfl
theorem wcode_X2_refusalWithoutTape : Cond.code kX2_refusalWithoutTape.1 kX2_refusalWithoutTape.2.1 kX2_refusalWithoutTape.2.2.1 kX2_refusalWithoutTape.2.2.2.1 ∈ xtbl := xmem 212 (by decide +kernel) rfl
theorem wm_X4_111 : Cond.methodLink RX4 111 yX4_fitted ∈ xtbl := xmem 214 (by decide +kernel) rfl
theorem wt_X4_fitted : Cond.static yX4_fitted ∈ xtbl := xmem 215 (by decide +kernel) rfl
theorem wcode_X4_fitted : Cond.code kX4_fitted.1 kX4_fitted.2.1 kX4_fitted.2.2.1 kX4_fitted.2.2.2.1 ∈ xtbl := xmem 216 (by decide +kernel) rfl
theorem wm_X4_115 : Cond.methodLink RX4 115 yX1_become ∈ xtbl := xmem 217 (by decide +kernel) rfl
theorem wi_X1_become : Cond.instanceMethod yX1_become ∈ xtbl := xmem 218 (by decide +kernel) rfl
theorem ws_X1_become : Cond.selects yX1_become.cls yX1_become yX1_become ∈ xtbl := xmem 219 (by decide +kernel) rfl
theorem wcode_X1_become : Cond.code kX1_become.1 kX1_become.2.1 kX1_become.2.2.1 kX1_become.2.2.2.1 ∈ xtbl := xmem 220 (by decide +kernel) rfl
theorem wm_X4_119 : Cond.methodLink RX4 119 yX2_write ∈ xtbl := xmem 221 (by decide +kernel) rfl
theorem wi_X2_write : Cond.instanceMethod yX2_write ∈ xtbl := xmem 222 (by decide +kernel) rfl
theorem ws_X2_write : Cond.selects yX2_write.cls yX2_write yX2_write ∈ xtbl := xmem 223 (by decide +kernel) rfl
theorem wcode_X2_write : Cond.code kX2_write.1 kX2_write.2.1 kX2_write.2.2.1 kX2_write.2.2.2.1 ∈ xtbl := xmem 224 (by decide +kernel) rfl
theorem wm_X2_49 : Cond.methodLink RX2 49 yX3_accept ∈ xtbl := xmem 225 (by decide +kernel) rfl
theorem wi_X3_accept : Cond.instanceMethod yX3_accept ∈ xtbl := xmem 226 (by decide +kernel) rfl
theorem ws_X3_accept : Cond.selects yX3_accept.cls yX3_accept yX3_accept ∈ xtbl := xmem 227 (by decide +kernel) rfl
theorem wcode_X3_accept : Cond.code kX3_accept.1 kX3_accept.2.1 kX3_accept.2.2.1 kX3_accept.2.2.2.1 ∈ xtbl := xmem 228 (by decide +kernel) rfl
theorem wt_X4_takes : Cond.static yX4_takes ∈ xtbl := xmem 230 (by decide +kernel) rfl
theorem wcode_X4_takes : Cond.code kX4_takes.1 kX4_takes.2.1 kX4_takes.2.2.1 kX4_takes.2.2.2.1 ∈ xtbl := xmem 231 (by decide +kernel) rfl
theorem wm_L_52 : Cond.methodLink RL 52 yX4_probe ∈ xtbl := xmem 233 (by decide +kernel) rfl
theorem wi_X4_probe : Cond.instanceMethod yX4_probe ∈ xtbl := xmem 234 (by decide +kernel) rfl
theorem ws_X4_probe : Cond.selects yX4_probe.cls yX4_probe yX4_probe ∈ xtbl := xmem 235 (by decide +kernel) rfl
theorem wcode_X4_probe : Cond.code kX4_probe.1 kX4_probe.2.1 kX4_probe.2.2.1 kX4_probe.2.2.2.1 ∈ xtbl := xmem 236 (by decide +kernel) rfl
theorem wm_X4_123 : Cond.methodLink RX4 123 yX2_read ∈ xtbl := xmem 237 (by decide +kernel) rfl
theorem wi_X2_read : Cond.instanceMethod yX2_read ∈ xtbl := xmem 238 (by decide +kernel) rfl
theorem ws_X2_read : Cond.selects yX2_read.cls yX2_read yX2_read ∈ xtbl := xmem 239 (by decide +kernel) rfl
theorem wcode_X2_read : Cond.code kX2_read.1 kX2_read.2.1 kX2_read.2.2.1 kX2_read.2.2.2.1 ∈ xtbl := xmem 240 (by decide +kernel) rfl
theorem wm_X2_45 : Cond.methodLink RX2 45 yX3_copyTo ∈ xtbl := xmem 241 (by decide +kernel) rfl
theorem wi_X3_copyTo : Cond.instanceMethod yX3_copyTo ∈ xtbl := xmem 242 (by decide +kernel) rfl
theorem ws_X3_copyTo : Cond.selects yX3_copyTo.cls yX3_copyTo yX3_copyTo ∈ xtbl := xmem 243 (by decide +kernel) rfl
theorem wcode_X3_copyTo : Cond.code kX3_copyTo.1 kX3_copyTo.2.1 kX3_copyTo.2.2.1 kX3_copyTo.2.2.2.1 ∈ xtbl := xmem 244 (by decide +kernel) rfl
theorem wm_X3_34 : Cond.methodLink RX3 34 yX1_become ∈ xtbl := xmem 245 (by decide +kernel) rfl
theorem wm_X4_129 : Cond.methodLink RX4 129 yX4_takes ∈ xtbl := xmem 246 (by decide +kernel) rfl
theorem wm_L_57 : Cond.methodLink RL 57 yX4_tag ∈ xtbl := xmem 247 (by decide +kernel) rfl
theorem wi_X4_tag : Cond.instanceMethod yX4_tag ∈ xtbl := xmem 248 (by decide +kernel) rfl
theorem ws_X4_tag : Cond.selects yX4_tag.cls yX4_tag yX4_tag ∈ xtbl := xmem 249 (by decide +kernel) rfl
theorem wcode_X4_tag : Cond.code kX4_tag.1 kX4_tag.2.1 kX4_tag.2.2.1 kX4_tag.2.2.2.1 ∈ xtbl := xmem 250 (by decide +kernel) rfl
theorem wm_L_62 : Cond.methodLink RL 62 yX4_rack ∈ xtbl := xmem 251 (by decide +kernel) rfl
theorem wi_X4_rack : Cond.instanceMethod yX4_rack ∈ xtbl := xmem 252 (by decide +kernel) rfl
theorem ws_X4_rack : Cond.selects yX4_rack.cls yX4_rack yX4_rack ∈ xtbl := xmem 253 (by decide +kernel) rfl
theorem wcode_X4_rack : Cond.code kX4_rack.1 kX4_rack.2.1 kX4_rack.2.2.1 kX4_rack.2.2.2.1 ∈ xtbl := xmem 254 (by decide +kernel) rfl
theorem wm_X4_140 : Cond.methodLink RX4 140 yX2_asCell ∈ xtbl := xmem 255 (by decide +kernel) rfl
theorem wi_X2_asCell : Cond.instanceMethod yX2_asCell ∈ xtbl := xmem 256 (by decide +kernel) rfl
theorem ws_X2_asCell : Cond.selects yX2_asCell.cls yX2_asCell yX2_asCell ∈ xtbl := xmem 257 (by decide +kernel) rfl
theorem wcode_X2_asCell : Cond.code kX2_asCell.1 kX2_asCell.2.1 kX2_asCell.2.2.1 kX2_asCell.2.2.2.1 ∈ xtbl := xmem 258 (by decide +kernel) rfl
theorem wm_X2_55 : Cond.methodLink RX2 55 yX1_become ∈ xtbl := xmem 259 (by decide +kernel) rfl
theorem wm_X2_61 : Cond.methodLink RX2 61 yX2_has ∈ xtbl := xmem 260 (by decide +kernel) rfl
theorem wm_L_66 : Cond.methodLink RL 66 yX4_unrack ∈ xtbl := xmem 261 (by decide +kernel) rfl
theorem wi_X4_unrack : Cond.instanceMethod yX4_unrack ∈ xtbl := xmem 262 (by decide +kernel) rfl
theorem ws_X4_unrack : Cond.selects yX4_unrack.cls yX4_unrack yX4_unrack ∈ xtbl := xmem 263 (by decide +kernel) rfl
theorem wcode_X4_unrack : Cond.code kX4_unrack.1 kX4_unrack.2.1 kX4_unrack.2.2.1 kX4_unrack.2.2.2.1 ∈ xtbl := xmem 264 (by decide +kernel) rfl
theorem wm_L_70 : Cond.methodLink RL 70 yX4_cable ∈ xtbl := xmem 265 (by decide +kernel) rfl
theorem wi_X4_cable : Cond.instanceMethod yX4_cable ∈ xtbl := xmem 266 (by decide +kernel) rfl
theorem ws_X4_cable : Cond.selects yX4_cable.cls yX4_cable yX4_cable ∈ xtbl := xmem 267 (by decide +kernel) rfl
theorem wcode_X4_cable : Cond.code kX4_cable.1 kX4_cable.2.1 kX4_cable.2.2.1 kX4_cable.2.2.2.1 ∈ xtbl := xmem 268 (by decide +kernel) rfl
theorem wins_RX0 : Cond.instantiable RX0 9 ∈ xtbl := xmem 269 (by decide +kernel) rfl
theorem wm_X4_148 : Cond.methodLink RX4 148 yX0_init ∈ xtbl := xmem 270 (by decide +kernel) rfl
theorem wi_X0_init : Cond.instanceMethod yX0_init ∈ xtbl := xmem 271 (by decide +kernel) rfl
theorem wcode_X0_init : Cond.code kX0_init.1 kX0_init.2.1 kX0_init.2.2.1 kX0_init.2.2.2.1 ∈ xtbl := xmem 272 (by decide +kernel) rfl
theorem wm_X0_1 : Cond.methodLink RX0 1 objectInit ∈ xtbl := xmem 273 (by decide +kernel) rfl
theorem wf_X0_26 : Cond.fieldLink RX0 26 "PatchBay$Cable" "place" "I" ∈ xtbl := xmem 274 (by decide +kernel) rfl
theorem wf_X4_228 : Cond.fieldLink RX4 228 "PatchBay$Cable" "place" "I" ∈ xtbl := xmem 275 (by decide +kernel) rfl
theorem wf_X0_29 : Cond.fieldLink RX0 29 "PatchBay$Cable" "kind" "I" ∈ xtbl := xmem 276 (by decide +kernel) rfl
theorem wf_X4_201 : Cond.fieldLink RX4 201 "PatchBay$Cable" "kind" "I" ∈ xtbl := xmem 277 (by decide +kernel) rfl
theorem wf_X0_32 : Cond.fieldLink RX0 32 "PatchBay$Cable" "from" "LPatchBay$Channel;" ∈ xtbl := xmem 278 (by decide +kernel) rfl
theorem wf_X4_202 : Cond.fieldLink RX4 202 "PatchBay$Cable" "from" "LPatchBay$Channel;" ∈ xtbl := xmem 279 (by decide +kernel) rfl
theorem wf_X0_36 : Cond.fieldLink RX0 36 "PatchBay$Cable" "to" "LPatchBay$Channel;" ∈ xtbl := xmem 280 (by decide +kernel) rfl
theorem wf_X4_209 : Cond.fieldLink RX4 209 "PatchBay$Cable" "to" "LPatchBay$Channel;" ∈ xtbl := xmem 281 (by decide +kernel) rfl
theorem wf_X0_7 : Cond.fieldLink RX0 7 "PatchBay$Cable" "in" "Z" ∈ xtbl := xmem 282 (by decide +kernel) rfl
theorem wf_X4_158 : Cond.fieldLink RX4 158 "PatchBay$Cable" "in" "Z" ∈ xtbl := xmem 283 (by decide +kernel) rfl
theorem wf_X0_13 : Cond.fieldLink RX0 13 "PatchBay$Cable" "patience" "I" ∈ xtbl := xmem 284 (by decide +kernel) rfl
theorem wf_X4_155 : Cond.fieldLink RX4 155 "PatchBay$Cable" "patience" "I" ∈ xtbl := xmem 285 (by decide +kernel) rfl
theorem wf_X0_17 : Cond.fieldLink RX0 17 "PatchBay$Cable" "strikes" "I" ∈ xtbl := xmem 286 (by decide +kernel) rfl
theorem wf_X4_161 : Cond.fieldLink RX4 161 "PatchBay$Cable" "strikes" "I" ∈ xtbl := xmem 287 (by decide +kernel) rfl
theorem wf_X0_20 : Cond.fieldLink RX0 20 "PatchBay$Cable" "timesCarried" "I" ∈ xtbl := xmem 288 (by decide +kernel) rfl
theorem wf_X4_212 : Cond.fieldLink RX4 212 "PatchBay$Cable" "timesCarried" "I" ∈ xtbl := xmem 289 (by decide +kernel) rfl
theorem wf_X0_23 : Cond.fieldLink RX0 23 "PatchBay$Cable" "timesShut" "I" ∈ xtbl := xmem 290 (by decide +kernel) rfl
theorem wf_X4_215 : Cond.fieldLink RX4 215 "PatchBay$Cable" "timesShut" "I" ∈ xtbl := xmem 291 (by decide +kernel) rfl
theorem wm_L_74 : Cond.methodLink RL 74 yX4_patience ∈ xtbl := xmem 311 (by decide +kernel) rfl
theorem wi_X4_patience : Cond.instanceMethod yX4_patience ∈ xtbl := xmem 312 (by decide +kernel) rfl
theorem ws_X4_patience : Cond.selects yX4_patience.cls yX4_patience yX4_patience ∈ xtbl := xmem 313 (by decide +kernel) rfl
theorem wcode_X4_patience : Cond.code kX4_patience.1 kX4_patience.2.1 kX4_patience.2.2.1 kX4_patience.2.2.2.1 ∈ xtbl := xmem 314 (by decide +kernel) rfl
theorem wm_X4_151 : Cond.methodLink RX4 151 yX4_cableAt ∈ xtbl := xmem 315 (by decide +kernel) rfl
theorem wi_X4_cableAt : Cond.instanceMethod yX4_cableAt ∈ xtbl := xmem 317 (by decide +kernel) rfl
theorem wcode_X4_cableAt : Cond.code kX4_cableAt.1 kX4_cableAt.2.1 kX4_cableAt.2.2.1 kX4_cableAt.2.2.2.1 ∈ xtbl := xmem 318 (by decide +kernel) rfl
theorem wm_L_78 : Cond.methodLink RL 78 yX4_pull ∈ xtbl := xmem 319 (by decide +kernel) rfl
theorem wi_X4_pull : Cond.instanceMethod yX4_pull ∈ xtbl := xmem 320 (by decide +kernel) rfl
theorem ws_X4_pull : Cond.selects yX4_pull.cls yX4_pull yX4_pull ∈ xtbl := xmem 321 (by decide +kernel) rfl
theorem wcode_X4_pull : Cond.code kX4_pull.1 kX4_pull.2.1 kX4_pull.2.2.1 kX4_pull.2.2.2.1 ∈ xtbl := xmem 322 (by decide +kernel) rfl
theorem wm_L_82 : Cond.methodLink RL 82 yX4_plugIn ∈ xtbl := xmem 323 (by decide +kernel) rfl
theorem wi_X4_plugIn : Cond.instanceMethod yX4_plugIn ∈ xtbl := xmem 324 (by decide +kernel) rfl
theorem ws_X4_plugIn : Cond.selects yX4_plugIn.cls yX4_plugIn yX4_plugIn ∈ xtbl := xmem 325 (by decide +kernel) rfl
theorem wcode_X4_plugIn : Cond.code kX4_plugIn.1 kX4_plugIn.2.1 kX4_plugIn.2.2.1 kX4_plugIn.2.2.2.1 ∈ xtbl := xmem 326 (by decide +kernel) rfl
theorem wm_L_86 : Cond.methodLink RL 86 yX4_tick ∈ xtbl := xmem 327 (by decide +kernel) rfl
theorem wi_X4_tick : Cond.instanceMethod yX4_tick ∈ xtbl := xmem 328 (by decide +kernel) rfl
theorem ws_X4_tick : Cond.selects yX4_tick.cls yX4_tick yX4_tick ∈ xtbl := xmem 329 (by decide +kernel) rfl
theorem wcode_X4_tick : Cond.code kX4_tick.1 kX4_tick.2.1 kX4_tick.2.2.1 kX4_tick.2.2.2.1 ∈ xtbl := xmem 330 (by decide +kernel) rfl
theorem wm_X4_164 : Cond.methodLink RX4 164 yX4_carry ∈ xtbl := xmem 331 (by decide +kernel) rfl
theorem wi_X4_carry : Cond.instanceMethod yX4_carry ∈ xtbl := xmem 333 (by decide +kernel) rfl
theorem wcode_X4_carry : Cond.code kX4_carry.1 kX4_carry.2.1 kX4_carry.2.2.1 kX4_carry.2.2.2.1 ∈ xtbl := xmem 334 (by decide +kernel) rfl
theorem wm_X4_235 : Cond.methodLink RX4 235 yX4_gate ∈ xtbl := xmem 335 (by decide +kernel) rfl
theorem wi_X4_gate : Cond.instanceMethod yX4_gate ∈ xtbl := xmem 337 (by decide +kernel) rfl
theorem wcode_X4_gate : Cond.code kX4_gate.1 kX4_gate.2.1 kX4_gate.2.2.1 kX4_gate.2.2.2.1 ∈ xtbl := xmem 338 (by decide +kernel) rfl
theorem wm_X4_238 : Cond.methodLink RX4 238 yX4_pair ∈ xtbl := xmem 339 (by decide +kernel) rfl
theorem wi_X4_pair : Cond.instanceMethod yX4_pair ∈ xtbl := xmem 341 (by decide +kernel) rfl
theorem wcode_X4_pair : Cond.code kX4_pair.1 kX4_pair.2.1 kX4_pair.2.2.1 kX4_pair.2.2.2.1 ∈ xtbl := xmem 342 (by decide +kernel) rfl
theorem wm_X4_176 : Cond.methodLink RX4 176 yX4_wire ∈ xtbl := xmem 343 (by decide +kernel) rfl
theorem wi_X4_wire : Cond.instanceMethod yX4_wire ∈ xtbl := xmem 345 (by decide +kernel) rfl
theorem wcode_X4_wire : Cond.code kX4_wire.1 kX4_wire.2.1 kX4_wire.2.2.1 kX4_wire.2.2.2.1 ∈ xtbl := xmem 346 (by decide +kernel) rfl
theorem wm_X4_241 : Cond.methodLink RX4 241 yX4_swap ∈ xtbl := xmem 347 (by decide +kernel) rfl
theorem wi_X4_swap : Cond.instanceMethod yX4_swap ∈ xtbl := xmem 349 (by decide +kernel) rfl
theorem wcode_X4_swap : Cond.code kX4_swap.1 kX4_swap.2.1 kX4_swap.2.2.1 kX4_swap.2.2.2.1 ∈ xtbl := xmem 350 (by decide +kernel) rfl
theorem wm_X4_168 : Cond.methodLink RX4 168 yX4_keepBooks ∈ xtbl := xmem 351 (by decide +kernel) rfl
theorem wi_X4_keepBooks : Cond.instanceMethod yX4_keepBooks ∈ xtbl := xmem 353 (by decide +kernel) rfl
theorem wcode_X4_keepBooks : Cond.code kX4_keepBooks.1 kX4_keepBooks.2.1 kX4_keepBooks.2.2.1 kX4_keepBooks.2.2.2.1 ∈ xtbl := xmem 354 (by decide +kernel) rfl
theorem wm_X4_229 : Cond.methodLink RX4 229 yX4_noteFault ∈ xtbl := xmem 355 (by decide +kernel) rfl
theorem wi_X4_noteFault : Cond.instanceMethod yX4_noteFault ∈ xtbl := xmem 357 (by decide +kernel) rfl
theorem wcode_X4_noteFault : Cond.code kX4_noteFault.1 kX4_noteFault.2.1 kX4_noteFault.2.2.1 kX4_noteFault.2.2.2.1 ∈ xtbl := xmem 358 (by decide +kernel) rfl
theorem wm_X4_218 : Cond.methodLink RX4 218 yJ9_floorMod_7cf53 ∈ xtbl := xmem 359 (by decide +kernel) rfl
theorem wt_J9_floorMod_7cf53 : Cond.static yJ9_floorMod_7cf53 ∈ xtbl := xmem 360 (by decide +kernel) rfl
theorem wcode_J9_floorMod_7cf53 : Cond.code kJ9_floorMod_7cf53.1 kJ9_floorMod_7cf53.2.1 kJ9_floorMod_7cf53.2.2.1 kJ9_floorMod_7cf53.2.2.2.1 ∈ xtbl := xmem 361 (by decide +kernel) rfl
theorem wm_X4_232 : Cond.methodLink RX4 232 yX0_strike ∈ xtbl := xmem 362 (by decide +kernel) rfl
theorem wi_X0_strike : Cond.instanceMethod yX0_strike ∈ xtbl := xmem 363 (by decide +kernel) rfl
theorem ws_X0_strike : Cond.selects yX0_strike.cls yX0_strike yX0_strike ∈ xtbl := xmem 364 (by decide +kernel) rfl
theorem wcode_X0_strike : Cond.code kX0_strike.1 kX0_strike.2.1 kX0_strike.2.2.1 kX0_strike.2.2.2.1 ∈ xtbl := xmem 365 (by decide +kernel) rfl
theorem wm_X4_172 : Cond.methodLink RX4 172 yX4_move ∈ xtbl := xmem 366 (by decide +kernel) rfl
theorem wi_X4_move : Cond.instanceMethod yX4_move ∈ xtbl := xmem 368 (by decide +kernel) rfl
theorem wcode_X4_move : Cond.code kX4_move.1 kX4_move.2.1 kX4_move.2.2.1 kX4_move.2.2.2.1 ∈ xtbl := xmem 369 (by decide +kernel) rfl
theorem wm_X4_180 : Cond.methodLink RX4 180 yX2_refusalWithoutTape ∈ xtbl := xmem 370 (by decide +kernel) rfl
theorem wm_L_91 : Cond.methodLink RL 91 yX4_splice ∈ xtbl := xmem 371 (by decide +kernel) rfl
theorem wi_X4_splice : Cond.instanceMethod yX4_splice ∈ xtbl := xmem 372 (by decide +kernel) rfl
theorem ws_X4_splice : Cond.selects yX4_splice.cls yX4_splice yX4_splice ∈ xtbl := xmem 373 (by decide +kernel) rfl
theorem wcode_X4_splice : Cond.code kX4_splice.1 kX4_splice.2.1 kX4_splice.2.2.1 kX4_splice.2.2.2.1 ∈ xtbl := xmem 374 (by decide +kernel) rfl
theorem wm_L_96 : Cond.methodLink RL 96 yX4_dub ∈ xtbl := xmem 375 (by decide +kernel) rfl
theorem wi_X4_dub : Cond.instanceMethod yX4_dub ∈ xtbl := xmem 376 (by decide +kernel) rfl
theorem ws_X4_dub : Cond.selects yX4_dub.cls yX4_dub yX4_dub ∈ xtbl := xmem 377 (by decide +kernel) rfl
theorem wcode_X4_dub : Cond.code kX4_dub.1 kX4_dub.2.1 kX4_dub.2.2.1 kX4_dub.2.2.2.1 ∈ xtbl := xmem 378 (by decide +kernel) rfl
theorem wm_X4_183 : Cond.methodLink RX4 183 yX3_copyTo ∈ xtbl := xmem 379 (by decide +kernel) rfl
theorem wm_X4_186 : Cond.methodLink RX4 186 yX3_accept ∈ xtbl := xmem 380 (by decide +kernel) rfl
theorem wm_L_100 : Cond.methodLink RL 100 yX4_sum ∈ xtbl := xmem 381 (by decide +kernel) rfl
theorem wi_X4_sum : Cond.instanceMethod yX4_sum ∈ xtbl := xmem 382 (by decide +kernel) rfl
theorem ws_X4_sum : Cond.selects yX4_sum.cls yX4_sum yX4_sum ∈ xtbl := xmem 383 (by decide +kernel) rfl
theorem wcode_X4_sum : Cond.code kX4_sum.1 kX4_sum.2.1 kX4_sum.2.2.1 kX4_sum.2.2.2.1 ∈ xtbl := xmem 384 (by decide +kernel) rfl
theorem wm_L_105 : Cond.methodLink RL 105 yX4_match ∈ xtbl := xmem 385 (by decide +kernel) rfl
theorem wi_X4_match : Cond.instanceMethod yX4_match ∈ xtbl := xmem 386 (by decide +kernel) rfl
theorem ws_X4_match : Cond.selects yX4_match.cls yX4_match yX4_match ∈ xtbl := xmem 387 (by decide +kernel) rfl
theorem wcode_X4_match : Cond.code kX4_match.1 kX4_match.2.1 kX4_match.2.2.1 kX4_match.2.2.2.1 ∈ xtbl := xmem 388 (by decide +kernel) rfl
theorem wm_X4_193 : Cond.methodLink RX4 193 yJ9_min_7cf53 ∈ xtbl := xmem 389 (by decide +kernel) rfl
theorem wt_J9_min_7cf53 : Cond.static yJ9_min_7cf53 ∈ xtbl := xmem 390 (by decide +kernel) rfl
theorem wcode_J9_min_7cf53 : Cond.code kJ9_min_7cf53.1 kJ9_min_7cf53.2.1 kJ9_min_7cf53.2.2.1 kJ9_min_7cf53.2.2.2.1 ∈ xtbl := xmem 391 (by decide +kernel) rfl
theorem wm_L_109 : Cond.methodLink RL 109 yX4_why ∈ xtbl := xmem 392 (by decide +kernel) rfl
theorem wi_X4_why : Cond.instanceMethod yX4_why ∈ xtbl := xmem 393 (by decide +kernel) rfl
theorem ws_X4_why : Cond.selects yX4_why.cls yX4_why yX4_why ∈ xtbl := xmem 394 (by decide +kernel) rfl
theorem wcode_X4_why : Cond.code kX4_why.1 kX4_why.2.1 kX4_why.2.2.1 kX4_why.2.2.2.1 ∈ xtbl := xmem 395 (by decide +kernel) rfl
theorem wm_L_113 : Cond.methodLink RL 113 yX4_number ∈ xtbl := xmem 396 (by decide +kernel) rfl
theorem wi_X4_number : Cond.instanceMethod yX4_number ∈ xtbl := xmem 397 (by decide +kernel) rfl
theorem ws_X4_number : Cond.selects yX4_number.cls yX4_number yX4_number ∈ xtbl := xmem 398 (by decide +kernel) rfl
theorem wcode_X4_number : Cond.code kX4_number.1 kX4_number.2.1 kX4_number.2.2.1 kX4_number.2.2.2.1 ∈ xtbl := xmem 399 (by decide +kernel) rfl
theorem wm_L_118 : Cond.methodLink RL 118 yX4_kind ∈ xtbl := xmem 400 (by decide +kernel) rfl
theorem wi_X4_kind : Cond.instanceMethod yX4_kind ∈ xtbl := xmem 401 (by decide +kernel) rfl
theorem ws_X4_kind : Cond.selects yX4_kind.cls yX4_kind yX4_kind ∈ xtbl := xmem 402 (by decide +kernel) rfl
theorem wcode_X4_kind : Cond.code kX4_kind.1 kX4_kind.2.1 kX4_kind.2.2.1 kX4_kind.2.2.2.1 ∈ xtbl := xmem 403 (by decide +kernel) rfl
theorem wm_L_122 : Cond.methodLink RL 122 yX4_cells ∈ xtbl := xmem 404 (by decide +kernel) rfl
theorem wi_X4_cells : Cond.instanceMethod yX4_cells ∈ xtbl := xmem 405 (by decide +kernel) rfl
theorem ws_X4_cells : Cond.selects yX4_cells.cls yX4_cells yX4_cells ∈ xtbl := xmem 406 (by decide +kernel) rfl
theorem wcode_X4_cells : Cond.code kX4_cells.1 kX4_cells.2.1 kX4_cells.2.2.1 kX4_cells.2.2.2.1 ∈ xtbl := xmem 407 (by decide +kernel) rfl
theorem wm_L_126 : Cond.methodLink RL 126 yX4_of ∈ xtbl := xmem 408 (by decide +kernel) rfl
theorem wi_X4_of : Cond.instanceMethod yX4_of ∈ xtbl := xmem 409 (by decide +kernel) rfl
theorem ws_X4_of : Cond.selects yX4_of.cls yX4_of yX4_of ∈ xtbl := xmem 410 (by decide +kernel) rfl
theorem wcode_X4_of : Cond.code kX4_of.1 kX4_of.2.1 kX4_of.2.2.1 kX4_of.2.2.2.1 ∈ xtbl := xmem 411 (by decide +kernel) rfl
theorem wk_X4_200 : Cond.constant RX4 200 (-2147483648) ∈ xtbl := xmem 412 (by decide +kernel) rfl
theorem wm_L_130 : Cond.methodLink RL 130 yX4_told ∈ xtbl := xmem 413 (by decide +kernel) rfl
theorem wi_X4_told : Cond.instanceMethod yX4_told ∈ xtbl := xmem 414 (by decide +kernel) rfl
theorem ws_X4_told : Cond.selects yX4_told.cls yX4_told yX4_told ∈ xtbl := xmem 415 (by decide +kernel) rfl
theorem wcode_X4_told : Cond.code kX4_told.1 kX4_told.2.1 kX4_told.2.2.1 kX4_told.2.2.2.1 ∈ xtbl := xmem 416 (by decide +kernel) rfl
theorem wm_L_134 : Cond.methodLink RL 134 yX4_fault ∈ xtbl := xmem 417 (by decide +kernel) rfl
theorem wi_X4_fault : Cond.instanceMethod yX4_fault ∈ xtbl := xmem 418 (by decide +kernel) rfl
theorem ws_X4_fault : Cond.selects yX4_fault.cls yX4_fault yX4_fault ∈ xtbl := xmem 419 (by decide +kernel) rfl
theorem wcode_X4_fault : Cond.code kX4_fault.1 kX4_fault.2.1 kX4_fault.2.2.1 kX4_fault.2.2.2.1 ∈ xtbl := xmem 420 (by decide +kernel) rfl
theorem wm_L_138 : Cond.methodLink RL 138 yX4_count ∈ xtbl := xmem 421 (by decide +kernel) rfl
theorem wi_X4_count : Cond.instanceMethod yX4_count ∈ xtbl := xmem 422 (by decide +kernel) rfl
theorem ws_X4_count : Cond.selects yX4_count.cls yX4_count yX4_count ∈ xtbl := xmem 423 (by decide +kernel) rfl
theorem wcode_X4_count : Cond.code kX4_count.1 kX4_count.2.1 kX4_count.2.2.1 kX4_count.2.2.2.1 ∈ xtbl := xmem 424 (by decide +kernel) rfl
theorem wm_X4_221 : Cond.methodLink RX4 221 yX4_timesMet ∈ xtbl := xmem 425 (by decide +kernel) rfl
theorem wi_X4_timesMet : Cond.instanceMethod yX4_timesMet ∈ xtbl := xmem 427 (by decide +kernel) rfl
theorem wcode_X4_timesMet : Cond.code kX4_timesMet.1 kX4_timesMet.2.1 kX4_timesMet.2.2.1 kX4_timesMet.2.2.2.1 ∈ xtbl := xmem 428 (by decide +kernel) rfl
theorem wc_L_10 : Cond.classLink RL 10 RX5 ∈ xtbl := xmem 429 (by decide +kernel) rfl
theorem wins_RX5 : Cond.instantiable RX5 26 ∈ xtbl := xmem 430 (by decide +kernel) rfl
theorem wm_L_12 : Cond.methodLink RL 12 yX5_init ∈ xtbl := xmem 431 (by decide +kernel) rfl
theorem wi_X5_init : Cond.instanceMethod yX5_init ∈ xtbl := xmem 432 (by decide +kernel) rfl
theorem wcode_X5_init : Cond.code kX5_init.1 kX5_init.2.1 kX5_init.2.2.1 kX5_init.2.2.2.1 ∈ xtbl := xmem 433 (by decide +kernel) rfl
theorem wm_X5_1 : Cond.methodLink RX5 1 objectInit ∈ xtbl := xmem 434 (by decide +kernel) rfl
theorem wf_X5_7 : Cond.fieldLink RX5 7 "PatchBayModel" "tapeKind" "[I" ∈ xtbl := xmem 435 (by decide +kernel) rfl
theorem wf_X5_13 : Cond.fieldLink RX5 13 "PatchBayModel" "tapeSize" "[I" ∈ xtbl := xmem 436 (by decide +kernel) rfl
theorem wf_X5_16 : Cond.fieldLink RX5 16 "PatchBayModel" "used" "[Z" ∈ xtbl := xmem 437 (by decide +kernel) rfl
theorem wf_X5_20 : Cond.fieldLink RX5 20 "PatchBayModel" "cell" "[J" ∈ xtbl := xmem 438 (by decide +kernel) rfl
theorem wf_X5_153 : Cond.fieldLink RX5 153 "PatchBayModel" "tags" "I" ∈ xtbl := xmem 439 (by decide +kernel) rfl
theorem wf_X5_24 : Cond.fieldLink RX5 24 "PatchBayModel" "isSeal" "[Z" ∈ xtbl := xmem 440 (by decide +kernel) rfl
theorem wf_X5_27 : Cond.fieldLink RX5 27 "PatchBayModel" "has" "[I" ∈ xtbl := xmem 441 (by decide +kernel) rfl
theorem wf_X5_30 : Cond.fieldLink RX5 30 "PatchBayModel" "heads" "[I" ∈ xtbl := xmem 442 (by decide +kernel) rfl
theorem wf_X5_33 : Cond.fieldLink RX5 33 "PatchBayModel" "steps" "[I" ∈ xtbl := xmem 443 (by decide +kernel) rfl
theorem wf_X5_36 : Cond.fieldLink RX5 36 "PatchBayModel" "loops" "[Z" ∈ xtbl := xmem 444 (by decide +kernel) rfl
theorem wf_X5_79 : Cond.fieldLink RX5 79 "PatchBayModel" "cables" "I" ∈ xtbl := xmem 445 (by decide +kernel) rfl
theorem wf_X5_39 : Cond.fieldLink RX5 39 "PatchBayModel" "cableKind" "[I" ∈ xtbl := xmem 446 (by decide +kernel) rfl
theorem wf_X5_42 : Cond.fieldLink RX5 42 "PatchBayModel" "from" "[I" ∈ xtbl := xmem 447 (by decide +kernel) rfl
theorem wf_X5_45 : Cond.fieldLink RX5 45 "PatchBayModel" "to" "[I" ∈ xtbl := xmem 448 (by decide +kernel) rfl
theorem wf_X5_48 : Cond.fieldLink RX5 48 "PatchBayModel" "in" "[Z" ∈ xtbl := xmem 449 (by decide +kernel) rfl
theorem wf_X5_51 : Cond.fieldLink RX5 51 "PatchBayModel" "patience" "[I" ∈ xtbl := xmem 450 (by decide +kernel) rfl
theorem wf_X5_54 : Cond.fieldLink RX5 54 "PatchBayModel" "strikes" "[I" ∈ xtbl := xmem 451 (by decide +kernel) rfl
theorem wf_X5_57 : Cond.fieldLink RX5 57 "PatchBayModel" "carried" "[I" ∈ xtbl := xmem 452 (by decide +kernel) rfl
theorem wf_X5_60 : Cond.fieldLink RX5 60 "PatchBayModel" "shut" "[I" ∈ xtbl := xmem 453 (by decide +kernel) rfl
theorem wf_X5_175 : Cond.fieldLink RX5 175 "PatchBayModel" "time" "I" ∈ xtbl := xmem 454 (by decide +kernel) rfl
theorem wf_X5_172 : Cond.fieldLink RX5 172 "PatchBayModel" "faults" "I" ∈ xtbl := xmem 455 (by decide +kernel) rfl
theorem wf_X5_63 : Cond.fieldLink RX5 63 "PatchBayModel" "faultTime" "[I" ∈ xtbl := xmem 456 (by decide +kernel) rfl
theorem wf_X5_66 : Cond.fieldLink RX5 66 "PatchBayModel" "faultWho" "[I" ∈ xtbl := xmem 457 (by decide +kernel) rfl
theorem wf_X5_69 : Cond.fieldLink RX5 69 "PatchBayModel" "faultHow" "[I" ∈ xtbl := xmem 458 (by decide +kernel) rfl
theorem wf_X5_72 : Cond.fieldLink RX5 72 "PatchBayModel" "refusals" "[I" ∈ xtbl := xmem 459 (by decide +kernel) rfl
theorem wf_X5_83 : Cond.fieldLink RX5 83 "PatchBayModel" "why" "I" ∈ xtbl := xmem 460 (by decide +kernel) rfl
theorem wa_boolean : Cond.arrayClass .boolean ∈ xtbl := xmem 514 (by decide +kernel) rfl
theorem wm_L_17 : Cond.methodLink RL 17 yX5_tape ∈ xtbl := xmem 515 (by decide +kernel) rfl
theorem wi_X5_tape : Cond.instanceMethod yX5_tape ∈ xtbl := xmem 516 (by decide +kernel) rfl
theorem ws_X5_tape : Cond.selects yX5_tape.cls yX5_tape yX5_tape ∈ xtbl := xmem 517 (by decide +kernel) rfl
theorem wcode_X5_tape : Cond.code kX5_tape.1 kX5_tape.2.1 kX5_tape.2.2.1 kX5_tape.2.2.2.1 ∈ xtbl := xmem 518 (by decide +kernel) rfl
theorem wm_X5_137 : Cond.methodLink RX5 137 yX5_isChannel ∈ xtbl := xmem 519 (by decide +kernel) rfl
theorem wt_X5_isChannel : Cond.static yX5_isChannel ∈ xtbl := xmem 520 (by decide +kernel) rfl
theorem wcode_X5_isChannel : Cond.code kX5_isChannel.1 kX5_isChannel.2.1 kX5_isChannel.2.2.1 kX5_isChannel.2.2.2.1 ∈ xtbl := xmem 521 (by decide +kernel) rfl
theorem wm_X5_75 : Cond.methodLink RX5 75 yX5_isIn ∈ xtbl := xmem 522 (by decide +kernel) rfl
theorem wt_X5_isIn : Cond.static yX5_isIn ∈ xtbl := xmem 523 (by decide +kernel) rfl
theorem wcode_X5_isIn : Cond.code kX5_isIn.1 kX5_isIn.2.1 kX5_isIn.2.2.1 kX5_isIn.2.2.2.1 ∈ xtbl := xmem 524 (by decide +kernel) rfl
theorem wm_X5_141 : Cond.methodLink RX5 141 yX5_met ∈ xtbl := xmem 525 (by decide +kernel) rfl
theorem wi_X5_met : Cond.instanceMethod yX5_met ∈ xtbl := xmem 527 (by decide +kernel) rfl
theorem wcode_X5_met : Cond.code kX5_met.1 kX5_met.2.1 kX5_met.2.2.1 kX5_met.2.2.2.1 ∈ xtbl := xmem 528 (by decide +kernel) rfl
theorem wm_X5_144 : Cond.methodLink RX5 144 yX5_newTape ∈ xtbl := xmem 529 (by decide +kernel) rfl
theorem wi_X5_newTape : Cond.instanceMethod yX5_newTape ∈ xtbl := xmem 531 (by decide +kernel) rfl
theorem wcode_X5_newTape : Cond.code kX5_newTape.1 kX5_newTape.2.1 kX5_newTape.2.2.1 kX5_newTape.2.2.2.1 ∈ xtbl := xmem 532 (by decide +kernel) rfl
theorem wm_X5_86 : Cond.methodLink RX5 86 yX5_freeTape ∈ xtbl := xmem 533 (by decide +kernel) rfl
theorem wi_X5_freeTape : Cond.instanceMethod yX5_freeTape ∈ xtbl := xmem 535 (by decide +kernel) rfl
theorem wcode_X5_freeTape : Cond.code kX5_freeTape.1 kX5_freeTape.2.1 kX5_freeTape.2.2.1 kX5_freeTape.2.2.2.1 ∈ xtbl := xmem 536 (by decide +kernel) rfl
theorem wm_L_22 : Cond.methodLink RL 22 yX5_plug ∈ xtbl := xmem 537 (by decide +kernel) rfl
theorem wi_X5_plug : Cond.instanceMethod yX5_plug ∈ xtbl := xmem 538 (by decide +kernel) rfl
theorem ws_X5_plug : Cond.selects yX5_plug.cls yX5_plug yX5_plug ∈ xtbl := xmem 539 (by decide +kernel) rfl
theorem wcode_X5_plug : Cond.code kX5_plug.1 kX5_plug.2.1 kX5_plug.2.2.1 kX5_plug.2.2.2.1 ∈ xtbl := xmem 540 (by decide +kernel) rfl
theorem wm_X5_147 : Cond.methodLink RX5 147 yX5_sort ∈ xtbl := xmem 541 (by decide +kernel) rfl
theorem wi_X5_sort : Cond.instanceMethod yX5_sort ∈ xtbl := xmem 543 (by decide +kernel) rfl
theorem wcode_X5_sort : Cond.code kX5_sort.1 kX5_sort.2.1 kX5_sort.2.2.1 kX5_sort.2.2.2.1 ∈ xtbl := xmem 544 (by decide +kernel) rfl
theorem wm_L_26 : Cond.methodLink RL 26 yX5_strip ∈ xtbl := xmem 545 (by decide +kernel) rfl
theorem wi_X5_strip : Cond.instanceMethod yX5_strip ∈ xtbl := xmem 546 (by decide +kernel) rfl
theorem ws_X5_strip : Cond.selects yX5_strip.cls yX5_strip yX5_strip ∈ xtbl := xmem 547 (by decide +kernel) rfl
theorem wcode_X5_strip : Cond.code kX5_strip.1 kX5_strip.2.1 kX5_strip.2.2.1 kX5_strip.2.2.2.1 ∈ xtbl := xmem 548 (by decide +kernel) rfl
theorem wm_L_31 : Cond.methodLink RL 31 yX5_share ∈ xtbl := xmem 549 (by decide +kernel) rfl
theorem wi_X5_share : Cond.instanceMethod yX5_share ∈ xtbl := xmem 550 (by decide +kernel) rfl
theorem ws_X5_share : Cond.selects yX5_share.cls yX5_share yX5_share ∈ xtbl := xmem 551 (by decide +kernel) rfl
theorem wcode_X5_share : Cond.code kX5_share.1 kX5_share.2.1 kX5_share.2.2.1 kX5_share.2.2.2.1 ∈ xtbl := xmem 552 (by decide +kernel) rfl
theorem wm_L_35 : Cond.methodLink RL 35 yX5_head ∈ xtbl := xmem 553 (by decide +kernel) rfl
theorem wi_X5_head : Cond.instanceMethod yX5_head ∈ xtbl := xmem 554 (by decide +kernel) rfl
theorem ws_X5_head : Cond.selects yX5_head.cls yX5_head yX5_head ∈ xtbl := xmem 555 (by decide +kernel) rfl
theorem wcode_X5_head : Cond.code kX5_head.1 kX5_head.2.1 kX5_head.2.2.1 kX5_head.2.2.2.1 ∈ xtbl := xmem 556 (by decide +kernel) rfl
theorem wm_L_39 : Cond.methodLink RL 39 yX5_step ∈ xtbl := xmem 557 (by decide +kernel) rfl
theorem wi_X5_step : Cond.instanceMethod yX5_step ∈ xtbl := xmem 558 (by decide +kernel) rfl
theorem ws_X5_step : Cond.selects yX5_step.cls yX5_step yX5_step ∈ xtbl := xmem 559 (by decide +kernel) rfl
theorem wcode_X5_step : Cond.code kX5_step.1 kX5_step.2.1 kX5_step.2.2.1 kX5_step.2.2.2.1 ∈ xtbl := xmem 560 (by decide +kernel) rfl
theorem wm_L_44 : Cond.methodLink RL 44 yX5_loop ∈ xtbl := xmem 561 (by decide +kernel) rfl
theorem wi_X5_loop : Cond.instanceMethod yX5_loop ∈ xtbl := xmem 562 (by decide +kernel) rfl
theorem ws_X5_loop : Cond.selects yX5_loop.cls yX5_loop yX5_loop ∈ xtbl := xmem 563 (by decide +kernel) rfl
theorem wcode_X5_loop : Cond.code kX5_loop.1 kX5_loop.2.1 kX5_loop.2.2.1 kX5_loop.2.2.2.1 ∈ xtbl := xmem 564 (by decide +kernel) rfl
theorem wm_L_51 : Cond.methodLink RL 51 yX5_stamp ∈ xtbl := xmem 565 (by decide +kernel) rfl
theorem wi_X5_stamp : Cond.instanceMethod yX5_stamp ∈ xtbl := xmem 566 (by decide +kernel) rfl
theorem ws_X5_stamp : Cond.selects yX5_stamp.cls yX5_stamp yX5_stamp ∈ xtbl := xmem 567 (by decide +kernel) rfl
theorem wcode_X5_stamp : Cond.code kX5_stamp.1 kX5_stamp.2.1 kX5_stamp.2.2.1 kX5_stamp.2.2.2.1 ∈ xtbl := xmem 568 (by decide +kernel) rfl
theorem wm_X5_150 : Cond.methodLink RX5 150 yX5_noPlain ∈ xtbl := xmem 569 (by decide +kernel) rfl
theorem wi_X5_noPlain : Cond.instanceMethod yX5_noPlain ∈ xtbl := xmem 571 (by decide +kernel) rfl
theorem wcode_X5_noPlain : Cond.code kX5_noPlain.1 kX5_noPlain.2.1 kX5_noPlain.2.2.1 kX5_noPlain.2.2.2.1 ∈ xtbl := xmem 572 (by decide +kernel) rfl
theorem wm_X5_102 : Cond.methodLink RX5 102 yX5_noTape ∈ xtbl := xmem 573 (by decide +kernel) rfl
theorem wi_X5_noTape : Cond.instanceMethod yX5_noTape ∈ xtbl := xmem 575 (by decide +kernel) rfl
theorem wcode_X5_noTape : Cond.code kX5_noTape.1 kX5_noTape.2.1 kX5_noTape.2.2.1 kX5_noTape.2.2.2.1 ∈ xtbl := xmem 576 (by decide +kernel) rfl
theorem wm_X5_110 : Cond.methodLink RX5 110 yX5_kindOf ∈ xtbl := xmem 577 (by decide +kernel) rfl
theorem wi_X5_kindOf : Cond.instanceMethod yX5_kindOf ∈ xtbl := xmem 579 (by decide +kernel) rfl
theorem wcode_X5_kindOf : Cond.code kX5_kindOf.1 kX5_kindOf.2.1 kX5_kindOf.2.2.1 kX5_kindOf.2.2.2.1 ∈ xtbl := xmem 580 (by decide +kernel) rfl
theorem wm_X5_113 : Cond.methodLink RX5 113 yX5_noPlace ∈ xtbl := xmem 581 (by decide +kernel) rfl
theorem wi_X5_noPlace : Cond.instanceMethod yX5_noPlace ∈ xtbl := xmem 583 (by decide +kernel) rfl
theorem wcode_X5_noPlace : Cond.code kX5_noPlace.1 kX5_noPlace.2.1 kX5_noPlace.2.2.1 kX5_noPlace.2.2.2.1 ∈ xtbl := xmem 584 (by decide +kernel) rfl
theorem wm_X5_106 : Cond.methodLink RX5 106 yX5_takes ∈ xtbl := xmem 585 (by decide +kernel) rfl
theorem wt_X5_takes : Cond.static yX5_takes ∈ xtbl := xmem 586 (by decide +kernel) rfl
theorem wcode_X5_takes : Cond.code kX5_takes.1 kX5_takes.2.1 kX5_takes.2.2.1 kX5_takes.2.2.2.1 ∈ xtbl := xmem 587 (by decide +kernel) rfl
theorem wm_X5_124 : Cond.methodLink RX5 124 yX5_at ∈ xtbl := xmem 588 (by decide +kernel) rfl
theorem wi_X5_at : Cond.instanceMethod yX5_at ∈ xtbl := xmem 590 (by decide +kernel) rfl
theorem wcode_X5_at : Cond.code kX5_at.1 kX5_at.2.1 kX5_at.2.2.1 kX5_at.2.2.2.1 ∈ xtbl := xmem 591 (by decide +kernel) rfl
theorem wm_X5_98 : Cond.methodLink RX5 98 yX5_made ∈ xtbl := xmem 592 (by decide +kernel) rfl
theorem wt_X5_made : Cond.static yX5_made ∈ xtbl := xmem 593 (by decide +kernel) rfl
theorem wcode_X5_made : Cond.code kX5_made.1 kX5_made.2.1 kX5_made.2.2.1 kX5_made.2.2.2.1 ∈ xtbl := xmem 594 (by decide +kernel) rfl
theorem wk_X5_92 : Cond.constantLong RX5 92 (65535) ∈ xtbl := xmem 595 (by decide +kernel) rfl
theorem wm_X5_94 : Cond.methodLink RX5 94 yX5_nearest ∈ xtbl := xmem 596 (by decide +kernel) rfl
theorem wt_X5_nearest : Cond.static yX5_nearest ∈ xtbl := xmem 597 (by decide +kernel) rfl
theorem wcode_X5_nearest : Cond.code kX5_nearest.1 kX5_nearest.2.1 kX5_nearest.2.2.1 kX5_nearest.2.2.2.1 ∈ xtbl := xmem 598 (by decide +kernel) rfl
theorem wk_X5_90 : Cond.constantLong RX5 90 (9223372036854775807) ∈ xtbl := xmem 599 (by decide +kernel) rfl
theorem wm_L_56 : Cond.methodLink RL 56 yX5_probe ∈ xtbl := xmem 600 (by decide +kernel) rfl
theorem wi_X5_probe : Cond.instanceMethod yX5_probe ∈ xtbl := xmem 601 (by decide +kernel) rfl
theorem ws_X5_probe : Cond.selects yX5_probe.cls yX5_probe yX5_probe ∈ xtbl := xmem 602 (by decide +kernel) rfl
theorem wcode_X5_probe : Cond.code kX5_probe.1 kX5_probe.2.1 kX5_probe.2.2.1 kX5_probe.2.2.2.1 ∈ xtbl := xmem 603 (by decide +kernel) rfl
theorem wm_L_61 : Cond.methodLink RL 61 yX5_tag ∈ xtbl := xmem 604 (by decide +kernel) rfl
theorem wi_X5_tag : Cond.instanceMethod yX5_tag ∈ xtbl := xmem 605 (by decide +kernel) rfl
theorem ws_X5_tag : Cond.selects yX5_tag.cls yX5_tag yX5_tag ∈ xtbl := xmem 606 (by decide +kernel) rfl
theorem wcode_X5_tag : Cond.code kX5_tag.1 kX5_tag.2.1 kX5_tag.2.2.1 kX5_tag.2.2.2.1 ∈ xtbl := xmem 607 (by decide +kernel) rfl
theorem wm_X5_133 : Cond.methodLink RX5 133 yX5_writes ∈ xtbl := xmem 608 (by decide +kernel) rfl
theorem wi_X5_writes : Cond.instanceMethod yX5_writes ∈ xtbl := xmem 610 (by decide +kernel) rfl
theorem wcode_X5_writes : Cond.code kX5_writes.1 kX5_writes.2.1 kX5_writes.2.2.1 kX5_writes.2.2.2.1 ∈ xtbl := xmem 611 (by decide +kernel) rfl
theorem wm_X5_120 : Cond.methodLink RX5 120 yX5_noWrite ∈ xtbl := xmem 612 (by decide +kernel) rfl
theorem wi_X5_noWrite : Cond.instanceMethod yX5_noWrite ∈ xtbl := xmem 614 (by decide +kernel) rfl
theorem wcode_X5_noWrite : Cond.code kX5_noWrite.1 kX5_noWrite.2.1 kX5_noWrite.2.2.1 kX5_noWrite.2.2.2.1 ∈ xtbl := xmem 615 (by decide +kernel) rfl
theorem wm_X5_117 : Cond.methodLink RX5 117 yX5_noTake ∈ xtbl := xmem 616 (by decide +kernel) rfl
theorem wt_X5_noTake : Cond.static yX5_noTake ∈ xtbl := xmem 617 (by decide +kernel) rfl
theorem wcode_X5_noTake : Cond.code kX5_noTake.1 kX5_noTake.2.1 kX5_noTake.2.2.1 kX5_noTake.2.2.2.1 ∈ xtbl := xmem 618 (by decide +kernel) rfl
theorem wm_X5_127 : Cond.methodLink RX5 127 yX5_kept ∈ xtbl := xmem 619 (by decide +kernel) rfl
theorem wt_X5_kept : Cond.static yX5_kept ∈ xtbl := xmem 620 (by decide +kernel) rfl
theorem wcode_X5_kept : Cond.code kX5_kept.1 kX5_kept.2.1 kX5_kept.2.2.1 kX5_kept.2.2.2.1 ∈ xtbl := xmem 621 (by decide +kernel) rfl
theorem wm_L_65 : Cond.methodLink RL 65 yX5_rack ∈ xtbl := xmem 622 (by decide +kernel) rfl
theorem wi_X5_rack : Cond.instanceMethod yX5_rack ∈ xtbl := xmem 623 (by decide +kernel) rfl
theorem ws_X5_rack : Cond.selects yX5_rack.cls yX5_rack yX5_rack ∈ xtbl := xmem 624 (by decide +kernel) rfl
theorem wcode_X5_rack : Cond.code kX5_rack.1 kX5_rack.2.1 kX5_rack.2.2.1 kX5_rack.2.2.2.1 ∈ xtbl := xmem 625 (by decide +kernel) rfl
theorem wm_L_69 : Cond.methodLink RL 69 yX5_unrack ∈ xtbl := xmem 626 (by decide +kernel) rfl
theorem wi_X5_unrack : Cond.instanceMethod yX5_unrack ∈ xtbl := xmem 627 (by decide +kernel) rfl
theorem ws_X5_unrack : Cond.selects yX5_unrack.cls yX5_unrack yX5_unrack ∈ xtbl := xmem 628 (by decide +kernel) rfl
theorem wcode_X5_unrack : Cond.code kX5_unrack.1 kX5_unrack.2.1 kX5_unrack.2.2.1 kX5_unrack.2.2.2.1 ∈ xtbl := xmem 629 (by decide +kernel) rfl
theorem wm_X5_130 : Cond.methodLink RX5 130 yX5_cellKind ∈ xtbl := xmem 630 (by decide +kernel) rfl
theorem wi_X5_cellKind : Cond.instanceMethod yX5_cellKind ∈ xtbl := xmem 632 (by decide +kernel) rfl
theorem wcode_X5_cellKind : Cond.code kX5_cellKind.1 kX5_cellKind.2.1 kX5_cellKind.2.2.1 kX5_cellKind.2.2.2.1 ∈ xtbl := xmem 633 (by decide +kernel) rfl
theorem wk_X5_156 : Cond.constantLong RX5 156 (-1) ∈ xtbl := xmem 634 (by decide +kernel) rfl
theorem wm_L_73 : Cond.methodLink RL 73 yX5_cable ∈ xtbl := xmem 635 (by decide +kernel) rfl
theorem wi_X5_cable : Cond.instanceMethod yX5_cable ∈ xtbl := xmem 636 (by decide +kernel) rfl
theorem ws_X5_cable : Cond.selects yX5_cable.cls yX5_cable yX5_cable ∈ xtbl := xmem 637 (by decide +kernel) rfl
theorem wcode_X5_cable : Cond.code kX5_cable.1 kX5_cable.2.1 kX5_cable.2.2.1 kX5_cable.2.2.2.1 ∈ xtbl := xmem 638 (by decide +kernel) rfl
theorem wm_L_77 : Cond.methodLink RL 77 yX5_patience ∈ xtbl := xmem 639 (by decide +kernel) rfl
theorem wi_X5_patience : Cond.instanceMethod yX5_patience ∈ xtbl := xmem 640 (by decide +kernel) rfl
theorem ws_X5_patience : Cond.selects yX5_patience.cls yX5_patience yX5_patience ∈ xtbl := xmem 641 (by decide +kernel) rfl
theorem wcode_X5_patience : Cond.code kX5_patience.1 kX5_patience.2.1 kX5_patience.2.2.1 kX5_patience.2.2.2.1 ∈ xtbl := xmem 642 (by decide +kernel) rfl
theorem wm_X5_158 : Cond.methodLink RX5 158 yX5_isCable ∈ xtbl := xmem 643 (by decide +kernel) rfl
theorem wi_X5_isCable : Cond.instanceMethod yX5_isCable ∈ xtbl := xmem 645 (by decide +kernel) rfl
theorem wcode_X5_isCable : Cond.code kX5_isCable.1 kX5_isCable.2.1 kX5_isCable.2.2.1 kX5_isCable.2.2.2.1 ∈ xtbl := xmem 646 (by decide +kernel) rfl
theorem wm_L_81 : Cond.methodLink RL 81 yX5_pull ∈ xtbl := xmem 647 (by decide +kernel) rfl
theorem wi_X5_pull : Cond.instanceMethod yX5_pull ∈ xtbl := xmem 648 (by decide +kernel) rfl
theorem ws_X5_pull : Cond.selects yX5_pull.cls yX5_pull yX5_pull ∈ xtbl := xmem 649 (by decide +kernel) rfl
theorem wcode_X5_pull : Cond.code kX5_pull.1 kX5_pull.2.1 kX5_pull.2.2.1 kX5_pull.2.2.2.1 ∈ xtbl := xmem 650 (by decide +kernel) rfl
theorem wm_L_85 : Cond.methodLink RL 85 yX5_plugIn ∈ xtbl := xmem 651 (by decide +kernel) rfl
theorem wi_X5_plugIn : Cond.instanceMethod yX5_plugIn ∈ xtbl := xmem 652 (by decide +kernel) rfl
theorem ws_X5_plugIn : Cond.selects yX5_plugIn.cls yX5_plugIn yX5_plugIn ∈ xtbl := xmem 653 (by decide +kernel) rfl
theorem wcode_X5_plugIn : Cond.code kX5_plugIn.1 kX5_plugIn.2.1 kX5_plugIn.2.2.1 kX5_plugIn.2.2.2.1 ∈ xtbl := xmem 654 (by decide +kernel) rfl
theorem wm_L_90 : Cond.methodLink RL 90 yX5_tick ∈ xtbl := xmem 655 (by decide +kernel) rfl
theorem wi_X5_tick : Cond.instanceMethod yX5_tick ∈ xtbl := xmem 656 (by decide +kernel) rfl
theorem ws_X5_tick : Cond.selects yX5_tick.cls yX5_tick yX5_tick ∈ xtbl := xmem 657 (by decide +kernel) rfl
theorem wcode_X5_tick : Cond.code kX5_tick.1 kX5_tick.2.1 kX5_tick.2.2.1 kX5_tick.2.2.2.1 ∈ xtbl := xmem 658 (by decide +kernel) rfl
theorem wm_X5_182 : Cond.methodLink RX5 182 yX5_carries ∈ xtbl := xmem 659 (by decide +kernel) rfl
theorem wi_X5_carries : Cond.instanceMethod yX5_carries ∈ xtbl := xmem 661 (by decide +kernel) rfl
theorem wcode_X5_carries : Cond.code kX5_carries.1 kX5_carries.2.1 kX5_carries.2.2.1 kX5_carries.2.2.2.1 ∈ xtbl := xmem 662 (by decide +kernel) rfl
theorem wm_X5_161 : Cond.methodLink RX5 161 yX5_changes ∈ xtbl := xmem 663 (by decide +kernel) rfl
theorem wi_X5_changes : Cond.instanceMethod yX5_changes ∈ xtbl := xmem 665 (by decide +kernel) rfl
theorem wcode_X5_changes : Cond.code kX5_changes.1 kX5_changes.2.1 kX5_changes.2.2.1 kX5_changes.2.2.2.1 ∈ xtbl := xmem 666 (by decide +kernel) rfl
theorem wm_X5_165 : Cond.methodLink RX5 165 yX5_numberOf ∈ xtbl := xmem 667 (by decide +kernel) rfl
theorem wi_X5_numberOf : Cond.instanceMethod yX5_numberOf ∈ xtbl := xmem 669 (by decide +kernel) rfl
theorem wcode_X5_numberOf : Cond.code kX5_numberOf.1 kX5_numberOf.2.1 kX5_numberOf.2.2.1 kX5_numberOf.2.2.2.1 ∈ xtbl := xmem 670 (by decide +kernel) rfl
theorem wm_X5_169 : Cond.methodLink RX5 169 yX5_passes ∈ xtbl := xmem 671 (by decide +kernel) rfl
theorem wi_X5_passes : Cond.instanceMethod yX5_passes ∈ xtbl := xmem 673 (by decide +kernel) rfl
theorem wcode_X5_passes : Cond.code kX5_passes.1 kX5_passes.2.1 kX5_passes.2.2.1 kX5_passes.2.2.2.1 ∈ xtbl := xmem 674 (by decide +kernel) rfl
theorem wm_X5_178 : Cond.methodLink RX5 178 yX5_fails ∈ xtbl := xmem 675 (by decide +kernel) rfl
theorem wi_X5_fails : Cond.instanceMethod yX5_fails ∈ xtbl := xmem 677 (by decide +kernel) rfl
theorem wcode_X5_fails : Cond.code kX5_fails.1 kX5_fails.2.1 kX5_fails.2.2.1 kX5_fails.2.2.2.1 ∈ xtbl := xmem 678 (by decide +kernel) rfl
theorem wm_X5_185 : Cond.methodLink RX5 185 yX5_moves ∈ xtbl := xmem 679 (by decide +kernel) rfl
theorem wi_X5_moves : Cond.instanceMethod yX5_moves ∈ xtbl := xmem 681 (by decide +kernel) rfl
theorem wcode_X5_moves : Cond.code kX5_moves.1 kX5_moves.2.1 kX5_moves.2.2.1 kX5_moves.2.2.2.1 ∈ xtbl := xmem 682 (by decide +kernel) rfl
theorem wm_L_95 : Cond.methodLink RL 95 yX5_splice ∈ xtbl := xmem 683 (by decide +kernel) rfl
theorem wi_X5_splice : Cond.instanceMethod yX5_splice ∈ xtbl := xmem 684 (by decide +kernel) rfl
theorem ws_X5_splice : Cond.selects yX5_splice.cls yX5_splice yX5_splice ∈ xtbl := xmem 685 (by decide +kernel) rfl
theorem wcode_X5_splice : Cond.code kX5_splice.1 kX5_splice.2.1 kX5_splice.2.2.1 kX5_splice.2.2.2.1 ∈ xtbl := xmem 686 (by decide +kernel) rfl
theorem wm_L_99 : Cond.methodLink RL 99 yX5_dub ∈ xtbl := xmem 687 (by decide +kernel) rfl
theorem wi_X5_dub : Cond.instanceMethod yX5_dub ∈ xtbl := xmem 688 (by decide +kernel) rfl
theorem ws_X5_dub : Cond.selects yX5_dub.cls yX5_dub yX5_dub ∈ xtbl := xmem 689 (by decide +kernel) rfl
theorem wcode_X5_dub : Cond.code kX5_dub.1 kX5_dub.2.1 kX5_dub.2.2.1 kX5_dub.2.2.2.1 ∈ xtbl := xmem 690 (by decide +kernel) rfl
theorem wm_L_104 : Cond.methodLink RL 104 yX5_sum ∈ xtbl := xmem 691 (by decide +kernel) rfl
theorem wi_X5_sum : Cond.instanceMethod yX5_sum ∈ xtbl := xmem 692 (by decide +kernel) rfl
theorem ws_X5_sum : Cond.selects yX5_sum.cls yX5_sum yX5_sum ∈ xtbl := xmem 693 (by decide +kernel) rfl
theorem wcode_X5_sum : Cond.code kX5_sum.1 kX5_sum.2.1 kX5_sum.2.2.1 kX5_sum.2.2.2.1 ∈ xtbl := xmem 694 (by decide +kernel) rfl
theorem wm_L_108 : Cond.methodLink RL 108 yX5_match ∈ xtbl := xmem 695 (by decide +kernel) rfl
theorem wi_X5_match : Cond.instanceMethod yX5_match ∈ xtbl := xmem 696 (by decide +kernel) rfl
theorem ws_X5_match : Cond.selects yX5_match.cls yX5_match yX5_match ∈ xtbl := xmem 697 (by decide +kernel) rfl
theorem wcode_X5_match : Cond.code kX5_match.1 kX5_match.2.1 kX5_match.2.2.1 kX5_match.2.2.2.1 ∈ xtbl := xmem 698 (by decide +kernel) rfl
theorem wm_L_112 : Cond.methodLink RL 112 yX5_why ∈ xtbl := xmem 699 (by decide +kernel) rfl
theorem wi_X5_why : Cond.instanceMethod yX5_why ∈ xtbl := xmem 700 (by decide +kernel) rfl
theorem ws_X5_why : Cond.selects yX5_why.cls yX5_why yX5_why ∈ xtbl := xmem 701 (by decide +kernel) rfl
theorem wcode_X5_why : Cond.code kX5_why.1 kX5_why.2.1 kX5_why.2.2.1 kX5_why.2.2.2.1 ∈ xtbl := xmem 702 (by decide +kernel) rfl
theorem wm_L_117 : Cond.methodLink RL 117 yX5_number ∈ xtbl := xmem 703 (by decide +kernel) rfl
theorem wi_X5_number : Cond.instanceMethod yX5_number ∈ xtbl := xmem 704 (by decide +kernel) rfl
theorem ws_X5_number : Cond.selects yX5_number.cls yX5_number yX5_number ∈ xtbl := xmem 705 (by decide +kernel) rfl
theorem wcode_X5_number : Cond.code kX5_number.1 kX5_number.2.1 kX5_number.2.2.1 kX5_number.2.2.2.1 ∈ xtbl := xmem 706 (by decide +kernel) rfl
theorem wm_L_121 : Cond.methodLink RL 121 yX5_kind ∈ xtbl := xmem 707 (by decide +kernel) rfl
theorem wi_X5_kind : Cond.instanceMethod yX5_kind ∈ xtbl := xmem 708 (by decide +kernel) rfl
theorem ws_X5_kind : Cond.selects yX5_kind.cls yX5_kind yX5_kind ∈ xtbl := xmem 709 (by decide +kernel) rfl
theorem wcode_X5_kind : Cond.code kX5_kind.1 kX5_kind.2.1 kX5_kind.2.2.1 kX5_kind.2.2.2.1 ∈ xtbl := xmem 710 (by decide +kernel) rfl
theorem wm_L_125 : Cond.methodLink RL 125 yX5_cells ∈ xtbl := xmem 711 (by decide +kernel) rfl
theorem wi_X5_cells : Cond.instanceMethod yX5_cells ∈ xtbl := xmem 712 (by decide +kernel) rfl
theorem ws_X5_cells : Cond.selects yX5_cells.cls yX5_cells yX5_cells ∈ xtbl := xmem 713 (by decide +kernel) rfl
theorem wcode_X5_cells : Cond.code kX5_cells.1 kX5_cells.2.1 kX5_cells.2.2.1 kX5_cells.2.2.2.1 ∈ xtbl := xmem 714 (by decide +kernel) rfl
theorem wm_L_129 : Cond.methodLink RL 129 yX5_of ∈ xtbl := xmem 715 (by decide +kernel) rfl
theorem wi_X5_of : Cond.instanceMethod yX5_of ∈ xtbl := xmem 716 (by decide +kernel) rfl
theorem ws_X5_of : Cond.selects yX5_of.cls yX5_of yX5_of ∈ xtbl := xmem 717 (by decide +kernel) rfl
theorem wcode_X5_of : Cond.code kX5_of.1 kX5_of.2.1 kX5_of.2.2.1 kX5_of.2.2.2.1 ∈ xtbl := xmem 718 (by decide +kernel) rfl
theorem wk_X5_189 : Cond.constant RX5 189 (-2147483648) ∈ xtbl := xmem 719 (by decide +kernel) rfl
theorem wm_L_133 : Cond.methodLink RL 133 yX5_told ∈ xtbl := xmem 720 (by decide +kernel) rfl
theorem wi_X5_told : Cond.instanceMethod yX5_told ∈ xtbl := xmem 721 (by decide +kernel) rfl
theorem ws_X5_told : Cond.selects yX5_told.cls yX5_told yX5_told ∈ xtbl := xmem 722 (by decide +kernel) rfl
theorem wcode_X5_told : Cond.code kX5_told.1 kX5_told.2.1 kX5_told.2.2.1 kX5_told.2.2.2.1 ∈ xtbl := xmem 723 (by decide +kernel) rfl
theorem wm_L_137 : Cond.methodLink RL 137 yX5_fault ∈ xtbl := xmem 724 (by decide +kernel) rfl
theorem wi_X5_fault : Cond.instanceMethod yX5_fault ∈ xtbl := xmem 725 (by decide +kernel) rfl
theorem ws_X5_fault : Cond.selects yX5_fault.cls yX5_fault yX5_fault ∈ xtbl := xmem 726 (by decide +kernel) rfl
theorem wcode_X5_fault : Cond.code kX5_fault.1 kX5_fault.2.1 kX5_fault.2.2.1 kX5_fault.2.2.2.1 ∈ xtbl := xmem 727 (by decide +kernel) rfl
theorem wm_L_141 : Cond.methodLink RL 141 yX5_count ∈ xtbl := xmem 728 (by decide +kernel) rfl
theorem wi_X5_count : Cond.instanceMethod yX5_count ∈ xtbl := xmem 729 (by decide +kernel) rfl
theorem ws_X5_count : Cond.selects yX5_count.cls yX5_count yX5_count ∈ xtbl := xmem 730 (by decide +kernel) rfl
theorem wcode_X5_count : Cond.code kX5_count.1 kX5_count.2.1 kX5_count.2.2.1 kX5_count.2.2.2.1 ∈ xtbl := xmem 731 (by decide +kernel) rfl
theorem wk_L_45 : Cond.constantLong RL 45 (4294967295) ∈ xtbl := xmem 732 (by decide +kernel) rfl
theorem ws_X4_channelAt : Cond.selects yX4_channelAt.cls yX4_channelAt yX4_channelAt ∈ xtbl := xmemp 0 (by decide +kernel) rfl
theorem ws_X4_answer : Cond.selects yX4_answer.cls yX4_answer yX4_answer ∈ xtbl := xmemp 1 (by decide +kernel) rfl
theorem ws_X4_note : Cond.selects yX4_note.cls yX4_note yX4_note ∈ xtbl := xmemp 2 (by decide +kernel) rfl
theorem ws_X4_meet : Cond.selects yX4_meet.cls yX4_meet yX4_meet ∈ xtbl := xmemp 3 (by decide +kernel) rfl
theorem ws_X4_holdNoTape : Cond.selects yX4_holdNoTape.cls yX4_holdNoTape yX4_holdNoTape ∈ xtbl := xmemp 4 (by decide +kernel) rfl
theorem ws_X4_cableAt : Cond.selects yX4_cableAt.cls yX4_cableAt yX4_cableAt ∈ xtbl := xmemp 5 (by decide +kernel) rfl
theorem ws_X4_carry : Cond.selects yX4_carry.cls yX4_carry yX4_carry ∈ xtbl := xmemp 6 (by decide +kernel) rfl
theorem ws_X4_gate : Cond.selects yX4_gate.cls yX4_gate yX4_gate ∈ xtbl := xmemp 7 (by decide +kernel) rfl
theorem ws_X4_pair : Cond.selects yX4_pair.cls yX4_pair yX4_pair ∈ xtbl := xmemp 8 (by decide +kernel) rfl
theorem ws_X4_wire : Cond.selects yX4_wire.cls yX4_wire yX4_wire ∈ xtbl := xmemp 9 (by decide +kernel) rfl
theorem ws_X4_swap : Cond.selects yX4_swap.cls yX4_swap yX4_swap ∈ xtbl := xmemp 10 (by decide +kernel) rfl
theorem ws_X4_keepBooks : Cond.selects yX4_keepBooks.cls yX4_keepBooks yX4_keepBooks ∈ xtbl := xmemp 11 (by decide +kernel) rfl
theorem ws_X4_noteFault : Cond.selects yX4_noteFault.cls yX4_noteFault yX4_noteFault ∈ xtbl := xmemp 12 (by decide +kernel) rfl
theorem ws_X4_move : Cond.selects yX4_move.cls yX4_move yX4_move ∈ xtbl := xmemp 13 (by decide +kernel) rfl
theorem ws_X4_timesMet : Cond.selects yX4_timesMet.cls yX4_timesMet yX4_timesMet ∈ xtbl := xmemp 14 (by decide +kernel) rfl
theorem ws_X5_met : Cond.selects yX5_met.cls yX5_met yX5_met ∈ xtbl := xmemp 15 (by decide +kernel) rfl
theorem ws_X5_newTape : Cond.selects yX5_newTape.cls yX5_newTape yX5_newTape ∈ xtbl := xmemp 16 (by decide +kernel) rfl
theorem ws_X5_freeTape : Cond.selects yX5_freeTape.cls yX5_freeTape yX5_freeTape ∈ xtbl := xmemp 17 (by decide +kernel) rfl
theorem ws_X5_sort : Cond.selects yX5_sort.cls yX5_sort yX5_sort ∈ xtbl := xmemp 18 (by decide +kernel) rfl
theorem ws_X5_noPlain : Cond.selects yX5_noPlain.cls yX5_noPlain yX5_noPlain ∈ xtbl := xmemp 19 (by decide +kernel) rfl
theorem ws_X5_noTape : Cond.selects yX5_noTape.cls yX5_noTape yX5_noTape ∈ xtbl := xmemp 20 (by decide +kernel) rfl
theorem ws_X5_kindOf : Cond.selects yX5_kindOf.cls yX5_kindOf yX5_kindOf ∈ xtbl := xmemp 21 (by decide +kernel) rfl
theorem ws_X5_noPlace : Cond.selects yX5_noPlace.cls yX5_noPlace yX5_noPlace ∈ xtbl := xmemp 22 (by decide +kernel) rfl
theorem ws_X5_at : Cond.selects yX5_at.cls yX5_at yX5_at ∈ xtbl := xmemp 23 (by decide +kernel) rfl
theorem ws_X5_writes : Cond.selects yX5_writes.cls yX5_writes yX5_writes ∈ xtbl := xmemp 24 (by decide +kernel) rfl
theorem ws_X5_noWrite : Cond.selects yX5_noWrite.cls yX5_noWrite yX5_noWrite ∈ xtbl := xmemp 25 (by decide +kernel) rfl
theorem ws_X5_cellKind : Cond.selects yX5_cellKind.cls yX5_cellKind yX5_cellKind ∈ xtbl := xmemp 26 (by decide +kernel) rfl
theorem ws_X5_isCable : Cond.selects yX5_isCable.cls yX5_isCable yX5_isCable ∈ xtbl := xmemp 27 (by decide +kernel) rfl
theorem ws_X5_carries : Cond.selects yX5_carries.cls yX5_carries yX5_carries ∈ xtbl := xmemp 28 (by decide +kernel) rfl
theorem ws_X5_changes : Cond.selects yX5_changes.cls yX5_changes yX5_changes ∈ xtbl := xmemp 29 (by decide +kernel) rfl
theorem ws_X5_numberOf : Cond.selects yX5_numberOf.cls yX5_numberOf yX5_numberOf ∈ xtbl := xmemp 30 (by decide +kernel) rfl
theorem ws_X5_passes : Cond.selects yX5_passes.cls yX5_passes yX5_passes ∈ xtbl := xmemp 31 (by decide +kernel) rfl
theorem ws_X5_fails : Cond.selects yX5_fails.cls yX5_fails yX5_fails ∈ xtbl := xmemp 32 (by decide +kernel) rfl
theorem ws_X5_moves : Cond.selects yX5_moves.cls yX5_moves yX5_moves ∈ xtbl := xmemp 33 (by decide +kernel) rfl
theorem v_X0_init : xvok kX0_init := ⟨wcode_X0_init, wini_RX0, by decide +kernel, by decide +kernel⟩
theorem n_X0_init : (parseMethodDescriptor kX0_init.1.desc).map (fun d => d.parameters.length) = some 4 := by decide +kernel
theorem v_X0_strike : xvok kX0_strike := ⟨wcode_X0_strike, wini_RX0, by decide +kernel, by decide +kernel⟩
theorem n_X0_strike : (parseMethodDescriptor kX0_strike.1.desc).map (fun d => d.parameters.length) = some 0 := by decide +kernel
theorem v_X1_init : xvok kX1_init := ⟨wcode_X1_init, wini_RX1, by decide +kernel, by decide +kernel⟩
theorem n_X1_init : (parseMethodDescriptor kX1_init.1.desc).map (fun d => d.parameters.length) = some 0 := by decide +kernel
theorem v_X1_become : xvok kX1_become := ⟨wcode_X1_become, wini_RX1, by decide +kernel, by decide +kernel⟩
theorem n_X1_become : (parseMethodDescriptor kX1_become.1.desc).map (fun d => d.parameters.length) = some 3 := by decide +kernel
theorem v_X2_init : xvok kX2_init := ⟨wcode_X2_init, wini_RX2, by decide +kernel, by decide +kernel⟩
theorem n_X2_init : (parseMethodDescriptor kX2_init.1.desc).map (fun d => d.parameters.length) = some 1 := by decide +kernel
theorem v_X2_hold : xvok kX2_hold := ⟨wcode_X2_hold, wini_RX2, by decide +kernel, by decide +kernel⟩
theorem n_X2_hold : (parseMethodDescriptor kX2_hold.1.desc).map (fun d => d.parameters.length) = some 2 := by decide +kernel
theorem v_X2_has : xvok kX2_has := ⟨wcode_X2_has, wini_RX2, by decide +kernel, by decide +kernel⟩
theorem n_X2_has : (parseMethodDescriptor kX2_has.1.desc).map (fun d => d.parameters.length) = some 0 := by decide +kernel
theorem v_X2_refusalWithoutTape : xvok kX2_refusalWithoutTape := ⟨wcode_X2_refusalWithoutTape, wini_RX2, by decide +kernel, by decide +kernel⟩
theorem n_X2_refusalWithoutTape : (parseMethodDescriptor kX2_refusalWithoutTape.1.desc).map (fun d => d.parameters.length) = some 0 := by decide +kernel
theorem v_X2_refusalOfPlain : xvok kX2_refusalOfPlain := ⟨wcode_X2_refusalOfPlain, wini_RX2, by decide +kernel, by decide +kernel⟩
theorem n_X2_refusalOfPlain : (parseMethodDescriptor kX2_refusalOfPlain.1.desc).map (fun d => d.parameters.length) = some 0 := by decide +kernel
theorem v_X2_read : xvok kX2_read := ⟨wcode_X2_read, wini_RX2, by decide +kernel, by decide +kernel⟩
theorem n_X2_read : (parseMethodDescriptor kX2_read.1.desc).map (fun d => d.parameters.length) = some 2 := by decide +kernel
theorem v_X2_write : xvok kX2_write := ⟨wcode_X2_write, wini_RX2, by decide +kernel, by decide +kernel⟩
theorem n_X2_write : (parseMethodDescriptor kX2_write.1.desc).map (fun d => d.parameters.length) = some 2 := by decide +kernel
theorem v_X2_asCell : xvok kX2_asCell := ⟨wcode_X2_asCell, wini_RX2, by decide +kernel, by decide +kernel⟩
theorem n_X2_asCell : (parseMethodDescriptor kX2_asCell.1.desc).map (fun d => d.parameters.length) = some 1 := by decide +kernel
theorem v_X3_init : xvok kX3_init := ⟨wcode_X3_init, wini_RX3, by decide +kernel, by decide +kernel⟩
theorem n_X3_init : (parseMethodDescriptor kX3_init.1.desc).map (fun d => d.parameters.length) = some 2 := by decide +kernel
theorem v_X3_copyTo : xvok kX3_copyTo := ⟨wcode_X3_copyTo, wini_RX3, by decide +kernel, by decide +kernel⟩
theorem n_X3_copyTo : (parseMethodDescriptor kX3_copyTo.1.desc).map (fun d => d.parameters.length) = some 2 := by decide +kernel
theorem v_X3_accept : xvok kX3_accept := ⟨wcode_X3_accept, wini_RX3, by decide +kernel, by decide +kernel⟩
theorem n_X3_accept : (parseMethodDescriptor kX3_accept.1.desc).map (fun d => d.parameters.length) = some 2 := by decide +kernel
theorem v_X4_init : xvok kX4_init := ⟨wcode_X4_init, wini_RX4, by decide +kernel, by decide +kernel⟩
theorem n_X4_init : (parseMethodDescriptor kX4_init.1.desc).map (fun d => d.parameters.length) = some 0 := by decide +kernel
theorem v_X4_tape : xvok kX4_tape := ⟨wcode_X4_tape, wini_RX4, by decide +kernel, by decide +kernel⟩
theorem n_X4_tape : (parseMethodDescriptor kX4_tape.1.desc).map (fun d => d.parameters.length) = some 3 := by decide +kernel
theorem v_X4_plug : xvok kX4_plug := ⟨wcode_X4_plug, wini_RX4, by decide +kernel, by decide +kernel⟩
theorem n_X4_plug : (parseMethodDescriptor kX4_plug.1.desc).map (fun d => d.parameters.length) = some 1 := by decide +kernel
theorem v_X4_strip : xvok kX4_strip := ⟨wcode_X4_strip, wini_RX4, by decide +kernel, by decide +kernel⟩
theorem n_X4_strip : (parseMethodDescriptor kX4_strip.1.desc).map (fun d => d.parameters.length) = some 1 := by decide +kernel
theorem v_X4_share : xvok kX4_share := ⟨wcode_X4_share, wini_RX4, by decide +kernel, by decide +kernel⟩
theorem n_X4_share : (parseMethodDescriptor kX4_share.1.desc).map (fun d => d.parameters.length) = some 2 := by decide +kernel
theorem v_X4_head : xvok kX4_head := ⟨wcode_X4_head, wini_RX4, by decide +kernel, by decide +kernel⟩
theorem n_X4_head : (parseMethodDescriptor kX4_head.1.desc).map (fun d => d.parameters.length) = some 2 := by decide +kernel
theorem v_X4_step : xvok kX4_step := ⟨wcode_X4_step, wini_RX4, by decide +kernel, by decide +kernel⟩
theorem n_X4_step : (parseMethodDescriptor kX4_step.1.desc).map (fun d => d.parameters.length) = some 2 := by decide +kernel
theorem v_X4_loop : xvok kX4_loop := ⟨wcode_X4_loop, wini_RX4, by decide +kernel, by decide +kernel⟩
theorem n_X4_loop : (parseMethodDescriptor kX4_loop.1.desc).map (fun d => d.parameters.length) = some 2 := by decide +kernel
theorem v_X4_stamp : xvok kX4_stamp := ⟨wcode_X4_stamp, wini_RX4, by decide +kernel, by decide +kernel⟩
theorem n_X4_stamp : (parseMethodDescriptor kX4_stamp.1.desc).map (fun d => d.parameters.length) = some 4 := by decide +kernel
theorem v_X4_probe : xvok kX4_probe := ⟨wcode_X4_probe, wini_RX4, by decide +kernel, by decide +kernel⟩
theorem n_X4_probe : (parseMethodDescriptor kX4_probe.1.desc).map (fun d => d.parameters.length) = some 3 := by decide +kernel
theorem v_X4_tag : xvok kX4_tag := ⟨wcode_X4_tag, wini_RX4, by decide +kernel, by decide +kernel⟩
theorem n_X4_tag : (parseMethodDescriptor kX4_tag.1.desc).map (fun d => d.parameters.length) = some 3 := by decide +kernel
theorem v_X4_rack : xvok kX4_rack := ⟨wcode_X4_rack, wini_RX4, by decide +kernel, by decide +kernel⟩
theorem n_X4_rack : (parseMethodDescriptor kX4_rack.1.desc).map (fun d => d.parameters.length) = some 3 := by decide +kernel
theorem v_X4_unrack : xvok kX4_unrack := ⟨wcode_X4_unrack, wini_RX4, by decide +kernel, by decide +kernel⟩
theorem n_X4_unrack : (parseMethodDescriptor kX4_unrack.1.desc).map (fun d => d.parameters.length) = some 3 := by decide +kernel
theorem v_X4_cable : xvok kX4_cable := ⟨wcode_X4_cable, wini_RX4, by decide +kernel, by decide +kernel⟩
theorem n_X4_cable : (parseMethodDescriptor kX4_cable.1.desc).map (fun d => d.parameters.length) = some 3 := by decide +kernel
theorem v_X4_patience : xvok kX4_patience := ⟨wcode_X4_patience, wini_RX4, by decide +kernel, by decide +kernel⟩
theorem n_X4_patience : (parseMethodDescriptor kX4_patience.1.desc).map (fun d => d.parameters.length) = some 2 := by decide +kernel
theorem v_X4_pull : xvok kX4_pull := ⟨wcode_X4_pull, wini_RX4, by decide +kernel, by decide +kernel⟩
theorem n_X4_pull : (parseMethodDescriptor kX4_pull.1.desc).map (fun d => d.parameters.length) = some 1 := by decide +kernel
theorem v_X4_plugIn : xvok kX4_plugIn := ⟨wcode_X4_plugIn, wini_RX4, by decide +kernel, by decide +kernel⟩
theorem n_X4_plugIn : (parseMethodDescriptor kX4_plugIn.1.desc).map (fun d => d.parameters.length) = some 1 := by decide +kernel
theorem v_X4_tick : xvok kX4_tick := ⟨wcode_X4_tick, wini_RX4, by decide +kernel, by decide +kernel⟩
theorem n_X4_tick : (parseMethodDescriptor kX4_tick.1.desc).map (fun d => d.parameters.length) = some 0 := by decide +kernel
theorem v_X4_splice : xvok kX4_splice := ⟨wcode_X4_splice, wini_RX4, by decide +kernel, by decide +kernel⟩
theorem n_X4_splice : (parseMethodDescriptor kX4_splice.1.desc).map (fun d => d.parameters.length) = some 5 := by decide +kernel
theorem v_X4_dub : xvok kX4_dub := ⟨wcode_X4_dub, wini_RX4, by decide +kernel, by decide +kernel⟩
theorem n_X4_dub : (parseMethodDescriptor kX4_dub.1.desc).map (fun d => d.parameters.length) = some 3 := by decide +kernel
theorem v_X4_sum : xvok kX4_sum := ⟨wcode_X4_sum, wini_RX4, by decide +kernel, by decide +kernel⟩
theorem n_X4_sum : (parseMethodDescriptor kX4_sum.1.desc).map (fun d => d.parameters.length) = some 1 := by decide +kernel
theorem v_X4_match : xvok kX4_match := ⟨wcode_X4_match, wini_RX4, by decide +kernel, by decide +kernel⟩
theorem n_X4_match : (parseMethodDescriptor kX4_match.1.desc).map (fun d => d.parameters.length) = some 2 := by decide +kernel
theorem v_X4_why : xvok kX4_why := ⟨wcode_X4_why, wini_RX4, by decide +kernel, by decide +kernel⟩
theorem n_X4_why : (parseMethodDescriptor kX4_why.1.desc).map (fun d => d.parameters.length) = some 0 := by decide +kernel
theorem v_X4_number : xvok kX4_number := ⟨wcode_X4_number, wini_RX4, by decide +kernel, by decide +kernel⟩
theorem n_X4_number : (parseMethodDescriptor kX4_number.1.desc).map (fun d => d.parameters.length) = some 2 := by decide +kernel
theorem v_X4_kind : xvok kX4_kind := ⟨wcode_X4_kind, wini_RX4, by decide +kernel, by decide +kernel⟩
theorem n_X4_kind : (parseMethodDescriptor kX4_kind.1.desc).map (fun d => d.parameters.length) = some 2 := by decide +kernel
theorem v_X4_cells : xvok kX4_cells := ⟨wcode_X4_cells, wini_RX4, by decide +kernel, by decide +kernel⟩
theorem n_X4_cells : (parseMethodDescriptor kX4_cells.1.desc).map (fun d => d.parameters.length) = some 1 := by decide +kernel
theorem v_X4_of : xvok kX4_of := ⟨wcode_X4_of, wini_RX4, by decide +kernel, by decide +kernel⟩
theorem n_X4_of : (parseMethodDescriptor kX4_of.1.desc).map (fun d => d.parameters.length) = some 2 := by decide +kernel
theorem v_X4_told : xvok kX4_told := ⟨wcode_X4_told, wini_RX4, by decide +kernel, by decide +kernel⟩
theorem n_X4_told : (parseMethodDescriptor kX4_told.1.desc).map (fun d => d.parameters.length) = some 2 := by decide +kernel
theorem v_X4_fault : xvok kX4_fault := ⟨wcode_X4_fault, wini_RX4, by decide +kernel, by decide +kernel⟩
theorem n_X4_fault : (parseMethodDescriptor kX4_fault.1.desc).map (fun d => d.parameters.length) = some 2 := by decide +kernel
theorem v_X4_count : xvok kX4_count := ⟨wcode_X4_count, wini_RX4, by decide +kernel, by decide +kernel⟩
theorem n_X4_count : (parseMethodDescriptor kX4_count.1.desc).map (fun d => d.parameters.length) = some 1 := by decide +kernel
theorem v_X4_channelAt : xvok kX4_channelAt := ⟨wcode_X4_channelAt, wini_RX4, by decide +kernel, by decide +kernel⟩
theorem n_X4_channelAt : (parseMethodDescriptor kX4_channelAt.1.desc).map (fun d => d.parameters.length) = some 1 := by decide +kernel
theorem v_X4_cableAt : xvok kX4_cableAt := ⟨wcode_X4_cableAt, wini_RX4, by decide +kernel, by decide +kernel⟩
theorem n_X4_cableAt : (parseMethodDescriptor kX4_cableAt.1.desc).map (fun d => d.parameters.length) = some 1 := by decide +kernel
theorem v_X4_holdNoTape : xvok kX4_holdNoTape := ⟨wcode_X4_holdNoTape, wini_RX4, by decide +kernel, by decide +kernel⟩
theorem n_X4_holdNoTape : (parseMethodDescriptor kX4_holdNoTape.1.desc).map (fun d => d.parameters.length) = some 2 := by decide +kernel
theorem v_X4_isPlain : xvok kX4_isPlain := ⟨wcode_X4_isPlain, wini_RX4, by decide +kernel, by decide +kernel⟩
theorem n_X4_isPlain : (parseMethodDescriptor kX4_isPlain.1.desc).map (fun d => d.parameters.length) = some 1 := by decide +kernel
theorem v_X4_isTapeKind : xvok kX4_isTapeKind := ⟨wcode_X4_isTapeKind, wini_RX4, by decide +kernel, by decide +kernel⟩
theorem n_X4_isTapeKind : (parseMethodDescriptor kX4_isTapeKind.1.desc).map (fun d => d.parameters.length) = some 1 := by decide +kernel
theorem v_X4_takes : xvok kX4_takes := ⟨wcode_X4_takes, wini_RX4, by decide +kernel, by decide +kernel⟩
theorem n_X4_takes : (parseMethodDescriptor kX4_takes.1.desc).map (fun d => d.parameters.length) = some 2 := by decide +kernel
theorem v_X4_fitted : xvok kX4_fitted := ⟨wcode_X4_fitted, wini_RX4, by decide +kernel, by decide +kernel⟩
theorem n_X4_fitted : (parseMethodDescriptor kX4_fitted.1.desc).map (fun d => d.parameters.length) = some 2 := by decide +kernel
theorem v_X4_meet : xvok kX4_meet := ⟨wcode_X4_meet, wini_RX4, by decide +kernel, by decide +kernel⟩
theorem n_X4_meet : (parseMethodDescriptor kX4_meet.1.desc).map (fun d => d.parameters.length) = some 1 := by decide +kernel
theorem v_X4_timesMet : xvok kX4_timesMet := ⟨wcode_X4_timesMet, wini_RX4, by decide +kernel, by decide +kernel⟩
theorem n_X4_timesMet : (parseMethodDescriptor kX4_timesMet.1.desc).map (fun d => d.parameters.length) = some 1 := by decide +kernel
theorem v_X4_note : xvok kX4_note := ⟨wcode_X4_note, wini_RX4, by decide +kernel, by decide +kernel⟩
theorem n_X4_note : (parseMethodDescriptor kX4_note.1.desc).map (fun d => d.parameters.length) = some 1 := by decide +kernel
theorem v_X4_answer : xvok kX4_answer := ⟨wcode_X4_answer, wini_RX4, by decide +kernel, by decide +kernel⟩
theorem n_X4_answer : (parseMethodDescriptor kX4_answer.1.desc).map (fun d => d.parameters.length) = some 2 := by decide +kernel
theorem v_X4_noteFault : xvok kX4_noteFault := ⟨wcode_X4_noteFault, wini_RX4, by decide +kernel, by decide +kernel⟩
theorem n_X4_noteFault : (parseMethodDescriptor kX4_noteFault.1.desc).map (fun d => d.parameters.length) = some 2 := by decide +kernel
theorem v_X4_keepBooks : xvok kX4_keepBooks := ⟨wcode_X4_keepBooks, wini_RX4, by decide +kernel, by decide +kernel⟩
theorem n_X4_keepBooks : (parseMethodDescriptor kX4_keepBooks.1.desc).map (fun d => d.parameters.length) = some 2 := by decide +kernel
theorem v_X4_carry : xvok kX4_carry := ⟨wcode_X4_carry, wini_RX4, by decide +kernel, by decide +kernel⟩
theorem n_X4_carry : (parseMethodDescriptor kX4_carry.1.desc).map (fun d => d.parameters.length) = some 1 := by decide +kernel
theorem v_X4_wire : xvok kX4_wire := ⟨wcode_X4_wire, wini_RX4, by decide +kernel, by decide +kernel⟩
theorem n_X4_wire : (parseMethodDescriptor kX4_wire.1.desc).map (fun d => d.parameters.length) = some 4 := by decide +kernel
theorem v_X4_gate : xvok kX4_gate := ⟨wcode_X4_gate, wini_RX4, by decide +kernel, by decide +kernel⟩
theorem n_X4_gate : (parseMethodDescriptor kX4_gate.1.desc).map (fun d => d.parameters.length) = some 4 := by decide +kernel
theorem v_X4_pair : xvok kX4_pair := ⟨wcode_X4_pair, wini_RX4, by decide +kernel, by decide +kernel⟩
theorem n_X4_pair : (parseMethodDescriptor kX4_pair.1.desc).map (fun d => d.parameters.length) = some 4 := by decide +kernel
theorem v_X4_swap : xvok kX4_swap := ⟨wcode_X4_swap, wini_RX4, by decide +kernel, by decide +kernel⟩
theorem n_X4_swap : (parseMethodDescriptor kX4_swap.1.desc).map (fun d => d.parameters.length) = some 4 := by decide +kernel
theorem v_X4_move : xvok kX4_move := ⟨wcode_X4_move, wini_RX4, by decide +kernel, by decide +kernel⟩
theorem n_X4_move : (parseMethodDescriptor kX4_move.1.desc).map (fun d => d.parameters.length) = some 1 := by decide +kernel
theorem v_X5_init : xvok kX5_init := ⟨wcode_X5_init, wini_RX5, by decide +kernel, by decide +kernel⟩
theorem n_X5_init : (parseMethodDescriptor kX5_init.1.desc).map (fun d => d.parameters.length) = some 0 := by decide +kernel
theorem v_X5_isIn : xvok kX5_isIn := ⟨wcode_X5_isIn, wini_RX5, by decide +kernel, by decide +kernel⟩
theorem n_X5_isIn : (parseMethodDescriptor kX5_isIn.1.desc).map (fun d => d.parameters.length) = some 3 := by decide +kernel
theorem v_X5_isChannel : xvok kX5_isChannel := ⟨wcode_X5_isChannel, wini_RX5, by decide +kernel, by decide +kernel⟩
theorem n_X5_isChannel : (parseMethodDescriptor kX5_isChannel.1.desc).map (fun d => d.parameters.length) = some 1 := by decide +kernel
theorem v_X5_isCable : xvok kX5_isCable := ⟨wcode_X5_isCable, wini_RX5, by decide +kernel, by decide +kernel⟩
theorem n_X5_isCable : (parseMethodDescriptor kX5_isCable.1.desc).map (fun d => d.parameters.length) = some 1 := by decide +kernel
theorem v_X5_met : xvok kX5_met := ⟨wcode_X5_met, wini_RX5, by decide +kernel, by decide +kernel⟩
theorem n_X5_met : (parseMethodDescriptor kX5_met.1.desc).map (fun d => d.parameters.length) = some 1 := by decide +kernel
theorem v_X5_sort : xvok kX5_sort := ⟨wcode_X5_sort, wini_RX5, by decide +kernel, by decide +kernel⟩
theorem n_X5_sort : (parseMethodDescriptor kX5_sort.1.desc).map (fun d => d.parameters.length) = some 1 := by decide +kernel
theorem v_X5_freeTape : xvok kX5_freeTape := ⟨wcode_X5_freeTape, wini_RX5, by decide +kernel, by decide +kernel⟩
theorem n_X5_freeTape : (parseMethodDescriptor kX5_freeTape.1.desc).map (fun d => d.parameters.length) = some 0 := by decide +kernel
theorem v_X5_newTape : xvok kX5_newTape := ⟨wcode_X5_newTape, wini_RX5, by decide +kernel, by decide +kernel⟩
theorem n_X5_newTape : (parseMethodDescriptor kX5_newTape.1.desc).map (fun d => d.parameters.length) = some 2 := by decide +kernel
theorem v_X5_nearest : xvok kX5_nearest := ⟨wcode_X5_nearest, wini_RX5, by decide +kernel, by decide +kernel⟩
theorem n_X5_nearest : (parseMethodDescriptor kX5_nearest.1.desc).map (fun d => d.parameters.length) = some 2 := by decide +kernel
theorem v_X5_made : xvok kX5_made := ⟨wcode_X5_made, wini_RX5, by decide +kernel, by decide +kernel⟩
theorem n_X5_made : (parseMethodDescriptor kX5_made.1.desc).map (fun d => d.parameters.length) = some 2 := by decide +kernel
theorem v_X5_takes : xvok kX5_takes := ⟨wcode_X5_takes, wini_RX5, by decide +kernel, by decide +kernel⟩
theorem n_X5_takes : (parseMethodDescriptor kX5_takes.1.desc).map (fun d => d.parameters.length) = some 2 := by decide +kernel
theorem v_X5_cellKind : xvok kX5_cellKind := ⟨wcode_X5_cellKind, wini_RX5, by decide +kernel, by decide +kernel⟩
theorem n_X5_cellKind : (parseMethodDescriptor kX5_cellKind.1.desc).map (fun d => d.parameters.length) = some 2 := by decide +kernel
theorem v_X5_numberOf : xvok kX5_numberOf := ⟨wcode_X5_numberOf, wini_RX5, by decide +kernel, by decide +kernel⟩
theorem n_X5_numberOf : (parseMethodDescriptor kX5_numberOf.1.desc).map (fun d => d.parameters.length) = some 2 := by decide +kernel
theorem v_X5_kept : xvok kX5_kept := ⟨wcode_X5_kept, wini_RX5, by decide +kernel, by decide +kernel⟩
theorem n_X5_kept : (parseMethodDescriptor kX5_kept.1.desc).map (fun d => d.parameters.length) = some 2 := by decide +kernel
theorem v_X5_noTape : xvok kX5_noTape := ⟨wcode_X5_noTape, wini_RX5, by decide +kernel, by decide +kernel⟩
theorem n_X5_noTape : (parseMethodDescriptor kX5_noTape.1.desc).map (fun d => d.parameters.length) = some 1 := by decide +kernel
theorem v_X5_noPlace : xvok kX5_noPlace := ⟨wcode_X5_noPlace, wini_RX5, by decide +kernel, by decide +kernel⟩
theorem n_X5_noPlace : (parseMethodDescriptor kX5_noPlace.1.desc).map (fun d => d.parameters.length) = some 2 := by decide +kernel
theorem v_X5_kindOf : xvok kX5_kindOf := ⟨wcode_X5_kindOf, wini_RX5, by decide +kernel, by decide +kernel⟩
theorem n_X5_kindOf : (parseMethodDescriptor kX5_kindOf.1.desc).map (fun d => d.parameters.length) = some 1 := by decide +kernel
theorem v_X5_at : xvok kX5_at := ⟨wcode_X5_at, wini_RX5, by decide +kernel, by decide +kernel⟩
theorem n_X5_at : (parseMethodDescriptor kX5_at.1.desc).map (fun d => d.parameters.length) = some 2 := by decide +kernel
theorem v_X5_noTake : xvok kX5_noTake := ⟨wcode_X5_noTake, wini_RX5, by decide +kernel, by decide +kernel⟩
theorem n_X5_noTake : (parseMethodDescriptor kX5_noTake.1.desc).map (fun d => d.parameters.length) = some 2 := by decide +kernel
theorem v_X5_noWrite : xvok kX5_noWrite := ⟨wcode_X5_noWrite, wini_RX5, by decide +kernel, by decide +kernel⟩
theorem n_X5_noWrite : (parseMethodDescriptor kX5_noWrite.1.desc).map (fun d => d.parameters.length) = some 3 := by decide +kernel
theorem v_X5_writes : xvok kX5_writes := ⟨wcode_X5_writes, wini_RX5, by decide +kernel, by decide +kernel⟩
theorem n_X5_writes : (parseMethodDescriptor kX5_writes.1.desc).map (fun d => d.parameters.length) = some 4 := by decide +kernel
theorem v_X5_passes : xvok kX5_passes := ⟨wcode_X5_passes, wini_RX5, by decide +kernel, by decide +kernel⟩
theorem n_X5_passes : (parseMethodDescriptor kX5_passes.1.desc).map (fun d => d.parameters.length) = some 4 := by decide +kernel
theorem v_X5_tape : xvok kX5_tape := ⟨wcode_X5_tape, wini_RX5, by decide +kernel, by decide +kernel⟩
theorem n_X5_tape : (parseMethodDescriptor kX5_tape.1.desc).map (fun d => d.parameters.length) = some 3 := by decide +kernel
theorem v_X5_plug : xvok kX5_plug := ⟨wcode_X5_plug, wini_RX5, by decide +kernel, by decide +kernel⟩
theorem n_X5_plug : (parseMethodDescriptor kX5_plug.1.desc).map (fun d => d.parameters.length) = some 1 := by decide +kernel
theorem v_X5_strip : xvok kX5_strip := ⟨wcode_X5_strip, wini_RX5, by decide +kernel, by decide +kernel⟩
theorem n_X5_strip : (parseMethodDescriptor kX5_strip.1.desc).map (fun d => d.parameters.length) = some 1 := by decide +kernel
theorem v_X5_share : xvok kX5_share := ⟨wcode_X5_share, wini_RX5, by decide +kernel, by decide +kernel⟩
theorem n_X5_share : (parseMethodDescriptor kX5_share.1.desc).map (fun d => d.parameters.length) = some 2 := by decide +kernel
theorem v_X5_head : xvok kX5_head := ⟨wcode_X5_head, wini_RX5, by decide +kernel, by decide +kernel⟩
theorem n_X5_head : (parseMethodDescriptor kX5_head.1.desc).map (fun d => d.parameters.length) = some 2 := by decide +kernel
theorem v_X5_step : xvok kX5_step := ⟨wcode_X5_step, wini_RX5, by decide +kernel, by decide +kernel⟩
theorem n_X5_step : (parseMethodDescriptor kX5_step.1.desc).map (fun d => d.parameters.length) = some 2 := by decide +kernel
theorem v_X5_loop : xvok kX5_loop := ⟨wcode_X5_loop, wini_RX5, by decide +kernel, by decide +kernel⟩
theorem n_X5_loop : (parseMethodDescriptor kX5_loop.1.desc).map (fun d => d.parameters.length) = some 2 := by decide +kernel
theorem v_X5_noPlain : xvok kX5_noPlain := ⟨wcode_X5_noPlain, wini_RX5, by decide +kernel, by decide +kernel⟩
theorem n_X5_noPlain : (parseMethodDescriptor kX5_noPlain.1.desc).map (fun d => d.parameters.length) = some 2 := by decide +kernel
theorem v_X5_stamp : xvok kX5_stamp := ⟨wcode_X5_stamp, wini_RX5, by decide +kernel, by decide +kernel⟩
theorem n_X5_stamp : (parseMethodDescriptor kX5_stamp.1.desc).map (fun d => d.parameters.length) = some 4 := by decide +kernel
theorem v_X5_probe : xvok kX5_probe := ⟨wcode_X5_probe, wini_RX5, by decide +kernel, by decide +kernel⟩
theorem n_X5_probe : (parseMethodDescriptor kX5_probe.1.desc).map (fun d => d.parameters.length) = some 3 := by decide +kernel
theorem v_X5_tag : xvok kX5_tag := ⟨wcode_X5_tag, wini_RX5, by decide +kernel, by decide +kernel⟩
theorem n_X5_tag : (parseMethodDescriptor kX5_tag.1.desc).map (fun d => d.parameters.length) = some 3 := by decide +kernel
theorem v_X5_rack : xvok kX5_rack := ⟨wcode_X5_rack, wini_RX5, by decide +kernel, by decide +kernel⟩
theorem n_X5_rack : (parseMethodDescriptor kX5_rack.1.desc).map (fun d => d.parameters.length) = some 3 := by decide +kernel
theorem v_X5_unrack : xvok kX5_unrack := ⟨wcode_X5_unrack, wini_RX5, by decide +kernel, by decide +kernel⟩
theorem n_X5_unrack : (parseMethodDescriptor kX5_unrack.1.desc).map (fun d => d.parameters.length) = some 3 := by decide +kernel
theorem v_X5_cable : xvok kX5_cable := ⟨wcode_X5_cable, wini_RX5, by decide +kernel, by decide +kernel⟩
theorem n_X5_cable : (parseMethodDescriptor kX5_cable.1.desc).map (fun d => d.parameters.length) = some 3 := by decide +kernel
theorem v_X5_patience : xvok kX5_patience := ⟨wcode_X5_patience, wini_RX5, by decide +kernel, by decide +kernel⟩
theorem n_X5_patience : (parseMethodDescriptor kX5_patience.1.desc).map (fun d => d.parameters.length) = some 2 := by decide +kernel
theorem v_X5_pull : xvok kX5_pull := ⟨wcode_X5_pull, wini_RX5, by decide +kernel, by decide +kernel⟩
theorem n_X5_pull : (parseMethodDescriptor kX5_pull.1.desc).map (fun d => d.parameters.length) = some 1 := by decide +kernel
theorem v_X5_plugIn : xvok kX5_plugIn := ⟨wcode_X5_plugIn, wini_RX5, by decide +kernel, by decide +kernel⟩
theorem n_X5_plugIn : (parseMethodDescriptor kX5_plugIn.1.desc).map (fun d => d.parameters.length) = some 1 := by decide +kernel
theorem v_X5_changes : xvok kX5_changes := ⟨wcode_X5_changes, wini_RX5, by decide +kernel, by decide +kernel⟩
theorem n_X5_changes : (parseMethodDescriptor kX5_changes.1.desc).map (fun d => d.parameters.length) = some 4 := by decide +kernel
theorem v_X5_carries : xvok kX5_carries := ⟨wcode_X5_carries, wini_RX5, by decide +kernel, by decide +kernel⟩
theorem n_X5_carries : (parseMethodDescriptor kX5_carries.1.desc).map (fun d => d.parameters.length) = some 1 := by decide +kernel
theorem v_X5_fails : xvok kX5_fails := ⟨wcode_X5_fails, wini_RX5, by decide +kernel, by decide +kernel⟩
theorem n_X5_fails : (parseMethodDescriptor kX5_fails.1.desc).map (fun d => d.parameters.length) = some 2 := by decide +kernel
theorem v_X5_moves : xvok kX5_moves := ⟨wcode_X5_moves, wini_RX5, by decide +kernel, by decide +kernel⟩
theorem n_X5_moves : (parseMethodDescriptor kX5_moves.1.desc).map (fun d => d.parameters.length) = some 1 := by decide +kernel
theorem v_X5_tick : xvok kX5_tick := ⟨wcode_X5_tick, wini_RX5, by decide +kernel, by decide +kernel⟩
theorem n_X5_tick : (parseMethodDescriptor kX5_tick.1.desc).map (fun d => d.parameters.length) = some 0 := by decide +kernel
theorem v_X5_splice : xvok kX5_splice := ⟨wcode_X5_splice, wini_RX5, by decide +kernel, by decide +kernel⟩
theorem n_X5_splice : (parseMethodDescriptor kX5_splice.1.desc).map (fun d => d.parameters.length) = some 5 := by decide +kernel
theorem v_X5_dub : xvok kX5_dub := ⟨wcode_X5_dub, wini_RX5, by decide +kernel, by decide +kernel⟩
theorem n_X5_dub : (parseMethodDescriptor kX5_dub.1.desc).map (fun d => d.parameters.length) = some 3 := by decide +kernel
theorem v_X5_sum : xvok kX5_sum := ⟨wcode_X5_sum, wini_RX5, by decide +kernel, by decide +kernel⟩
theorem n_X5_sum : (parseMethodDescriptor kX5_sum.1.desc).map (fun d => d.parameters.length) = some 1 := by decide +kernel
theorem v_X5_match : xvok kX5_match := ⟨wcode_X5_match, wini_RX5, by decide +kernel, by decide +kernel⟩
theorem n_X5_match : (parseMethodDescriptor kX5_match.1.desc).map (fun d => d.parameters.length) = some 2 := by decide +kernel
theorem v_X5_why : xvok kX5_why := ⟨wcode_X5_why, wini_RX5, by decide +kernel, by decide +kernel⟩
theorem n_X5_why : (parseMethodDescriptor kX5_why.1.desc).map (fun d => d.parameters.length) = some 0 := by decide +kernel
theorem v_X5_number : xvok kX5_number := ⟨wcode_X5_number, wini_RX5, by decide +kernel, by decide +kernel⟩
theorem n_X5_number : (parseMethodDescriptor kX5_number.1.desc).map (fun d => d.parameters.length) = some 2 := by decide +kernel
theorem v_X5_kind : xvok kX5_kind := ⟨wcode_X5_kind, wini_RX5, by decide +kernel, by decide +kernel⟩
theorem n_X5_kind : (parseMethodDescriptor kX5_kind.1.desc).map (fun d => d.parameters.length) = some 2 := by decide +kernel
theorem v_X5_cells : xvok kX5_cells := ⟨wcode_X5_cells, wini_RX5, by decide +kernel, by decide +kernel⟩
theorem n_X5_cells : (parseMethodDescriptor kX5_cells.1.desc).map (fun d => d.parameters.length) = some 1 := by decide +kernel
theorem v_X5_of : xvok kX5_of := ⟨wcode_X5_of, wini_RX5, by decide +kernel, by decide +kernel⟩
theorem n_X5_of : (parseMethodDescriptor kX5_of.1.desc).map (fun d => d.parameters.length) = some 2 := by decide +kernel
theorem v_X5_told : xvok kX5_told := ⟨wcode_X5_told, wini_RX5, by decide +kernel, by decide +kernel⟩
theorem n_X5_told : (parseMethodDescriptor kX5_told.1.desc).map (fun d => d.parameters.length) = some 2 := by decide +kernel
theorem v_X5_fault : xvok kX5_fault := ⟨wcode_X5_fault, wini_RX5, by decide +kernel, by decide +kernel⟩
theorem n_X5_fault : (parseMethodDescriptor kX5_fault.1.desc).map (fun d => d.parameters.length) = some 2 := by decide +kernel
theorem v_X5_count : xvok kX5_count := ⟨wcode_X5_count, wini_RX5, by decide +kernel, by decide +kernel⟩
theorem n_X5_count : (parseMethodDescriptor kX5_count.1.desc).map (fun d => d.parameters.length) = some 1 := by decide +kernel
theorem v_J9_floorMod_7cf53 : xvok kJ9_floorMod_7cf53 := ⟨wcode_J9_floorMod_7cf53, wini_RJ9, by decide +kernel, by decide +kernel⟩
theorem n_J9_floorMod_7cf53 : (parseMethodDescriptor kJ9_floorMod_7cf53.1.desc).map (fun d => d.parameters.length) = some 2 := by decide +kernel
theorem v_J9_min_7cf53 : xvok kJ9_min_7cf53 := ⟨wcode_J9_min_7cf53, wini_RJ9, by decide +kernel, by decide +kernel⟩
theorem n_J9_min_7cf53 : (parseMethodDescriptor kJ9_min_7cf53.1.desc).map (fun d => d.parameters.length) = some 2 := by decide +kernel
