/-! ===== the kinds of objects, their fields in an order of my own; the methods that a first call reaches, block by block (printed by wip/p1/gen02.py out of javap's listing) ===== -/
def kd_0 : u_T := fun k => match k with
  | 0 => ("RegisterColours", "taped", "I", false)
  | 1 => ("RegisterColours", "told", "LRegisterColours$Told;", true)
  | 2 => ("RegisterColours", "drawnIsFresh", "Z", false)
  | 3 => ("RegisterColours", "drawn", "LRegisterColours$Graph;", true)
  | 4 => ("RegisterColours", "tape", "[B", true)
  | 5 => ("RegisterColours", "latestRun", "I", false)
  | 6 => ("RegisterColours", "reader", "LRegisterColours$Reader;", true)
  | 7 => ("RegisterColours", "runner", "LRegisterColours$Runner;", true)
  | 8 => ("RegisterColours", "classes", "[I", true)
  | 9 => ("RegisterColours", "allocator", "LRegisterColours$Allocator;", false)
  | 10 => ("RegisterColours", "kept", "LRegisterColours$Told;", false)
  | _ => ("RegisterColours", "prover", "LRegisterColours$Prover;", false)
def kd_1 : u_T := fun k => match k with
  | 0 => ("RegisterColours$Allocator", "draft", "LRegisterColours$Left;", true)
  | 1 => ("RegisterColours$Allocator", "merger", "LRegisterColours$Merger;", true)
  | 2 => ("RegisterColours$Allocator", "colourer", "LRegisterColours$Colourer;", true)
  | 3 => ("RegisterColours$Allocator", "graph", "LRegisterColours$Graph;", true)
  | _ => ("RegisterColours$Allocator", "spiller", "LRegisterColours$Spiller;", true)
def kd_2 : u_T := fun k => match k with
  | 0 => ("RegisterColours$Colourer", "graph", "LRegisterColours$Graph;", true)
  | 1 => ("RegisterColours$Colourer", "register", "[I", true)
  | 2 => ("RegisterColours$Colourer", "isSpilled", "[Z", true)
  | 3 => ("RegisterColours$Colourer", "remaining", "[J", true)
  | 4 => ("RegisterColours$Colourer", "spilled", "I", false)
  | 5 => ("RegisterColours$Colourer", "saved", "I", false)
  | 6 => ("RegisterColours$Colourer", "takenCount", "I", false)
  | 7 => ("RegisterColours$Colourer", "taken", "[I", true)
  | 8 => ("RegisterColours$Colourer", "takenHeavy", "[Z", true)
  | _ => ("RegisterColours$Colourer", "degree", "[I", true)
def kd_3 : u_T := fun k => match k with
  | 0 => ("RegisterColours$Graph", "words", "I", true)
  | 1 => ("RegisterColours$Graph", "edges", "[J", true)
  | 2 => ("RegisterColours$Graph", "values", "I", false)
  | 3 => ("RegisterColours$Graph", "k", "I", false)
  | 4 => ("RegisterColours$Graph", "classes", "[I", true)
  | 5 => ("RegisterColours$Graph", "inUse", "I", false)
  | 6 => ("RegisterColours$Graph", "there", "[J", true)
  | 7 => ("RegisterColours$Graph", "pairs", "[J", true)
  | 8 => ("RegisterColours$Graph", "ofB", "[J", true)
  | 9 => ("RegisterColours$Graph", "steps", "LRegisterColours$Steps;", true)
  | 10 => ("RegisterColours$Graph", "m", "I", false)
  | 11 => ("RegisterColours$Graph", "cost", "[I", true)
  | 12 => ("RegisterColours$Graph", "live", "[J", true)
  | 13 => ("RegisterColours$Graph", "clobbered", "I", false)
  | 14 => ("RegisterColours$Graph", "behind", "[J", true)
  | 15 => ("RegisterColours$Graph", "fresh", "[J", true)
  | 16 => ("RegisterColours$Graph", "beginsLoop", "[Z", true)
  | _ => ("RegisterColours$Graph", "weight", "[I", true)
def kd_4 : u_T := fun k => match k with
  | 0 => ("RegisterColours$Left", "register", "[I", true)
  | 1 => ("RegisterColours$Left", "node", "[I", true)
  | 2 => ("RegisterColours$Left", "steps", "LRegisterColours$Steps;", true)
  | 3 => ("RegisterColours$Left", "saved", "I", false)
  | 4 => ("RegisterColours$Left", "classes", "[I", true)
  | 5 => ("RegisterColours$Left", "values", "I", false)
  | 6 => ("RegisterColours$Left", "rounds", "I", false)
  | 7 => ("RegisterColours$Left", "merged", "I", false)
  | 8 => ("RegisterColours$Left", "fate", "[I", true)
  | 9 => ("RegisterColours$Left", "slots", "I", false)
  | 10 => ("RegisterColours$Left", "spilled", "I", false)
  | 11 => ("RegisterColours$Left", "anew", "I", false)
  | _ => ("RegisterColours$Left", "spilledCost", "I", false)
def kd_5 : u_T := fun k => match k with
  | 0 => ("RegisterColours$Merger", "nodeOf", "[I", true)
  | 1 => ("RegisterColours$Merger", "graph", "LRegisterColours$Graph;", true)
  | 2 => ("RegisterColours$Merger", "steps", "LRegisterColours$Steps;", true)
  | 3 => ("RegisterColours$Merger", "merged", "I", false)
  | 4 => ("RegisterColours$Merger", "moveCount", "I", false)
  | _ => ("RegisterColours$Merger", "moves", "[I", true)
def kd_6 : u_T := fun k => match k with
  | 0 => ("RegisterColours$Reader", "lines", "I", false)
  | 1 => ("RegisterColours$Reader", "fault", "I", false)
  | 2 => ("RegisterColours$Reader", "steps", "LRegisterColours$Steps;", true)
  | 3 => ("RegisterColours$Reader", "faultPlace", "I", false)
  | 4 => ("RegisterColours$Reader", "tokens", "[I", true)
  | 5 => ("RegisterColours$Reader", "at", "I", false)
  | 6 => ("RegisterColours$Reader", "places", "[I", true)
  | 7 => ("RegisterColours$Reader", "firstStep", "[I", true)
  | 8 => ("RegisterColours$Reader", "text", "[B", true)
  | 9 => ("RegisterColours$Reader", "numbers", "[I", true)
  | _ => ("RegisterColours$Reader", "jumpPlace", "[I", true)
def kd_7 : u_T := fun k => match k with
  | 0 => ("RegisterColours$Runner", "steps", "LRegisterColours$Steps;", false)
  | 1 => ("RegisterColours$Runner", "atEnd", "Z", false)
  | 2 => ("RegisterColours$Runner", "done", "I", false)
  | 3 => ("RegisterColours$Runner", "outs", "I", false)
  | 4 => ("RegisterColours$Runner", "outNumber", "I", false)
  | 5 => ("RegisterColours$Runner", "held", "[J", true)
  | 6 => ("RegisterColours$Runner", "registers", "[I", true)
  | 7 => ("RegisterColours$Runner", "slots", "[J", true)
  | 8 => ("RegisterColours$Runner", "told", "LRegisterColours$Told;", true)
  | 9 => ("RegisterColours$Runner", "codeClasses", "[I", true)
  | 10 => ("RegisterColours$Runner", "byRegisters", "Z", false)
  | 11 => ("RegisterColours$Runner", "classes", "[I", false)
  | _ => ("RegisterColours$Runner", "nextInput", "I", false)
def kd_8 : u_T := fun k => match k with
  | 0 => ("RegisterColours$Spiller", "fate", "[I", true)
  | 1 => ("RegisterColours$Spiller", "fateNumber", "[I", true)
  | 2 => ("RegisterColours$Spiller", "firstNew", "[I", true)
  | 3 => ("RegisterColours$Spiller", "next", "LRegisterColours$Steps;", true)
  | 4 => ("RegisterColours$Spiller", "draft", "LRegisterColours$Left;", true)
  | 5 => ("RegisterColours$Spiller", "steps", "LRegisterColours$Steps;", true)
  | _ => ("RegisterColours$Spiller", "nodeOf", "[I", true)
def kd_9 : u_T := fun k => match k with
  | 0 => ("RegisterColours$Steps", "count", "I", false)
  | 1 => ("RegisterColours$Steps", "kind", "[I", true)
  | 2 => ("RegisterColours$Steps", "made", "[I", true)
  | 3 => ("RegisterColours$Steps", "one", "[I", true)
  | 4 => ("RegisterColours$Steps", "two", "[I", true)
  | _ => ("RegisterColours$Steps", "number", "[I", true)
def kd_10 : u_T := fun k => match k with
  | 0 => ("RegisterColours$Told", "painted", "[I", true)
  | 1 => ("RegisterColours$Told", "clobbered", "I", false)
  | 2 => ("RegisterColours$Told", "k", "I", false)
  | 3 => ("RegisterColours$Told", "allocated", "Z", false)
  | 4 => ("RegisterColours$Told", "m", "I", false)
  | 5 => ("RegisterColours$Told", "code", "LRegisterColours$Steps;", true)
  | 6 => ("RegisterColours$Told", "inputs", "I", false)
  | 7 => ("RegisterColours$Told", "lines", "I", false)
  | 8 => ("RegisterColours$Told", "input", "[I", true)
  | _ => ("RegisterColours$Told", "left", "LRegisterColours$Left;", true)
def kd_11 : u_T := fun k => match k with
  | 0 => ("RegisterColoursModel", "isIn", "[Z", true)
  | 1 => ("RegisterColoursModel", "imaged", "I", false)
  | 2 => ("RegisterColoursModel", "isThere", "[Z", true)
  | 3 => ("RegisterColoursModel", "edges", "[I", true)
  | 4 => ("RegisterColoursModel", "registers", "I", false)
  | 5 => ("RegisterColoursModel", "images", "[I", true)
  | 6 => ("RegisterColoursModel", "isTaking", "Z", false)
  | 7 => ("RegisterColoursModel", "nodeOf", "[I", true)
  | 8 => ("RegisterColoursModel", "costs", "[I", true)
  | 9 => ("RegisterColoursModel", "everSpilled", "[I", true)
  | 10 => ("RegisterColoursModel", "painted", "[I", true)
  | 11 => ("RegisterColoursModel", "madeClass", "[I", true)
  | 12 => ("RegisterColoursModel", "colours", "[I", true)
  | 13 => ("RegisterColoursModel", "leftClass", "[I", true)
  | 14 => ("RegisterColoursModel", "leftColour", "[I", true)
  | 15 => ("RegisterColoursModel", "leftSpilled", "[I", true)
  | 16 => ("RegisterColoursModel", "leftNode", "[I", true)
  | 17 => ("RegisterColoursModel", "values", "[J", true)
  | 18 => ("RegisterColoursModel", "slots", "[J", true)
  | 19 => ("RegisterColoursModel", "many", "[I", true)
  | 20 => ("RegisterColoursModel", "taped", "I", false)
  | 21 => ("RegisterColoursModel", "tape", "[I", true)
  | 22 => ("RegisterColoursModel", "told", "I", false)
  | 23 => ("RegisterColoursModel", "lives", "[I", true)
  | 24 => ("RegisterColoursModel", "others", "I", false)
  | 25 => ("RegisterColoursModel", "isLeft", "Z", false)
  | 26 => ("RegisterColoursModel", "leftTold", "[I", true)
  | 27 => ("RegisterColoursModel", "clobbered", "I", false)
  | 28 => ("RegisterColoursModel", "inputMany", "I", false)
  | 29 => ("RegisterColoursModel", "holdsA", "[I", true)
  | 30 => ("RegisterColoursModel", "lineMany", "I", false)
  | 31 => ("RegisterColoursModel", "spot", "I", false)
  | 32 => ("RegisterColoursModel", "holdsB", "[I", true)
  | 33 => ("RegisterColoursModel", "token", "I", false)
  | 34 => ("RegisterColoursModel", "faultPlace", "I", false)
  | 35 => ("RegisterColoursModel", "readMany", "I", false)
  | 36 => ("RegisterColoursModel", "inputs", "[I", true)
  | 37 => ("RegisterColoursModel", "fewest", "I", false)
  | 38 => ("RegisterColoursModel", "steps", "[I", true)
  | 39 => ("RegisterColoursModel", "moveMany", "I", false)
  | 40 => ("RegisterColoursModel", "mergedMany", "I", false)
  | 41 => ("RegisterColoursModel", "laidMany", "I", false)
  | 42 => ("RegisterColoursModel", "luckyMany", "I", false)
  | 43 => ("RegisterColoursModel", "slotMany", "I", false)
  | 44 => ("RegisterColoursModel", "spilledMany", "I", false)
  | 45 => ("RegisterColoursModel", "anewMany", "I", false)
  | 46 => ("RegisterColoursModel", "spilledCost", "I", false)
  | 47 => ("RegisterColoursModel", "faultKind", "I", false)
  | 48 => ("RegisterColoursModel", "lineRow", "[I", true)
  | 49 => ("RegisterColoursModel", "stepOfLine", "[I", true)
  | 50 => ("RegisterColoursModel", "outMany", "I", false)
  | 51 => ("RegisterColoursModel", "outSum", "I", false)
  | 52 => ("RegisterColoursModel", "doneMany", "I", false)
  | 53 => ("RegisterColoursModel", "hasImage", "Z", false)
  | 54 => ("RegisterColoursModel", "behind", "[I", true)
  | 55 => ("RegisterColoursModel", "moves", "[I", true)
  | 56 => ("RegisterColoursModel", "laid", "[I", true)
  | 57 => ("RegisterColoursModel", "wasHeavy", "[Z", true)
  | 58 => ("RegisterColoursModel", "spills", "[I", true)
  | 59 => ("RegisterColoursModel", "spillNumber", "[I", true)
  | 60 => ("RegisterColoursModel", "valueMany", "I", false)
  | 61 => ("RegisterColoursModel", "firstOf", "[I", true)
  | 62 => ("RegisterColoursModel", "from", "I", false)
  | 63 => ("RegisterColoursModel", "words", "[I", true)
  | 64 => ("RegisterColoursModel", "draftRow", "[I", true)
  | 65 => ("RegisterColoursModel", "taken", "I", false)
  | 66 => ("RegisterColoursModel", "held", "[I", true)
  | 67 => ("RegisterColoursModel", "heldThen", "[I", true)
  | 68 => ("RegisterColoursModel", "isReached", "[Z", true)
  | 69 => ("RegisterColoursModel", "isTooMuch", "Z", false)
  | 70 => ("RegisterColoursModel", "value", "I", false)
  | 71 => ("RegisterColoursModel", "readFault", "I", false)
  | _ => ("RegisterColoursModel", "readPlace", "I", false)
abbrev ev_cl : List vw_C := [("RegisterColours", kd_0, 12), ("RegisterColours$Allocator", kd_1, 5), ("RegisterColours$Colourer", kd_2, 10), ("RegisterColours$Graph", kd_3, 18), ("RegisterColours$Left", kd_4, 13), ("RegisterColours$Merger", kd_5, 6), ("RegisterColours$Reader", kd_6, 11), ("RegisterColours$Runner", kd_7, 13), ("RegisterColours$Spiller", kd_8, 7), ("RegisterColours$Steps", kd_9, 6), ("RegisterColours$Told", kd_10, 10), ("RegisterColoursModel", kd_11, 73)]
/-- RegisterColoursModel.isFixed(I)Z -/
noncomputable def mt_0 : ev_M := ([(0, [ei_li 1, ei_la 0, ei_gf (11, 4, 7, 0), ei_ic ((false, true, true), 2), ei_pu (.inl 1, 0, 0), ei_go 1]),
  (13, [ei_re 0]),
  (12, [ei_pu (.inl 0, 0, 0), ei_fa 1])], 0, 0, 0, 2, ⟨"RegisterColoursModel", "isFixed", "(I)Z"⟩, prog_14_method_29_code, some .boolean)
/-- RegisterColours.asNumber(Z)I -/
noncomputable def mt_1 : ev_M := ([(0, [ei_li 0, ei_if ((false, true, false), 2), ei_pu (.inl 1, 0, 0), ei_go 1]),
  (9, [ei_re 0]),
  (8, [ei_pu (.inl 0, 0, 0), ei_fa 1])], 0, 0, 0, 1, ⟨"RegisterColours", "asNumber", "(Z)I"⟩, prog_1_method_25_code, some .int)
/-- RegisterColoursModel.empties([II)V -/
noncomputable def mt_2 : ev_M := ([(2, [ei_li 3, ei_pu (.inl 7, 1, 0), ei_ic ((false, true, true), 2), ei_la 1, ei_pu (.inl 7, 1, 0), ei_li 2, ei_ib 1, ei_li 3, ei_ib 0, ei_pu (.inl 0, 0, 0), ei_as 0, ei_ii (3, 1), ei_go 0]),
  (0, [ei_pu (.inl 0, 0, 0), ei_si 3, ei_fa 0]),
  (23, [ei_re 2])], 1, 0, 0, 4, ⟨"RegisterColoursModel", "empties", "([II)V"⟩, prog_14_method_9_code, none)
/-- RegisterColoursModel.has([III)Z -/
noncomputable def mt_3 : ev_M := ([(26, [ei_re 0]),
  (25, [ei_pu (.inl 0, 0, 0), ei_fa 0]),
  (0, [ei_la 1, ei_pu (.inl 7, 1, 0), ei_li 2, ei_ib 1, ei_li 3, ei_pu (.inl 5, 0, 0), ei_ib 2, ei_ib 0, ei_al 0, ei_li 3, ei_pu (.inl 31, 1, 0), ei_ib 3, ei_ib 2, ei_pu (.inl 1, 0, 0), ei_ib 3, ei_pu (.inl 1, 0, 0), ei_ic ((true, false, true), 1), ei_pu (.inl 1, 0, 0), ei_go 0])], 2, 0, 0, 4, ⟨"RegisterColoursModel", "has", "([III)Z"⟩, prog_14_method_6_code, some .boolean)
/-- RegisterColours.hasBit([JII)Z -/
noncomputable def mt_4 : ev_M := ([(25, [ei_re 0]),
  (24, [ei_pu (.inl 0, 0, 0), ei_fa 0]),
  (0, [ei_la 0, ei_li 1, ei_li 2, ei_pu (.inl 6, 1, 0), ei_ib 2, ei_ib 0, ei_al 1, ei_li 2, ei_pu (.inl 63, 1, 0), ei_ib 3, ei_ls 0, ei_pu (.inr (.inr (.inl 1)), 3, 0), ei_lb 0, ei_pu (.inr (.inr (.inl 0)), 3, 0), ei_lc, ei_if ((false, true, false), 1), ei_pu (.inl 1, 0, 0), ei_go 0])], 2, 0, 0, 3, ⟨"RegisterColours", "hasBit", "([JII)Z"⟩, prog_1_method_28_code, some .boolean)
/-- RegisterColours$Graph.hasEdge(II)Z -/
noncomputable def mt_5 : ev_M := ([(0, [ei_la 0, ei_gf (3, 1, 47, 0), ei_li 1, ei_la 0, ei_gf (3, 0, 40, 0), ei_ib 1, ei_li 2, ei_ca (4, 3, 0, 174, 4, 0, 0), ei_re 0])], 0, 0, 0, 3, ⟨"RegisterColours$Graph", "hasEdge", "(II)Z"⟩, prog_4_method_16_code, some .boolean)
/-- RegisterColours.putBit([JII)V -/
noncomputable def mt_6 : ev_M := ([(0, [ei_la 0, ei_li 1, ei_li 2, ei_pu (.inl 6, 1, 0), ei_ib 2, ei_ib 0, ei_st 1, ei_al 1, ei_pu (.inr (.inr (.inl 1)), 3, 0), ei_li 2, ei_pu (.inl 63, 1, 0), ei_ib 3, ei_ls 1, ei_lb 3, ei_as 1, ei_re 2])], 0, 0, 0, 3, ⟨"RegisterColours", "putBit", "([JII)V"⟩, prog_1_method_29_code, none)
/-- RegisterColours.classAtFirst(I)I -/
noncomputable def mt_7 : ev_M := ([(0, [ei_li 0, ei_pu (.inl 32, 1, 0), ei_ic ((false, true, true), 1), ei_pu (.inl 0, 0, 0), ei_re 0]),
  (8, [ei_li 0, ei_pu (.inl 40, 1, 0), ei_ic ((false, true, true), 3), ei_pu (.inl 1, 0, 0), ei_go 2]),
  (19, [ei_re 0]),
  (18, [ei_pu (.inl 2, 0, 0), ei_fa 2])], 0, 0, 0, 1, ⟨"RegisterColours", "classAtFirst", "(I)I"⟩, prog_1_method_27_code, some .int)
/-- RegisterColoursModel.puts([III)V -/
noncomputable def mt_8 : ev_M := ([(0, [ei_la 1, ei_pu (.inl 7, 1, 0), ei_li 2, ei_ib 1, ei_li 3, ei_pu (.inl 5, 0, 0), ei_ib 2, ei_ib 0, ei_la 1, ei_pu (.inl 7, 1, 0), ei_li 2, ei_ib 1, ei_li 3, ei_pu (.inl 5, 0, 0), ei_ib 2, ei_ib 0, ei_al 0, ei_pu (.inl 1, 0, 0), ei_li 3, ei_pu (.inl 31, 1, 0), ei_ib 3, ei_ib 6, ei_ib 5, ei_as 0, ei_re 2])], 0, 0, 0, 4, ⟨"RegisterColoursModel", "puts", "([III)V"⟩, prog_14_method_7_code, none)
/-- java/lang/Long.bitCount(J)I -/
noncomputable def mt_9 : ev_M := ([(0, [ei_ll 0, ei_ll 0, ei_pu (.inl 1, 0, 0), ei_ls 0, ei_pu (.inr (.inr (.inl 6148914691236517205)), 7, 314), ei_lb 0, ei_lb 2, ei_sl 0, ei_ll 0, ei_pu (.inr (.inr (.inl 3689348814741910323)), 7, 316), ei_lb 0, ei_ll 0, ei_pu (.inl 2, 0, 0), ei_ls 0, ei_pu (.inr (.inr (.inl 3689348814741910323)), 7, 316), ei_lb 0, ei_lb 1, ei_sl 0, ei_ll 0, ei_ll 0, ei_pu (.inl 4, 0, 0), ei_ls 0, ei_lb 1, ei_pu (.inr (.inr (.inl 1085102592571150095)), 7, 318), ei_lb 0, ei_sl 0, ei_ll 0, ei_ll 0, ei_pu (.inl 8, 1, 0), ei_ls 0, ei_lb 1, ei_sl 0, ei_ll 0, ei_ll 0, ei_pu (.inl 16, 1, 0), ei_ls 0, ei_lb 1, ei_sl 0, ei_ll 0, ei_ll 0, ei_pu (.inl 32, 1, 0), ei_ls 0, ei_lb 1, ei_sl 0, ei_ll 0, ei_un 0, ei_pu (.inl 127, 1, 0), ei_ib 3, ei_re 0])], 0, 0, 0, 2, ⟨"java/lang/Long", "bitCount", "(J)I"⟩, prog_16_method_50_code, some .int)
/-- RegisterColoursModel.joins(II)V -/
noncomputable def mt_10 : ev_M := ([(0, [ei_la 0, ei_la 0, ei_gf (11, 3, 38, 0), ei_li 1, ei_li 2, ei_ca (8, 4, 12, 190, 0, 0, 0), ei_la 0, ei_la 0, ei_gf (11, 3, 38, 0), ei_li 2, ei_li 1, ei_ca (8, 4, 12, 190, 0, 0, 0), ei_re 2])], 0, 0, 0, 3, ⟨"RegisterColoursModel", "joins", "(II)V"⟩, prog_14_method_31_code, none)
/-- RegisterColours$Graph.isThere(I)Z -/
noncomputable def mt_11 : ev_M := ([(0, [ei_la 0, ei_gf (3, 6, 66, 0), ei_pu (.inl 0, 0, 0), ei_li 1, ei_ca (4, 3, 0, 174, 4, 0, 0), ei_re 0])], 0, 0, 0, 2, ⟨"RegisterColours$Graph", "isThere", "(I)Z"⟩, prog_4_method_15_code, some .boolean)
/-- RegisterColours$Graph.connect(II)V -/
noncomputable def mt_12 : ev_M := ([(0, [ei_la 0, ei_gf (3, 1, 47, 0), ei_li 1, ei_la 0, ei_gf (3, 0, 40, 0), ei_ib 1, ei_li 2, ei_ca (6, 3, 0, 139, 4, 0, 0), ei_la 0, ei_gf (3, 1, 47, 0), ei_li 2, ei_la 0, ei_gf (3, 0, 40, 0), ei_ib 1, ei_li 1, ei_ca (6, 3, 0, 139, 4, 0, 0), ei_re 2])], 0, 0, 0, 3, ⟨"RegisterColours$Graph", "connect", "(II)V"⟩, prog_4_method_11_code, none)
/-- java/util/Arrays.fill([JJ)V -/
noncomputable def mt_13 : ev_M := ([(6, [ei_li 3, ei_li 4, ei_ic ((false, true, true), 2), ei_la 0, ei_li 3, ei_ll 1, ei_as 1, ei_ii (3, 1), ei_go 0]),
  (0, [ei_pu (.inl 0, 0, 0), ei_si 3, ei_la 0, ei_an, ei_si 4, ei_fa 0]),
  (22, [ei_re 2])], 1, 0, 0, 5, ⟨"java/util/Arrays", "fill", "([JJ)V"⟩, prog_22_method_101_code, none)
/-- RegisterColoursModel.classOf(I)I -/
noncomputable def mt_14 : ev_M := ([(0, [ei_la 0, ei_la 0, ei_gf (11, 11, 26, 0), ei_li 1, ei_ca (15, 3, 12, 161, 0, 0, 0), ei_re 0])], 0, 0, 0, 2, ⟨"RegisterColoursModel", "classOf", "(I)I"⟩, prog_14_method_16_code, some .int)
/-- RegisterColoursModel.classIn([II)I -/
noncomputable def mt_15 : ev_M := ([(31, [ei_re 0]),
  (0, [ei_li 2, ei_pu (.inl 44, 1, 0), ei_ic ((true, false, false), 2)]),
  (10, [ei_li 2, ei_pu (.inl 32, 1, 0), ei_ic ((false, true, true), 3), ei_pu (.inl 0, 0, 0), ei_go 0]),
  (20, [ei_li 2, ei_pu (.inl 40, 1, 0), ei_ic ((false, true, true), 4), ei_pu (.inl 1, 0, 0), ei_go 0]),
  (30, [ei_pu (.inl 2, 0, 0), ei_fa 0])], 1, 0, 0, 3, ⟨"RegisterColoursModel", "classIn", "([II)I"⟩, prog_14_method_15_code, some .int)
/-- RegisterColoursModel.limitOf(I)I -/
noncomputable def mt_16 : ev_M := ([(0, [ei_li 1, ei_if ((true, false, true), 2), ei_la 0, ei_gf (11, 4, 7, 0), ei_go 1]),
  (29, [ei_re 0]),
  (11, [ei_li 1, ei_pu (.inl 1, 0, 0), ei_ic ((true, false, true), 3), ei_la 0, ei_gf (11, 24, 13, 0), ei_go 1]),
  (23, [ei_la 0, ei_gf (11, 4, 7, 0), ei_pu (.inl 2, 0, 0), ei_dv 0, ei_fa 1])], 0, 0, 0, 2, ⟨"RegisterColoursModel", "limitOf", "(I)I"⟩, prog_14_method_12_code, some .int)
/-- RegisterColours$Graph.limitOf(I)I -/
noncomputable def mt_17 : ev_M := ([(0, [ei_la 0, ei_gf (3, 4, 31, 0), ei_li 1, ei_al 0, ei_if ((true, false, true), 1), ei_la 0, ei_gf (3, 3, 9, 0), ei_re 0]),
  (14, [ei_la 0, ei_gf (3, 4, 31, 0), ei_li 1, ei_al 0, ei_pu (.inl 1, 0, 0), ei_ic ((true, false, true), 3), ei_la 0, ei_gf (3, 10, 21, 0), ei_go 2]),
  (37, [ei_re 0]),
  (31, [ei_la 0, ei_gf (3, 3, 9, 0), ei_pu (.inl 2, 0, 0), ei_dv 0, ei_fa 2])], 0, 0, 0, 2, ⟨"RegisterColours$Graph", "limitOf", "(I)I"⟩, prog_4_method_18_code, some .int)
/-- RegisterColoursModel.isIn(III)Z -/
noncomputable def mt_18 : ev_M := ([(15, [ei_re 0]),
  (14, [ei_pu (.inl 0, 0, 0), ei_fa 0]),
  (0, [ei_li 1, ei_li 2, ei_ic ((true, false, false), 1), ei_li 1, ei_li 3, ei_ic ((false, false, true), 1), ei_pu (.inl 1, 0, 0), ei_go 0])], 2, 0, 0, 4, ⟨"RegisterColoursModel", "isIn", "(III)Z"⟩, prog_14_method_3_code, some .boolean)
/-- java/util/Arrays.fill([II)V -/
noncomputable def mt_19 : ev_M := ([(5, [ei_li 2, ei_li 3, ei_ic ((false, true, true), 2), ei_la 0, ei_li 2, ei_li 1, ei_as 0, ei_ii (2, 1), ei_go 0]),
  (0, [ei_pu (.inl 0, 0, 0), ei_si 2, ei_la 0, ei_an, ei_si 3, ei_fa 0]),
  (20, [ei_re 2])], 1, 0, 0, 4, ⟨"java/util/Arrays", "fill", "([II)V"⟩, prog_22_method_103_code, none)
/-- RegisterColoursModel.findsLives(I)V -/
noncomputable def mt_20 : ev_M := ([(2, [ei_li 2, ei_la 0, ei_gf (11, 19, 23, 0), ei_li 1, ei_al 0, ei_ic ((false, false, true), 3), ei_la 0, ei_la 0, ei_gf (11, 23, 32, 0), ei_li 2, ei_ca (2, 3, 12, 193, 0, 0, 0), ei_ii (2, 1), ei_go 0]),
  (29, [ei_li 2, ei_if ((false, true, false), 5), ei_pu (.inl 0, 0, 0), ei_si 2, ei_la 0, ei_gf (11, 19, 23, 0), ei_li 1, ei_al 0, ei_pu (.inl 1, 0, 0), ei_ib 4, ei_si 3, ei_li 3, ei_if ((true, false, false), 4)]),
  (0, [ei_pu (.inl 0, 0, 0), ei_si 2, ei_fa 0]),
  (27, [ei_pu (.inl 1, 0, 0), ei_si 2, ei_fa 1]),
  (65, [ei_go 1]),
  (68, [ei_re 2])], 2, 0, 0, 4, ⟨"RegisterColoursModel", "findsLives", "(I)V"⟩, prog_14_method_27_code, none)
/-- RegisterColoursModel.findsGraph(I)V -/
noncomputable def mt_21 : ev_M := ([(7, [ei_li 2, ei_pu (.inl 200, 2, 0), ei_ic ((false, true, true), 8), ei_la 0, ei_la 0, ei_gf (11, 3, 38, 0), ei_li 2, ei_ca (2, 3, 12, 193, 0, 0, 0), ei_la 0, ei_gf (11, 8, 41, 0), ei_li 2, ei_li 2, ei_pu (.inl 44, 1, 0), ei_ic ((false, true, true), 3), ei_pu (.inl 0, 0, 0), ei_go 2]),
  (133, [ei_li 2, ei_pu (.inl 200, 2, 0), ei_ic ((false, true, true), 11), ei_la 0, ei_gf (11, 0, 51, 0), ei_li 2, ei_la 0, ei_gf (11, 2, 44, 0), ei_li 2, ei_al 2, ei_as 2, ei_ii (2, 1), ei_go 1]),
  (40, [ei_as 0, ei_la 0, ei_gf (11, 2, 44, 0), ei_li 2, ei_la 0, ei_li 2, ei_ca (0, 2, 12, 228, 0, 0, 0), ei_as 2, ei_la 0, ei_gf (11, 7, 48, 0), ei_li 2, ei_li 2, ei_as 0, ei_la 0, ei_gf (11, 0, 51, 0), ei_li 2, ei_pu (.inl 1, 0, 0), ei_as 2, ei_ii (2, 1), ei_go 0]),
  (38, [ei_pu (.inl 1000000, 5, 227), ei_fa 2]),
  (84, [ei_li 3, ei_li 2, ei_ic ((false, true, true), 6), ei_la 0, ei_li 2, ei_li 3, ei_ca (10, 3, 12, 210, 0, 0, 0), ei_ii (3, 1), ei_go 4]),
  (74, [ei_li 2, ei_la 0, ei_gf (11, 4, 7, 0), ei_ic ((false, true, true), 9), ei_pu (.inl 0, 0, 0), ei_si 3, ei_fa 4]),
  (101, [ei_ii (2, 1), ei_go 5]),
  (0, [ei_la 0, ei_li 1, ei_ca (20, 2, 12, 223, 0, 0, 0), ei_pu (.inl 0, 0, 0), ei_si 2, ei_fa 0]),
  (72, [ei_pu (.inl 0, 0, 0), ei_si 2, ei_fa 5]),
  (107, [ei_pu (.inl 0, 0, 0), ei_si 2, ei_li 2, ei_la 0, ei_gf (11, 19, 23, 0), ei_li 1, ei_al 0, ei_ic ((false, true, true), 10)]),
  (131, [ei_pu (.inl 0, 0, 0), ei_si 2, ei_fa 1]),
  (158, [ei_re 2])], 7, 0, 0, 4, ⟨"RegisterColoursModel", "findsGraph", "(I)V"⟩, prog_14_method_35_code, none)
/-- RegisterColours$Graph.draw(LRegisterColours$Told;I)V -/
noncomputable def mt_22 : ev_M := ([(0, [ei_la 0, ei_li 2, ei_la 0, ei_gf (3, 4, 31, 0), ei_an, ei_dv 76, ei_pf (3, 2, 0, 15, 0), ei_la 0, ei_la 0, ei_gf (3, 2, 15, 0), ei_pu (.inl 63, 1, 0), ei_ib 0, ei_pu (.inl 64, 1, 0), ei_dv 0, ei_pf (3, 5, 0, 18, 0), ei_la 0, ei_la 1, ei_gf (10, 2, 81, 0), ei_pf (3, 3, 0, 9, 0), ei_la 0, ei_la 1, ei_gf (10, 4, 84, 0), ei_pf (3, 10, 0, 21, 0), ei_la 0, ei_la 1, ei_gf (10, 1, 85, 0), ei_pf (3, 13, 0, 24, 0), ei_la 0, ei_ca (23, 1, 4, 86, 0, 0, 0), ei_la 0, ei_ca (24, 1, 4, 89, 0, 0, 0), ei_la 0, ei_ca (25, 1, 4, 92, 0, 0, 0), ei_la 0, ei_ca (26, 1, 4, 95, 0, 0, 0), ei_la 0, ei_ca (27, 1, 4, 98, 0, 0, 0), ei_re 2])], 0, 0, 0, 3, ⟨"RegisterColours$Graph", "draw", "(LRegisterColours$Told;I)V"⟩, prog_4_method_2_code, none)
/-- RegisterColours$Graph.weigh()V -/
noncomputable def mt_23 : ev_M := ([(0, [ei_pu (.inl 0, 0, 0), ei_si 1, ei_li 1, ei_la 0, ei_gf (3, 9, 27, 0), ei_gf (9, 0, 101, 0), ei_ic ((false, true, true), 1)]),
  (33, [ei_pu (.inl 0, 0, 0), ei_si 1, ei_li 1, ei_la 0, ei_gf (3, 9, 27, 0), ei_gf (9, 0, 101, 0), ei_ic ((false, true, true), 2)]),
  (122, [ei_pu (.inl 0, 0, 0), ei_si 1, ei_li 1, ei_la 0, ei_gf (3, 9, 27, 0), ei_gf (9, 0, 101, 0), ei_ic ((false, true, true), 3)]),
  (156, [ei_re 2])], 0, 0, 0, 3, ⟨"RegisterColours$Graph", "weigh", "()V"⟩, prog_4_method_3_code, none)
/-- RegisterColours$Graph.flowBackwards()V -/
noncomputable def mt_24 : ev_M := ([(12, [ei_li 2, ei_pu (.inl 1000000, 5, 121), ei_ic ((false, true, true), 3), ei_li 1, ei_if ((false, true, false), 3), ei_pu (.inl 0, 0, 0), ei_si 1, ei_la 0, ei_gf (3, 9, 27, 0), ei_gf (9, 0, 101, 0), ei_pu (.inl 1, 0, 0), ei_ib 4, ei_si 3, ei_li 3, ei_if ((true, false, false), 2)]),
  (0, [ei_la 0, ei_gf (3, 12, 43, 0), ei_pu (.inr (.inr (.inl 0)), 3, 0), ei_ca (13, 2, 0, 115, 1, 0, 0), ei_pu (.inl 1, 0, 0), ei_si 1, ei_pu (.inl 0, 0, 0), ei_si 2, ei_fa 0]),
  (63, [ei_ii (2, 1), ei_go 0]),
  (69, [ei_re 2])], 1, 0, 0, 4, ⟨"RegisterColours$Graph", "flowBackwards", "()V"⟩, prog_4_method_5_code, none)
/-- RegisterColours$Graph.markClasses()V -/
noncomputable def mt_25 : ev_M := ([(19, [ei_li 1, ei_la 0, ei_gf (3, 2, 15, 0), ei_ic ((false, true, true), 4), ei_la 0, ei_gf (3, 4, 31, 0), ei_li 1, ei_al 0, ei_pu (.inl 2, 0, 0), ei_ic ((true, false, true), 2), ei_la 0, ei_gf (3, 7, 56, 0), ei_pu (.inl 0, 0, 0), ei_li 1, ei_ca (6, 3, 0, 139, 4, 0, 0), ei_go 1]),
  (68, [ei_ii (1, 1), ei_go 0]),
  (49, [ei_la 0, ei_gf (3, 4, 31, 0), ei_li 1, ei_al 0, ei_pu (.inl 1, 0, 0), ei_ic ((true, false, true), 1), ei_la 0, ei_gf (3, 8, 59, 0), ei_pu (.inl 0, 0, 0), ei_li 1, ei_ca (6, 3, 0, 139, 4, 0, 0), ei_fa 1]),
  (0, [ei_la 0, ei_gf (3, 7, 56, 0), ei_pu (.inr (.inr (.inl 0)), 3, 0), ei_ca (13, 2, 0, 115, 1, 0, 0), ei_la 0, ei_gf (3, 8, 59, 0), ei_pu (.inr (.inr (.inl 0)), 3, 0), ei_ca (13, 2, 0, 115, 1, 0, 0), ei_pu (.inl 32, 1, 0), ei_si 1, ei_fa 0]),
  (74, [ei_re 2])], 3, 0, 0, 2, ⟨"RegisterColours$Graph", "markClasses", "()V"⟩, prog_4_method_8_code, none)
/-- RegisterColours$Graph.connectAll()V -/
noncomputable def mt_26 : ev_M := ([(20, [ei_li 2, ei_li 1, ei_ic ((false, true, true), 2), ei_la 0, ei_li 1, ei_li 2, ei_ca (12, 3, 4, 151, 0, 0, 0), ei_ii (2, 1), ei_go 0]),
  (10, [ei_li 1, ei_la 0, ei_gf (3, 3, 9, 0), ei_ic ((false, true, true), 4), ei_pu (.inl 0, 0, 0), ei_si 2, ei_fa 0]),
  (37, [ei_ii (1, 1), ei_go 1]),
  (0, [ei_la 0, ei_gf (3, 1, 47, 0), ei_pu (.inr (.inr (.inl 0)), 3, 0), ei_ca (13, 2, 0, 115, 1, 0, 0), ei_pu (.inl 0, 0, 0), ei_si 1, ei_fa 1]),
  (43, [ei_pu (.inl 0, 0, 0), ei_si 1, ei_li 1, ei_la 0, ei_gf (3, 9, 27, 0), ei_gf (9, 0, 101, 0), ei_ic ((false, true, true), 5)]),
  (167, [ei_re 2])], 3, 0, 0, 3, ⟨"RegisterColours$Graph", "connectAll", "()V"⟩, prog_4_method_9_code, none)
/-- RegisterColours$Graph.countCosts()V -/
noncomputable def mt_27 : ev_M := ([(18, [ei_li 1, ei_la 0, ei_gf (3, 3, 9, 0), ei_ic ((false, true, true), 2), ei_la 0, ei_gf (3, 6, 66, 0), ei_pu (.inl 0, 0, 0), ei_li 1, ei_ca (6, 3, 0, 139, 4, 0, 0), ei_ii (1, 1), ei_go 0]),
  (0, [ei_la 0, ei_gf (3, 11, 72, 0), ei_pu (.inl 0, 0, 0), ei_ca (19, 2, 0, 168, 1, 0, 0), ei_la 0, ei_gf (3, 6, 66, 0), ei_pu (.inr (.inr (.inl 0)), 3, 0), ei_ca (13, 2, 0, 115, 1, 0, 0), ei_pu (.inl 0, 0, 0), ei_si 1, ei_fa 0]),
  (41, [ei_pu (.inl 44, 1, 0), ei_si 1, ei_li 1, ei_la 0, ei_gf (3, 2, 15, 0), ei_ic ((false, true, true), 3)]),
  (66, [ei_pu (.inl 0, 0, 0), ei_si 1, ei_li 1, ei_la 0, ei_gf (3, 9, 27, 0), ei_gf (9, 0, 101, 0), ei_ic ((false, true, true), 4)]),
  (183, [ei_re 2])], 1, 0, 0, 3, ⟨"RegisterColours$Graph", "countCosts", "()V"⟩, prog_4_method_12_code, none)
/-- RegisterColours.freshGraph()LRegisterColours$Graph; -/
noncomputable def mt_28 : ev_M := ([(0, [ei_la 0, ei_gf (0, 2, 50, 0), ei_if ((true, false, true), 1), ei_la 0, ei_gf (0, 3, 46, 0), ei_la 0, ei_gf (0, 1, 29, 0), ei_pu (.inl 44, 1, 0), ei_ca (22, 3, 4, 314, 0, 0, 0), ei_la 0, ei_pu (.inl 1, 0, 0), ei_pf (0, 2, 1, 50, 0), ei_fa 1]),
  (25, [ei_la 0, ei_gf (0, 3, 46, 0), ei_re 1])], 0, 0, 0, 1, ⟨"RegisterColours", "freshGraph", "()LRegisterColours$Graph;"⟩, prog_1_method_23_code, some (.object "RegisterColours$Graph"))
/-- RegisterColoursModel.countsFor(II)I -/
noncomputable def mt_29 : ev_M := ([(0, [ei_la 0, ei_li 1, ei_ca (14, 2, 12, 169, 0, 0, 0), ei_if ((true, false, true), 1), ei_la 0, ei_li 2, ei_ca (14, 2, 12, 169, 0, 0, 0), ei_pu (.inl 2, 0, 0), ei_ic ((true, false, true), 1)]),
  (21, [ei_pu (.inl 1, 0, 0), ei_re 0])], 0, 0, 0, 3, ⟨"RegisterColoursModel", "countsFor", "(II)I"⟩, prog_14_method_36_code, some .int)
/-- RegisterColours.forgetAllocation()V -/
noncomputable def mt_30 : ev_M := ([(0, [ei_la 0, ei_gf (0, 1, 29, 0), ei_pu (.inl 0, 0, 0), ei_pf (10, 3, 1, 151, 0), ei_la 0, ei_pu (.inl 0, 0, 0), ei_pf (0, 2, 1, 50, 0), ei_la 0, ei_pu (.inl 4294967295, 0, 0), ei_pf (0, 5, 0, 63, 0), ei_re 2])], 0, 0, 0, 1, ⟨"RegisterColours", "forgetAllocation", "()V"⟩, prog_1_method_22_code, none)
/-- RegisterColoursModel.keepsRow([III)V -/
noncomputable def mt_31 : ev_M := ([(3, [ei_li 4, ei_li 3, ei_ic ((false, true, true), 3), ei_la 0, ei_gf (11, 6, 553, 0), ei_if ((false, true, false), 4), ei_la 0, ei_gf (11, 5, 137, 0), ei_la 0, ei_gf (11, 1, 556, 0), ei_la 1, ei_li 2, ei_li 4, ei_ib 0, ei_al 0, ei_as 0, ei_go 1]),
  (49, [ei_la 0, ei_la 0, ei_gf (11, 1, 556, 0), ei_pu (.inl 1, 0, 0), ei_ib 0, ei_pf (11, 1, 0, 556, 0), ei_ii (4, 1), ei_go 0]),
  (0, [ei_pu (.inl 0, 0, 0), ei_si 4, ei_fa 0]),
  (65, [ei_re 2]),
  (34, [])], 2, 0, 0, 5, ⟨"RegisterColoursModel", "keepsRow", "([III)V"⟩, prog_14_method_123_code, none)
/-- RegisterColours$Steps.<init>(I)V -/
noncomputable def mt_32 : ev_M := ([(0, [ei_la 0, ei_oi 3, ei_la 0, ei_pu (.inl 0, 0, 0), ei_pf (9, 0, 0, 9, 0), ei_la 0, ei_li 1, ei_na 0, ei_pf (9, 1, 3, 15, 0), ei_la 0, ei_li 1, ei_na 0, ei_pf (9, 2, 3, 19, 0), ei_la 0, ei_li 1, ei_na 0, ei_pf (9, 3, 3, 22, 0), ei_la 0, ei_li 1, ei_na 0, ei_pf (9, 4, 3, 25, 0), ei_la 0, ei_li 1, ei_na 0, ei_pf (9, 5, 3, 28, 0), ei_re 2])], 0, 5, 2000, 2, ⟨"RegisterColours$Steps", "<init>", "(I)V"⟩, prog_11_method_1_code, none)
/-- RegisterColoursModel.keepsOne(I)I -/
noncomputable def mt_33 : ev_M := ([(0, [ei_la 0, ei_gf (11, 6, 553, 0), ei_if ((false, true, false), 1), ei_la 0, ei_gf (11, 5, 137, 0), ei_la 0, ei_gf (11, 1, 556, 0), ei_li 1, ei_as 0, ei_fa 1]),
  (17, [ei_la 0, ei_la 0, ei_gf (11, 1, 556, 0), ei_pu (.inl 1, 0, 0), ei_ib 0, ei_pf (11, 1, 0, 556, 0), ei_la 0, ei_gf (11, 5, 137, 0), ei_la 0, ei_gf (11, 1, 556, 0), ei_pu (.inl 1, 0, 0), ei_ib 4, ei_al 0, ei_re 0])], 0, 0, 0, 2, ⟨"RegisterColoursModel", "keepsOne", "(I)I"⟩, prog_14_method_124_code, some .int)
/-- RegisterColours.putOnTape(I)V -/
noncomputable def mt_34 : ev_M := ([(3, [ei_li 2, ei_if ((true, false, false), 2), ei_la 0, ei_gf (0, 0, 13, 0), ei_pu (.inl 400, 2, 0), ei_ic ((false, true, true), 2), ei_la 0, ei_gf (0, 4, 9, 0), ei_la 0, ei_gf (0, 0, 13, 0), ei_li 1, ei_li 2, ei_ib 7, ei_un 1, ei_as 3, ei_la 0, ei_st 0, ei_gf (0, 0, 13, 0), ei_pu (.inl 1, 0, 0), ei_ib 0, ei_pf (0, 0, 0, 13, 0), ei_ii (2, 4294967288), ei_go 0]),
  (0, [ei_pu (.inl 24, 1, 0), ei_si 2, ei_fa 0]),
  (46, [ei_re 2])], 1, 0, 0, 3, ⟨"RegisterColours", "putOnTape", "(I)V"⟩, prog_1_method_21_code, none)
/-- RegisterColoursModel.types(I)V -/
noncomputable def mt_35 : ev_M := ([(3, [ei_li 2, ei_if ((true, false, false), 2), ei_la 0, ei_gf (11, 21, 90, 0), ei_la 0, ei_gf (11, 20, 363, 0), ei_li 1, ei_li 2, ei_ib 2, ei_pu (.inl 255, 2, 0), ei_ib 3, ei_as 0, ei_la 0, ei_la 0, ei_gf (11, 20, 363, 0), ei_pu (.inl 1, 0, 0), ei_ib 0, ei_pf (11, 20, 0, 363, 0), ei_ii (2, 4294967288), ei_go 0]),
  (0, [ei_pu (.inl 24, 1, 0), ei_si 2, ei_fa 0]),
  (39, [ei_re 2])], 1, 0, 0, 3, ⟨"RegisterColoursModel", "types", "(I)V"⟩, prog_14_method_66_code, none)
/-- RegisterColours$Steps.takeFrom(LRegisterColours$Steps;)V -/
noncomputable def mt_36 : ev_M := ([(0, [ei_la 1, ei_gf (9, 0, 9, 0), ei_la 0, ei_gf (9, 1, 15, 0), ei_an, ei_dv 32, ei_si 2, ei_la 1, ei_gf (9, 1, 15, 0), ei_pu (.inl 0, 0, 0), ei_la 0, ei_gf (9, 1, 15, 0), ei_pu (.inl 0, 0, 0), ei_li 2, ei_cy 37, ei_la 1, ei_gf (9, 2, 19, 0), ei_pu (.inl 0, 0, 0), ei_la 0, ei_gf (9, 2, 19, 0), ei_pu (.inl 0, 0, 0), ei_li 2, ei_cy 37, ei_la 1, ei_gf (9, 3, 22, 0), ei_pu (.inl 0, 0, 0), ei_la 0, ei_gf (9, 3, 22, 0), ei_pu (.inl 0, 0, 0), ei_li 2, ei_cy 37, ei_la 1, ei_gf (9, 4, 25, 0), ei_pu (.inl 0, 0, 0), ei_la 0, ei_gf (9, 4, 25, 0), ei_pu (.inl 0, 0, 0), ei_li 2, ei_cy 37, ei_la 1, ei_gf (9, 5, 28, 0), ei_pu (.inl 0, 0, 0), ei_la 0, ei_gf (9, 5, 28, 0), ei_pu (.inl 0, 0, 0), ei_li 2, ei_cy 37, ei_la 0, ei_li 2, ei_pf (9, 0, 0, 9, 0), ei_re 2])], 0, 0, 0, 3, ⟨"RegisterColours$Steps", "takeFrom", "(LRegisterColours$Steps;)V"⟩, prog_11_method_3_code, none)
/-- RegisterColours.isValue(I)Z -/
noncomputable def mt_37 : ev_M := ([(32, [ei_re 0]),
  (31, [ei_pu (.inl 0, 0, 0), ei_fa 0]),
  (27, [ei_pu (.inl 1, 0, 0), ei_go 0]),
  (0, [ei_li 1, ei_if ((true, false, false), 1), ei_li 1, ei_pu (.inl 44, 1, 0), ei_ic ((false, true, true), 1), ei_li 1, ei_la 0, ei_gf (0, 1, 29, 0), ei_gf (10, 2, 81, 0), ei_ic ((true, false, false), 2), ei_li 1, ei_pu (.inl 8, 1, 0), ei_ic ((true, false, false), 1), ei_fa 2])], 3, 0, 0, 2, ⟨"RegisterColours", "isValue", "(I)Z"⟩, prog_1_method_24_code, some .boolean)
/-- RegisterColoursModel.isValue(I)Z -/
noncomputable def mt_38 : ev_M := ([(30, [ei_re 0]),
  (29, [ei_pu (.inl 0, 0, 0), ei_fa 0]),
  (0, [ei_la 0, ei_li 1, ei_pu (.inl 0, 0, 0), ei_pu (.inl 43, 1, 0), ei_ca (18, 4, 12, 143, 0, 0, 0), ei_if ((false, true, false), 1), ei_la 0, ei_li 1, ei_la 0, ei_gf (11, 4, 7, 0), ei_pu (.inl 7, 1, 0), ei_ca (18, 4, 12, 143, 0, 0, 0), ei_if ((true, false, true), 1), ei_pu (.inl 1, 0, 0), ei_go 0])], 2, 0, 0, 2, ⟨"RegisterColoursModel", "isValue", "(I)Z"⟩, prog_14_method_106_code, some .boolean)
/-- RegisterColours$Left.<init>()V -/
noncomputable def mt_39 : ev_M := ([(0, [ei_la 0, ei_oi 3, ei_la 0, ei_nw (9, 9, [.inl 0, .inr (.inl 0), .inr (.inl 0), .inr (.inl 0), .inr (.inl 0), .inr (.inl 0)]), ei_st 0, ei_pu (.inl 400, 2, 0), ei_ca (32, 2, 10, 11, 2, 5, 2000), ei_pf (4, 2, 3, 14, 0), ei_la 0, ei_pu (.inl 200, 2, 0), ei_na 0, ei_pf (4, 4, 3, 20, 0), ei_la 0, ei_pu (.inl 200, 2, 0), ei_na 0, ei_pf (4, 0, 3, 24, 0), ei_la 0, ei_pu (.inl 200, 2, 0), ei_na 0, ei_pf (4, 8, 3, 27, 0), ei_la 0, ei_pu (.inl 200, 2, 0), ei_na 0, ei_pf (4, 1, 3, 30, 0), ei_la 0, ei_pu (.inl 44, 1, 0), ei_pf (4, 5, 0, 33, 0), ei_la 0, ei_pu (.inl 0, 0, 0), ei_pf (4, 6, 0, 37, 0), ei_la 0, ei_pu (.inl 0, 0, 0), ei_pf (4, 9, 0, 40, 0), ei_la 0, ei_pu (.inl 0, 0, 0), ei_pf (4, 10, 0, 43, 0), ei_la 0, ei_pu (.inl 0, 0, 0), ei_pf (4, 11, 0, 46, 0), ei_la 0, ei_pu (.inl 0, 0, 0), ei_pf (4, 7, 0, 49, 0), ei_la 0, ei_pu (.inl 0, 0, 0), ei_pf (4, 12, 0, 52, 0), ei_la 0, ei_pu (.inl 0, 0, 0), ei_pf (4, 3, 0, 55, 0), ei_re 2])], 0, 10, 2806, 1, ⟨"RegisterColours$Left", "<init>", "()V"⟩, prog_5_method_1_code, none)
/-- RegisterColoursModel.lesser(II)I -/
noncomputable def mt_40 : ev_M := ([(10, [ei_re 0]),
  (0, [ei_li 1, ei_li 2, ei_ic ((false, true, true), 2), ei_li 1, ei_go 0]),
  (9, [ei_li 2, ei_fa 0])], 1, 0, 0, 3, ⟨"RegisterColoursModel", "lesser", "(II)I"⟩, prog_14_method_5_code, some .int)
/-- RegisterColoursModel.raw(I)I -/
noncomputable def mt_41 : ev_M := ([(0, [ei_li 1, ei_la 0, ei_gf (11, 20, 363, 0), ei_ic ((false, true, true), 1)]),
  (17, [ei_pu (.inl 4294967295, 0, 0), ei_re 0])], 0, 0, 0, 2, ⟨"RegisterColoursModel", "raw", "(I)I"⟩, prog_14_method_69_code, some .int)
/-- RegisterColours$Colourer.nextLeft(I)I -/
noncomputable def mt_42 : ev_M := ([(0, [ei_la 0, ei_gf (2, 3, 47, 0), ei_pu (.inl 0, 0, 0), ei_la 0, ei_gf (2, 0, 38, 0), ei_gf (3, 2, 64, 0), ei_li 1, ei_ca (43, 4, 0, 82, 4, 0, 0), ei_re 0])], 0, 0, 0, 2, ⟨"RegisterColours$Colourer", "nextLeft", "(I)I"⟩, prog_3_method_3_code, some .int)
/-- RegisterColours.nextBit([JIII)I -/
noncomputable def mt_43 : ev_M := ([(16, [ei_pu (.inl 64, 1, 0), ei_li 6, ei_ib 1, ei_li 2, ei_ic ((false, true, true), 3), ei_la 0, ei_li 1, ei_li 6, ei_ib 0, ei_al 1, ei_ll 4, ei_lb 0, ei_sl 7, ei_ll 7, ei_pu (.inr (.inr (.inl 0)), 3, 0), ei_lc, ei_if ((false, true, false), 2)]),
  (0, [ei_pu (.inr (.inr (.inl 18446744073709551615)), 7, 321), ei_li 3, ei_pu (.inl 63, 1, 0), ei_ib 3, ei_ls 1, ei_sl 4, ei_li 3, ei_pu (.inl 6, 1, 0), ei_ib 2, ei_si 6, ei_fa 0]),
  (61, [ei_pu (.inr (.inr (.inl 18446744073709551615)), 7, 321), ei_sl 4, ei_ii (6, 1), ei_go 0]),
  (72, [ei_li 2, ei_re 0])], 1, 0, 0, 9, ⟨"RegisterColours", "nextBit", "([JIII)I"⟩, prog_1_method_31_code, some .int)
/-- RegisterColours$Graph.degreeAmong(I[J)I -/
noncomputable def mt_44 : ev_M := ([(21, [ei_li 5, ei_la 0, ei_gf (3, 5, 18, 0), ei_ic ((false, true, true), 3), ei_la 0, ei_gf (3, 1, 47, 0), ei_li 1, ei_la 0, ei_gf (3, 0, 40, 0), ei_ib 1, ei_li 5, ei_ib 0, ei_al 1, ei_la 2, ei_li 5, ei_al 1, ei_lb 0, ei_sl 6, ei_li 4, ei_ll 6, ei_ca (9, 1, 0, 178, 1, 0, 0), ei_ib 0, ei_si 4, ei_li 3, ei_if ((false, true, false), 2), ei_li 4, ei_ll 6, ei_la 0, ei_gf (3, 7, 56, 0), ei_li 5, ei_al 1, ei_lb 0, ei_ca (9, 1, 0, 178, 1, 0, 0), ei_ib 0, ei_si 4, ei_fa 2]),
  (14, [ei_si 3, ei_pu (.inl 0, 0, 0), ei_si 4, ei_pu (.inl 0, 0, 0), ei_si 5, ei_fa 0]),
  (83, [ei_ii (5, 1), ei_go 0]),
  (89, [ei_li 4, ei_re 0]),
  (13, [ei_pu (.inl 0, 0, 0), ei_fa 1]),
  (0, [ei_la 0, ei_gf (3, 4, 31, 0), ei_li 1, ei_al 0, ei_if ((true, false, true), 4), ei_pu (.inl 1, 0, 0), ei_go 1])], 5, 0, 0, 8, ⟨"RegisterColours$Graph", "degreeAmong", "(I[J)I"⟩, prog_4_method_20_code, some .int)
/-- RegisterColoursModel.degreeOf(I)I -/
noncomputable def mt_45 : ev_M := ([(4, [ei_li 3, ei_pu (.inl 200, 2, 0), ei_ic ((false, true, true), 2), ei_la 0, ei_gf (11, 0, 51, 0), ei_li 3, ei_al 2, ei_if ((false, true, false), 1), ei_la 0, ei_la 0, ei_gf (11, 3, 38, 0), ei_li 1, ei_li 3, ei_ca (3, 4, 12, 203, 0, 0, 0), ei_if ((false, true, false), 1), ei_li 2, ei_la 0, ei_li 1, ei_li 3, ei_ca (29, 3, 12, 235, 0, 0, 0), ei_ib 0, ei_si 2, ei_fa 1]),
  (42, [ei_ii (3, 1), ei_go 0]),
  (48, [ei_li 2, ei_re 0]),
  (0, [ei_pu (.inl 0, 0, 0), ei_si 2, ei_pu (.inl 0, 0, 0), ei_si 3, ei_fa 0])], 3, 0, 0, 4, ⟨"RegisterColoursModel", "degreeOf", "(I)I"⟩, prog_14_method_37_code, some .int)
/-- RegisterColours$Told.<init>()V -/
noncomputable def mt_46 : ev_M := ([(0, [ei_la 0, ei_oi 3, ei_la 0, ei_pu (.inl 4, 0, 0), ei_pf (10, 2, 0, 9, 0), ei_la 0, ei_pu (.inl 2, 0, 0), ei_pf (10, 4, 0, 15, 0), ei_la 0, ei_pu (.inl 1, 0, 0), ei_pf (10, 1, 0, 18, 0), ei_la 0, ei_pu (.inl 0, 0, 0), ei_pf (10, 7, 0, 21, 0), ei_la 0, ei_pu (.inl 0, 0, 0), ei_pf (10, 6, 0, 24, 0), ei_la 0, ei_pu (.inl 0, 0, 0), ei_pf (10, 3, 1, 27, 0), ei_la 0, ei_nw (9, 31, [.inl 0, .inr (.inl 0), .inr (.inl 0), .inr (.inl 0), .inr (.inl 0), .inr (.inl 0)]), ei_st 0, ei_pu (.inl 120, 1, 0), ei_ca (32, 2, 10, 33, 2, 5, 2000), ei_pf (10, 5, 3, 36, 0), ei_la 0, ei_pu (.inl 16, 1, 0), ei_na 0, ei_pf (10, 8, 3, 40, 0), ei_la 0, ei_pu (.inl 24, 1, 0), ei_na 0, ei_pf (10, 0, 3, 44, 0), ei_la 0, ei_nw (4, 47, [.inr (.inl 0), .inr (.inl 0), .inr (.inl 0), .inl 0, .inr (.inl 0), .inl 0, .inl 0, .inl 0, .inr (.inl 0), .inl 0, .inl 0, .inl 0, .inl 0]), ei_st 0, ei_ca (39, 1, 5, 49, 5, 10, 2806), ei_pf (10, 9, 3, 50, 0), ei_la 0, ei_gf (10, 0, 44, 0), ei_pu (.inl 4294967295, 0, 0), ei_ca (19, 2, 0, 54, 1, 0, 0), ei_re 2])], 0, 19, 4865, 1, ⟨"RegisterColours$Told", "<init>", "()V"⟩, prog_12_method_1_code, none)
/-- RegisterColours$Graph.<init>(LRegisterColours$Steps;[I)V -/
noncomputable def mt_47 : ev_M := ([(0, [ei_la 0, ei_oi 3, ei_la 0, ei_pu (.inl 0, 0, 0), ei_pf (3, 3, 0, 9, 0), ei_la 0, ei_pu (.inl 0, 0, 0), ei_pf (3, 2, 0, 15, 0), ei_la 0, ei_pu (.inl 0, 0, 0), ei_pf (3, 5, 0, 18, 0), ei_la 0, ei_pu (.inl 0, 0, 0), ei_pf (3, 10, 0, 21, 0), ei_la 0, ei_pu (.inl 0, 0, 0), ei_pf (3, 13, 0, 24, 0), ei_la 0, ei_la 1, ei_pf (3, 9, 3, 27, 0), ei_la 0, ei_la 2, ei_pf (3, 4, 3, 31, 0), ei_la 1, ei_gf (9, 1, 35, 0), ei_an, ei_si 3, ei_la 2, ei_an, ei_si 4, ei_la 0, ei_li 4, ei_pu (.inl 63, 1, 0), ei_ib 0, ei_pu (.inl 64, 1, 0), ei_dv 0, ei_pf (3, 0, 0, 40, 0), ei_la 0, ei_li 3, ei_pu (.inl 1, 0, 0), ei_ib 0, ei_la 0, ei_gf (3, 0, 40, 0), ei_ib 1, ei_na 1, ei_pf (3, 12, 3, 43, 0), ei_la 0, ei_li 4, ei_la 0, ei_gf (3, 0, 40, 0), ei_ib 1, ei_na 1, ei_pf (3, 1, 3, 47, 0), ei_la 0, ei_la 0, ei_gf (3, 0, 40, 0), ei_na 1, ei_pf (3, 14, 3, 50, 0), ei_la 0, ei_la 0, ei_gf (3, 0, 40, 0), ei_na 1, ei_pf (3, 15, 3, 53, 0), ei_la 0, ei_la 0, ei_gf (3, 0, 40, 0), ei_na 1, ei_pf (3, 7, 3, 56, 0), ei_la 0, ei_la 0, ei_gf (3, 0, 40, 0), ei_na 1, ei_pf (3, 8, 3, 59, 0), ei_la 0, ei_li 3, ei_na 2, ei_pf (3, 16, 3, 62, 0), ei_la 0, ei_la 0, ei_gf (3, 0, 40, 0), ei_na 1, ei_pf (3, 6, 3, 66, 0), ei_la 0, ei_li 3, ei_na 0, ei_pf (3, 17, 3, 69, 0), ei_la 0, ei_li 4, ei_na 0, ei_pf (3, 11, 3, 72, 0), ei_re 2])], 0, 10, 3424, 5, ⟨"RegisterColours$Graph", "<init>", "(LRegisterColours$Steps;[I)V"⟩, prog_4_method_1_code, none)
/-- RegisterColours.fillClasses([I)V -/
noncomputable def mt_48 : ev_M := ([(2, [ei_li 1, ei_la 0, ei_an, ei_ic ((false, true, true), 2), ei_la 0, ei_li 1, ei_li 1, ei_ca (7, 1, 0, 318, 1, 0, 0), ei_as 0, ei_ii (1, 1), ei_go 0]),
  (0, [ei_pu (.inl 0, 0, 0), ei_si 1, ei_fa 0]),
  (21, [ei_re 2])], 1, 0, 0, 2, ⟨"RegisterColours", "fillClasses", "([I)V"⟩, prog_1_method_26_code, none)
/-- RegisterColoursModel.copiesSteps(II)V -/
noncomputable def mt_49 : ev_M := ([(0, [ei_pu (.inl 0, 0, 0), ei_si 3, ei_li 3, ei_pu (.inl 5, 0, 0), ei_la 0, ei_gf (11, 19, 23, 0), ei_li 1, ei_al 0, ei_ib 1, ei_ic ((false, true, true), 1)]),
  (46, [ei_la 0, ei_gf (11, 19, 23, 0), ei_li 2, ei_la 0, ei_gf (11, 19, 23, 0), ei_li 1, ei_al 0, ei_as 0, ei_re 2])], 0, 0, 0, 4, ⟨"RegisterColoursModel", "copiesSteps", "(II)V"⟩, prog_14_method_18_code, none)
/-- RegisterColoursModel.usedMany(Z)I -/
noncomputable def mt_50 : ev_M := ([(0, [ei_pu (.inl 0, 0, 0), ei_si 2, ei_pu (.inl 0, 0, 0), ei_si 3, ei_li 3, ei_la 0, ei_gf (11, 19, 23, 0), ei_pu (.inl 3, 0, 0), ei_al 0, ei_ic ((false, true, true), 1)]),
  (61, [ei_pu (.inl 0, 0, 0), ei_si 3, ei_li 2, ei_si 4, ei_li 4, ei_if ((false, true, false), 2)]),
  (87, [ei_li 3, ei_re 0])], 0, 0, 0, 5, ⟨"RegisterColoursModel", "usedMany", "(Z)I"⟩, prog_14_method_62_code, some .int)
/-- RegisterColours$Graph.isHeavy(I[J)Z -/
noncomputable def mt_51 : ev_M := ([(25, [ei_re 0]),
  (24, [ei_pu (.inl 0, 0, 0), ei_fa 0]),
  (0, [ei_li 1, ei_pu (.inl 8, 1, 0), ei_ic ((true, false, false), 3), ei_la 0, ei_li 1, ei_la 2, ei_ca (44, 3, 4, 184, 0, 0, 0), ei_la 0, ei_li 1, ei_ca (17, 2, 4, 188, 0, 0, 0), ei_ic ((true, false, false), 1), ei_fa 3]),
  (20, [ei_pu (.inl 1, 0, 0), ei_go 0])], 2, 0, 0, 3, ⟨"RegisterColours$Graph", "isHeavy", "(I[J)Z"⟩, prog_4_method_21_code, some .boolean)
/-- RegisterColoursModel.isHeavy(I)Z -/
noncomputable def mt_52 : ev_M := ([(30, [ei_re 0]),
  (29, [ei_pu (.inl 0, 0, 0), ei_fa 0]),
  (0, [ei_la 0, ei_li 1, ei_ca (0, 2, 12, 228, 0, 0, 0), ei_if ((true, false, true), 3), ei_la 0, ei_li 1, ei_ca (45, 2, 12, 238, 0, 0, 0), ei_la 0, ei_la 0, ei_li 1, ei_ca (14, 2, 12, 169, 0, 0, 0), ei_ca (16, 2, 12, 241, 0, 0, 0), ei_ic ((true, false, false), 1), ei_fa 3]),
  (25, [ei_pu (.inl 1, 0, 0), ei_go 0])], 2, 0, 0, 2, ⟨"RegisterColoursModel", "isHeavy", "(I)Z"⟩, prog_14_method_38_code, some .boolean)
/-- RegisterColours$Graph.fewestColours()I -/
noncomputable def mt_53 : ev_M := ([(0, [ei_la 0, ei_gf (3, 6, 66, 0), ei_pu (.inl 0, 0, 0), ei_ca (54, 2, 0, 211, 1, 0, 0), ei_si 1, ei_pu (.inl 0, 0, 0), ei_si 2, ei_pu (.inl 0, 0, 0), ei_si 3, ei_li 3, ei_pu (.inl 24, 1, 0), ei_ic ((false, true, true), 1), ei_li 1, ei_if ((false, true, false), 1)]),
  (71, [ei_li 2, ei_re 0])], 0, 0, 0, 5, ⟨"RegisterColours$Graph", "fewestColours", "()I"⟩, prog_4_method_27_code, some .int)
/-- RegisterColours$Graph.vsIn([JI)I -/
noncomputable def mt_54 : ev_M := ([(0, [ei_la 0, ei_li 1, ei_al 1, ei_pu (.inl 8, 1, 0), ei_ls 0, ei_un 0, ei_pu (.inl 16777215, 5, 228), ei_ib 3, ei_re 0])], 0, 0, 0, 2, ⟨"RegisterColours$Graph", "vsIn", "([JI)I"⟩, prog_4_method_31_code, some .int)
/-- RegisterColoursModel.isChordal()Z -/
noncomputable def mt_55 : ev_M := ([(15, [ei_li 2, ei_pu (.inl 32, 1, 0), ei_ic ((false, true, true), 3), ei_la 0, ei_gf (11, 0, 51, 0), ei_li 2, ei_al 2, ei_if ((false, true, false), 1)]),
  (34, [ei_ii (2, 1), ei_go 0]),
  (0, [ei_la 0, ei_pu (.inl 0, 0, 0), ei_ca (21, 2, 12, 330, 0, 0, 0), ei_la 0, ei_pu (.inl 0, 0, 0), ei_pf (11, 37, 0, 519, 0), ei_pu (.inl 0, 0, 0), ei_si 1, ei_pu (.inl 8, 1, 0), ei_si 2, ei_fa 0]),
  (40, [ei_li 1, ei_if ((true, true, false), 4)]),
  (118, [ei_pu (.inl 1, 0, 0), ei_re 0])], 2, 0, 0, 3, ⟨"RegisterColoursModel", "isChordal", "()Z"⟩, prog_14_method_113_code, some .boolean)
/-- RegisterColours.<init>()V -/
noncomputable def mt_56 : ev_M := ([(0, [ei_la 0, ei_oi 3, ei_la 0, ei_pu (.inl 400, 2, 0), ei_na 3, ei_pf (0, 4, 3, 9, 0), ei_la 0, ei_pu (.inl 0, 0, 0), ei_pf (0, 0, 0, 13, 0), ei_la 0, ei_nw (6, 17, [.inl 0, .inl 0, .inr (.inl 0), .inl 0, .inr (.inl 0), .inl 0, .inr (.inl 0), .inr (.inl 0), .inr (.inl 0), .inr (.inl 0), .inr (.inl 0)]), ei_st 0, ei_la 0, ei_gf (0, 4, 9, 0), ei_ca (57, 2, 7, 19, 2, 11, 3290), ei_pf (0, 6, 3, 22, 0), ei_la 0, ei_nw (10, 26, [.inr (.inl 0), .inl 0, .inl 0, .inl 0, .inl 0, .inr (.inl 0), .inl 0, .inl 0, .inr (.inl 0), .inr (.inl 0)]), ei_st 0, ei_ca (46, 1, 11, 28, 2, 19, 4865), ei_pf (0, 1, 3, 29, 0), ei_la 0, ei_pu (.inl 44, 1, 0), ei_na 0, ei_pf (0, 8, 3, 33, 0), ei_la 0, ei_nw (3, 37, [.inl 0, .inr (.inl 0), .inl 0, .inl 0, .inr (.inl 0), .inl 0, .inr (.inl 0), .inr (.inl 0), .inr (.inl 0), .inr (.inl 0), .inl 0, .inr (.inl 0), .inr (.inl 0), .inl 0, .inr (.inl 0), .inr (.inl 0), .inr (.inl 0), .inr (.inl 0)]), ei_st 0, ei_la 0, ei_gf (0, 1, 29, 0), ei_gf (10, 5, 39, 0), ei_la 0, ei_gf (0, 8, 33, 0), ei_ca (47, 3, 4, 43, 2, 10, 3424), ei_pf (0, 3, 3, 46, 0), ei_la 0, ei_pu (.inl 0, 0, 0), ei_pf (0, 2, 1, 50, 0), ei_la 0, ei_nw (7, 54, [.inr (.inl 0), .inl 0, .inl 0, .inl 0, .inl 0, .inr (.inl 0), .inr (.inl 0), .inr (.inl 0), .inr (.inl 0), .inr (.inl 0), .inl 0, .inr (.inl 0), .inl 0]), ei_st 0, ei_la 0, ei_gf (0, 1, 29, 0), ei_la 0, ei_gf (0, 8, 33, 0), ei_ca (58, 3, 8, 56, 2, 3, 256), ei_pf (0, 7, 3, 59, 0), ei_la 0, ei_pu (.inl 4294967295, 0, 0), ei_pf (0, 5, 0, 63, 0), ei_la 0, ei_pu (.inr (.inl 0), 4, 0), ei_pf (0, 9, 3, 66, 0), ei_la 0, ei_pu (.inr (.inl 0), 4, 0), ei_pf (0, 11, 3, 70, 0), ei_la 0, ei_pu (.inr (.inl 0), 4, 0), ei_pf (0, 10, 3, 74, 0), ei_la 0, ei_gf (0, 8, 33, 0), ei_ca (48, 1, 0, 77, 1, 0, 0), ei_re 2])], 0, 49, 12331, 1, ⟨"RegisterColours", "<init>", "()V"⟩, prog_1_method_1_code, none)
/-- RegisterColours$Reader.<init>([B)V -/
noncomputable def mt_57 : ev_M := ([(0, [ei_la 0, ei_oi 3, ei_la 0, ei_nw (9, 9, [.inl 0, .inr (.inl 0), .inr (.inl 0), .inr (.inl 0), .inr (.inl 0), .inr (.inl 0)]), ei_st 0, ei_pu (.inl 120, 1, 0), ei_ca (32, 2, 10, 11, 2, 5, 2000), ei_pf (6, 2, 3, 14, 0), ei_la 0, ei_pu (.inl 0, 0, 0), ei_pf (6, 0, 0, 20, 0), ei_la 0, ei_pu (.inl 0, 0, 0), ei_pf (6, 1, 0, 24, 0), ei_la 0, ei_pu (.inl 4294967295, 0, 0), ei_pf (6, 3, 0, 27, 0), ei_la 0, ei_pu (.inl 401, 2, 0), ei_na 0, ei_pf (6, 4, 3, 30, 0), ei_la 0, ei_pu (.inl 401, 2, 0), ei_na 0, ei_pf (6, 6, 3, 34, 0), ei_la 0, ei_pu (.inl 401, 2, 0), ei_na 0, ei_pf (6, 9, 3, 37, 0), ei_la 0, ei_pu (.inl 41, 1, 0), ei_na 0, ei_pf (6, 7, 3, 40, 0), ei_la 0, ei_pu (.inl 40, 1, 0), ei_na 0, ei_pf (6, 10, 3, 43, 0), ei_la 0, ei_pu (.inl 0, 0, 0), ei_pf (6, 5, 0, 46, 0), ei_la 0, ei_la 1, ei_pf (6, 8, 3, 49, 0), ei_re 2])], 0, 11, 3290, 2, ⟨"RegisterColours$Reader", "<init>", "([B)V"⟩, prog_8_method_1_code, none)
/-- RegisterColours$Runner.<init>(LRegisterColours$Told;[I)V -/
noncomputable def mt_58 : ev_M := ([(0, [ei_la 0, ei_oi 3, ei_la 0, ei_pu (.inl 1, 0, 0), ei_pf (7, 1, 1, 9, 0), ei_la 0, ei_pu (.inl 0, 0, 0), ei_pf (7, 2, 0, 15, 0), ei_la 0, ei_pu (.inl 0, 0, 0), ei_pf (7, 3, 0, 19, 0), ei_la 0, ei_pu (.inl 0, 0, 0), ei_pf (7, 4, 0, 22, 0), ei_la 0, ei_pu (.inl 44, 1, 0), ei_na 1, ei_pf (7, 5, 3, 25, 0), ei_la 0, ei_pu (.inl 12, 1, 0), ei_na 0, ei_pf (7, 6, 3, 29, 0), ei_la 0, ei_pu (.inl 200, 2, 0), ei_na 1, ei_pf (7, 7, 3, 33, 0), ei_la 0, ei_pu (.inl 0, 0, 0), ei_pf (7, 10, 1, 36, 0), ei_la 0, ei_pu (.inl 0, 0, 0), ei_pf (7, 12, 0, 39, 0), ei_la 0, ei_la 1, ei_pf (7, 8, 3, 42, 0), ei_la 0, ei_la 2, ei_pf (7, 9, 3, 46, 0), ei_la 0, ei_la 2, ei_pf (7, 11, 3, 49, 0), ei_la 0, ei_la 1, ei_gf (10, 5, 52, 0), ei_pf (7, 0, 3, 58, 0), ei_re 2])], 0, 3, 256, 3, ⟨"RegisterColours$Runner", "<init>", "(LRegisterColours$Told;[I)V"⟩, prog_9_method_1_code, none)
/-- RegisterColoursModel.<init>()V -/
noncomputable def mt_59 : ev_M := ([(0, [ei_la 0, ei_oi 1, ei_la 0, ei_pu (.inl 4, 0, 0), ei_pf (11, 4, 0, 7, 0), ei_la 0, ei_pu (.inl 2, 0, 0), ei_pf (11, 24, 0, 13, 0), ei_la 0, ei_pu (.inl 1, 0, 0), ei_pf (11, 27, 0, 16, 0), ei_la 0, ei_pu (.inl 8200, 2, 0), ei_na 0, ei_pf (11, 38, 3, 19, 0), ei_la 0, ei_pu (.inl 4, 0, 0), ei_na 0, ei_pf (11, 19, 3, 23, 0), ei_la 0, ei_pu (.inl 200, 2, 0), ei_na 0, ei_pf (11, 11, 3, 26, 0), ei_la 0, ei_pu (.inl 200, 2, 0), ei_na 0, ei_pf (11, 13, 3, 29, 0), ei_la 0, ei_pu (.inl 2877, 2, 0), ei_na 0, ei_pf (11, 23, 3, 32, 0), ei_la 0, ei_pu (.inl 7, 1, 0), ei_na 0, ei_pf (11, 54, 3, 35, 0), ei_la 0, ei_pu (.inl 1400, 2, 0), ei_na 0, ei_pf (11, 3, 3, 38, 0), ei_la 0, ei_pu (.inl 200, 2, 0), ei_na 0, ei_pf (11, 8, 3, 41, 0), ei_la 0, ei_pu (.inl 200, 2, 0), ei_na 2, ei_pf (11, 2, 3, 44, 0), ei_la 0, ei_pu (.inl 200, 2, 0), ei_na 0, ei_pf (11, 7, 3, 48, 0), ei_la 0, ei_pu (.inl 200, 2, 0), ei_na 2, ei_pf (11, 0, 3, 51, 0), ei_la 0, ei_pu (.inl 410, 2, 0), ei_na 0, ei_pf (11, 55, 3, 54, 0), ei_la 0, ei_pu (.inl 200, 2, 0), ei_na 0, ei_pf (11, 56, 3, 57, 0), ei_la 0, ei_pu (.inl 200, 2, 0), ei_na 2, ei_pf (11, 57, 3, 60, 0), ei_la 0, ei_pu (.inl 200, 2, 0), ei_na 0, ei_pf (11, 12, 3, 63, 0), ei_la 0, ei_pu (.inl 200, 2, 0), ei_na 0, ei_pf (11, 58, 3, 66, 0), ei_la 0, ei_pu (.inl 200, 2, 0), ei_na 0, ei_pf (11, 59, 3, 69, 0), ei_la 0, ei_pu (.inl 200, 2, 0), ei_na 0, ei_pf (11, 9, 3, 72, 0), ei_la 0, ei_pu (.inl 410, 2, 0), ei_na 0, ei_pf (11, 61, 3, 75, 0), ei_la 0, ei_pu (.inl 200, 2, 0), ei_na 0, ei_pf (11, 14, 3, 78, 0), ei_la 0, ei_pu (.inl 200, 2, 0), ei_na 0, ei_pf (11, 15, 3, 81, 0), ei_la 0, ei_pu (.inl 200, 2, 0), ei_na 0, ei_pf (11, 16, 3, 84, 0), ei_la 0, ei_pu (.inl 12, 1, 0), ei_na 0, ei_pf (11, 26, 3, 87, 0), ei_la 0, ei_pu (.inl 400, 2, 0), ei_na 0, ei_pf (11, 21, 3, 90, 0), ei_la 0, ei_pu (.inl 36, 1, 0), ei_na 0, ei_st 0, ei_pu (.inl 0, 0, 0), ei_pu (.inl 32, 1, 0), ei_as 0, ei_st 0, ei_pu (.inl 1, 0, 0), ei_pu (.inl 105, 1, 0), ei_as 0, ei_st 0, ei_pu (.inl 2, 0, 0), ei_pu (.inl 102, 1, 0), ei_as 0, ei_st 0, ei_pu (.inl 3, 0, 0), ei_pu (.inl 32, 1, 0), ei_as 0, ei_st 0, ei_pu (.inl 4, 0, 0), ei_pu (.inl 103, 1, 0), ei_as 0, ei_st 0, ei_pu (.inl 5, 0, 0), ei_pu (.inl 111, 1, 0), ei_as 0, ei_st 0, ei_pu (.inl 6, 1, 0), ei_pu (.inl 116, 1, 0), ei_as 0, ei_st 0, ei_pu (.inl 7, 1, 0), ei_pu (.inl 111, 1, 0), ei_as 0, ei_st 0, ei_pu (.inl 8, 1, 0), ei_pu (.inl 32, 1, 0), ei_as 0, ei_st 0, ei_pu (.inl 9, 1, 0), ei_pu (.inl 111, 1, 0), ei_as 0, ei_st 0, ei_pu (.inl 10, 1, 0), ei_pu (.inl 117, 1, 0), ei_as 0, ei_st 0, ei_pu (.inl 11, 1, 0), ei_pu (.inl 116, 1, 0), ei_as 0, ei_st 0, ei_pu (.inl 12, 1, 0), ei_pu (.inl 32, 1, 0), ei_as 0, ei_st 0, ei_pu (.inl 13, 1, 0), ei_pu (.inl 105, 1, 0), ei_as 0, ei_st 0, ei_pu (.inl 14, 1, 0), ei_pu (.inl 110, 1, 0), ei_as 0, ei_st 0, ei_pu (.inl 15, 1, 0), ei_pu (.inl 32, 1, 0), ei_as 0, ei_st 0, ei_pu (.inl 16, 1, 0), ei_pu (.inl 99, 1, 0), ei_as 0, ei_st 0, ei_pu (.inl 17, 1, 0), ei_pu (.inl 97, 1, 0), ei_as 0, ei_st 0, ei_pu (.inl 18, 1, 0), ei_pu (.inl 108, 1, 0), ei_as 0, ei_st 0, ei_pu (.inl 19, 1, 0), ei_pu (.inl 108, 1, 0), ei_as 0, ei_st 0, ei_pu (.inl 20, 1, 0), ei_pu (.inl 32, 1, 0), ei_as 0, ei_st 0, ei_pu (.inl 21, 1, 0), ei_pu (.inl 108, 1, 0), ei_as 0, ei_st 0, ei_pu (.inl 22, 1, 0), ei_pu (.inl 111, 1, 0), ei_as 0, ei_st 0, ei_pu (.inl 23, 1, 0), ei_pu (.inl 119, 1, 0), ei_as 0, ei_st 0, ei_pu (.inl 24, 1, 0), ei_pu (.inl 32, 1, 0), ei_as 0, ei_st 0, ei_pu (.inl 25, 1, 0), ei_pu (.inl 104, 1, 0), ei_as 0, ei_st 0, ei_pu (.inl 26, 1, 0), ei_pu (.inl 105, 1, 0), ei_as 0, ei_st 0, ei_pu (.inl 27, 1, 0), ei_pu (.inl 103, 1, 0), ei_as 0, ei_st 0, ei_pu (.inl 28, 1, 0), ei_pu (.inl 104, 1, 0), ei_as 0, ei_st 0, ei_pu (.inl 29, 1, 0), ei_pu (.inl 32, 1, 0), ei_as 0, ei_st 0, ei_pu (.inl 30, 1, 0), ei_pu (.inl 118, 1, 0), ei_as 0, ei_st 0, ei_pu (.inl 31, 1, 0), ei_pu (.inl 32, 1, 0), ei_as 0, ei_st 0, ei_pu (.inl 32, 1, 0), ei_pu (.inl 119, 1, 0), ei_as 0, ei_st 0, ei_pu (.inl 33, 1, 0), ei_pu (.inl 32, 1, 0), ei_as 0, ei_st 0, ei_pu (.inl 34, 1, 0), ei_pu (.inl 100, 1, 0), ei_as 0, ei_st 0, ei_pu (.inl 35, 1, 0), ei_pu (.inl 32, 1, 0), ei_as 0, ei_pf (11, 63, 3, 93, 0), ei_la 0, ei_pu (.inl 4294967295, 0, 0), ei_pf (11, 34, 0, 96, 0), ei_la 0, ei_pu (.inl 246, 2, 0), ei_na 0, ei_pf (11, 48, 3, 99, 0), ei_la 0, ei_pu (.inl 246, 2, 0), ei_na 0, ei_pf (11, 64, 3, 102, 0), ei_la 0, ei_pu (.inl 41, 1, 0), ei_na 0, ei_pf (11, 49, 3, 105, 0), ei_la 0, ei_pu (.inl 16, 1, 0), ei_na 0, ei_pf (11, 36, 3, 108, 0), ei_la 0, ei_pu (.inl 200, 2, 0), ei_na 1, ei_pf (11, 17, 3, 111, 0), ei_la 0, ei_pu (.inl 8, 1, 0), ei_na 0, ei_pf (11, 29, 3, 115, 0), ei_la 0, ei_pu (.inl 4, 0, 0), ei_na 0, ei_pf (11, 32, 3, 118, 0), ei_la 0, ei_pu (.inl 200, 2, 0), ei_na 1, ei_pf (11, 18, 3, 121, 0), ei_la 0, ei_pu (.inl 34440, 5, 124), ei_na 0, ei_pf (11, 66, 3, 125, 0), ei_la 0, ei_pu (.inl 84, 1, 0), ei_na 0, ei_pf (11, 67, 3, 128, 0), ei_la 0, ei_pu (.inl 410, 2, 0), ei_na 2, ei_pf (11, 68, 3, 131, 0), ei_la 0, ei_pu (.inl 24, 1, 0), ei_na 0, ei_pf (11, 10, 3, 134, 0), ei_la 0, ei_pu (.inl 3300, 2, 0), ei_na 0, ei_pf (11, 5, 3, 137, 0), ei_re 2])], 0, 38, 55975, 1, ⟨"RegisterColoursModel", "<init>", "()V"⟩, prog_14_method_1_code, none)
/-- RegisterColours.set(II)Z -/
noncomputable def mt_60 : ev_M := ([(107, [ei_li 3, ei_if ((false, true, false), 1), ei_la 0, ei_ca (30, 1, 1, 96, 0, 0, 0), ei_fa 1]),
  (115, [ei_li 3, ei_re 0]),
  (76, [ei_li 1, ei_pu (.inl 2, 0, 0), ei_ic ((true, false, true), 0), ei_li 2, ei_pu (.inl 1, 0, 0), ei_ic ((true, false, false), 0), ei_li 2, ei_la 0, ei_gf (0, 1, 29, 0), ei_gf (10, 2, 81, 0), ei_ic ((false, false, true), 0), ei_la 0, ei_gf (0, 1, 29, 0), ei_li 2, ei_pf (10, 1, 0, 84, 0), ei_pu (.inl 1, 0, 0), ei_si 3, ei_fa 0]),
  (48, [ei_li 1, ei_pu (.inl 1, 0, 0), ei_ic ((true, false, true), 2), ei_li 2, ei_pu (.inl 1, 0, 0), ei_ic ((true, false, false), 2), ei_li 2, ei_pu (.inl 4, 0, 0), ei_ic ((false, false, true), 2), ei_la 0, ei_gf (0, 1, 29, 0), ei_li 2, ei_pf (10, 4, 0, 93, 0), ei_pu (.inl 1, 0, 0), ei_si 3, ei_go 0]),
  (0, [ei_pu (.inl 0, 0, 0), ei_si 3, ei_li 1, ei_if ((true, false, true), 3), ei_li 2, ei_pu (.inl 2, 0, 0), ei_ic ((true, false, false), 3), ei_li 2, ei_pu (.inl 8, 1, 0), ei_ic ((false, false, true), 3), ei_la 0, ei_gf (0, 1, 29, 0), ei_li 2, ei_pf (10, 2, 0, 81, 0), ei_la 0, ei_gf (0, 1, 29, 0), ei_la 0, ei_gf (0, 1, 29, 0), ei_gf (10, 1, 84, 0), ei_li 2, ei_dv 88, ei_pf (10, 1, 0, 84, 0), ei_pu (.inl 1, 0, 0), ei_si 3, ei_go 0])], 4, 0, 0, 4, ⟨"RegisterColours", "set", "(II)Z"⟩, prog_1_method_2_code, some .boolean)
/-- RegisterColoursModel.set(II)Z -/
noncomputable def mt_61 : ev_M := ([(16, [ei_li 1, ei_if ((true, false, true), 1), ei_la 0, ei_li 2, ei_pf (11, 4, 0, 7, 0), ei_fa 1]),
  (25, [ei_li 1, ei_pu (.inl 1, 0, 0), ei_ic ((true, false, true), 2), ei_la 0, ei_li 2, ei_pf (11, 24, 0, 13, 0), ei_fa 2]),
  (35, [ei_li 1, ei_pu (.inl 2, 0, 0), ei_ic ((true, false, true), 3), ei_la 0, ei_li 2, ei_pf (11, 27, 0, 16, 0), ei_fa 3]),
  (45, [ei_la 0, ei_la 0, ei_la 0, ei_gf (11, 27, 16, 0), ei_la 0, ei_gf (11, 4, 7, 0), ei_ca (40, 3, 12, 150, 0, 0, 0), ei_pf (11, 27, 0, 16, 0), ei_la 0, ei_pu (.inl 0, 0, 0), ei_pf (11, 25, 1, 154, 0), ei_pu (.inl 1, 0, 0), ei_re 0]),
  (0, [ei_la 0, ei_pu (.inl 0, 0, 0), ei_pf (11, 22, 0, 140, 0), ei_la 0, ei_li 1, ei_li 2, ei_ca (62, 3, 12, 146, 0, 0, 0), ei_if ((true, false, true), 0), ei_pu (.inl 0, 0, 0), ei_re 0])], 4, 0, 0, 3, ⟨"RegisterColoursModel", "set", "(II)Z"⟩, prog_14_method_11_code, some .boolean)
/-- RegisterColoursModel.canSet(II)Z -/
noncomputable def mt_62 : ev_M := ([(51, [ei_re 0]),
  (50, [ei_pu (.inl 0, 0, 0), ei_fa 0]),
  (13, [ei_li 1, ei_pu (.inl 1, 0, 0), ei_ic ((true, false, true), 3), ei_la 0, ei_li 2, ei_pu (.inl 1, 0, 0), ei_pu (.inl 4, 0, 0), ei_ca (18, 4, 12, 143, 0, 0, 0), ei_go 0]),
  (28, [ei_li 1, ei_pu (.inl 2, 0, 0), ei_ic ((true, false, true), 1), ei_la 0, ei_li 2, ei_pu (.inl 1, 0, 0), ei_la 0, ei_gf (11, 4, 7, 0), ei_ca (18, 4, 12, 143, 0, 0, 0), ei_if ((false, true, false), 1), ei_pu (.inl 1, 0, 0), ei_go 0]),
  (0, [ei_li 1, ei_if ((true, false, true), 2), ei_la 0, ei_li 2, ei_pu (.inl 2, 0, 0), ei_pu (.inl 8, 1, 0), ei_ca (18, 4, 12, 143, 0, 0, 0), ei_re 0])], 4, 0, 0, 3, ⟨"RegisterColoursModel", "canSet", "(II)Z"⟩, prog_14_method_10_code, some .boolean)
/-- RegisterColours.feed(IIIII)I -/
noncomputable def mt_63 : ev_M := ([(0, [ei_la 0, ei_gf (0, 0, 13, 0), ei_pu (.inl 20, 1, 0), ei_ib 0, ei_pu (.inl 400, 2, 0), ei_ic ((true, true, false), 1)]),
  (15, [ei_la 0, ei_li 1, ei_ca (34, 2, 1, 99, 0, 0, 0), ei_la 0, ei_li 2, ei_ca (34, 2, 1, 99, 0, 0, 0), ei_la 0, ei_li 3, ei_ca (34, 2, 1, 99, 0, 0, 0), ei_la 0, ei_li 4, ei_ca (34, 2, 1, 99, 0, 0, 0), ei_la 0, ei_li 5, ei_ca (34, 2, 1, 99, 0, 0, 0), ei_la 0, ei_gf (0, 0, 13, 0), ei_re 0])], 0, 0, 0, 6, ⟨"RegisterColours", "feed", "(IIIII)I"⟩, prog_1_method_3_code, some .int)
/-- RegisterColoursModel.feed(IIIII)I -/
noncomputable def mt_64 : ev_M := ([(0, [ei_la 0, ei_pu (.inl 0, 0, 0), ei_pf (11, 22, 0, 140, 0), ei_la 0, ei_gf (11, 20, 363, 0), ei_pu (.inl 380, 2, 0), ei_ic ((true, true, false), 1)]),
  (17, [ei_la 0, ei_li 1, ei_ca (35, 2, 12, 366, 0, 0, 0), ei_la 0, ei_li 2, ei_ca (35, 2, 12, 366, 0, 0, 0), ei_la 0, ei_li 3, ei_ca (35, 2, 12, 366, 0, 0, 0), ei_la 0, ei_li 4, ei_ca (35, 2, 12, 366, 0, 0, 0), ei_la 0, ei_li 5, ei_ca (35, 2, 12, 366, 0, 0, 0), ei_la 0, ei_gf (11, 20, 363, 0), ei_re 0])], 0, 0, 0, 6, ⟨"RegisterColoursModel", "feed", "(IIIII)I"⟩, prog_14_method_67_code, some .int)
/-- RegisterColours.end(I)Z -/
noncomputable def mt_65 : ev_M := ([(12, [ei_pu (.inl 0, 0, 0), ei_re 0]),
  (0, [ei_li 1, ei_if ((true, false, false), 0), ei_li 1, ei_la 0, ei_gf (0, 0, 13, 0), ei_ic ((true, true, false), 2), ei_fa 0]),
  (14, [ei_la 0, ei_li 1, ei_pf (0, 0, 0, 13, 0), ei_pu (.inl 1, 0, 0), ei_re 0])], 1, 0, 0, 2, ⟨"RegisterColours", "end", "(I)Z"⟩, prog_1_method_4_code, some .boolean)
/-- RegisterColoursModel.end(I)Z -/
noncomputable def mt_66 : ev_M := ([(0, [ei_la 0, ei_pu (.inl 0, 0, 0), ei_pf (11, 22, 0, 140, 0), ei_la 0, ei_li 1, ei_pu (.inl 0, 0, 0), ei_la 0, ei_gf (11, 20, 363, 0), ei_ca (18, 4, 12, 143, 0, 0, 0), ei_if ((true, false, true), 1), ei_pu (.inl 0, 0, 0), ei_re 0]),
  (20, [ei_la 0, ei_li 1, ei_pf (11, 20, 0, 363, 0), ei_pu (.inl 1, 0, 0), ei_re 0])], 0, 0, 0, 2, ⟨"RegisterColoursModel", "end", "(I)Z"⟩, prog_14_method_68_code, some .boolean)
/-- RegisterColours.code()I -/
noncomputable def mt_67 : ev_M := ([(0, [ei_la 0, ei_gf (0, 6, 22, 0), ei_la 0, ei_gf (0, 0, 13, 0), ei_ca (68, 2, 7, 103, 0, 0, 0), ei_si 1, ei_la 0, ei_pu (.inl 0, 0, 0), ei_pf (0, 0, 0, 13, 0), ei_li 1, ei_if ((true, false, true), 1)]),
  (23, [ei_la 0, ei_gf (0, 1, 29, 0), ei_gf (10, 5, 39, 0), ei_la 0, ei_gf (0, 6, 22, 0), ei_gf (6, 2, 107, 0), ei_ca (36, 2, 10, 110, 0, 0, 0), ei_la 0, ei_gf (0, 1, 29, 0), ei_la 0, ei_gf (0, 6, 22, 0), ei_gf (6, 0, 116, 0), ei_pf (10, 7, 0, 119, 0), ei_la 0, ei_ca (30, 1, 1, 96, 0, 0, 0), ei_la 0, ei_gf (0, 1, 29, 0), ei_gf (10, 7, 119, 0), ei_re 0])], 0, 0, 0, 2, ⟨"RegisterColours", "code", "()I"⟩, prog_1_method_5_code, some .int)
/-- RegisterColours$Reader.readText(I)Z -/
noncomputable def mt_68 : ev_M := ([(0, [ei_la 0, ei_li 1, ei_ca (69, 2, 7, 53, 0, 0, 0), ei_la 0, ei_pu (.inl 0, 0, 0), ei_pf (6, 5, 0, 46, 0), ei_la 0, ei_pu (.inl 0, 0, 0), ei_pf (6, 0, 0, 20, 0), ei_la 0, ei_pu (.inl 0, 0, 0), ei_pf (6, 1, 0, 24, 0), ei_la 0, ei_pu (.inl 4294967295, 0, 0), ei_pf (6, 3, 0, 27, 0), ei_la 0, ei_gf (6, 2, 14, 0), ei_pu (.inl 0, 0, 0), ei_pf (9, 0, 0, 56, 0), ei_pu (.inl 0, 0, 0), ei_si 2, ei_li 2, ei_pu (.inl 40, 1, 0), ei_ic ((false, false, true), 1), ei_la 0, ei_gf (6, 4, 30, 0), ei_la 0, ei_gf (6, 5, 46, 0), ei_al 0, ei_if ((false, true, false), 1)]),
  (70, [ei_la 0, ei_gf (6, 1, 24, 0), ei_if ((true, false, true), 2), ei_la 0, ei_ca (70, 1, 7, 62, 0, 0, 0), ei_fa 2]),
  (81, [ei_la 0, ei_gf (6, 1, 24, 0), ei_if ((true, false, true), 4), ei_pu (.inl 1, 0, 0), ei_go 3]),
  (93, [ei_re 0]),
  (92, [])], 0, 0, 0, 3, ⟨"RegisterColours$Reader", "readText", "(I)Z"⟩, prog_8_method_2_code, some .boolean)
/-- RegisterColours$Reader.cutTokens(I)V -/
noncomputable def mt_69 : ev_M := ([(0, [ei_pu (.inl 0, 0, 0), ei_si 2, ei_pu (.inl 0, 0, 0), ei_si 3, ei_pu (.inl 0, 0, 0), ei_si 4, ei_li 4, ei_pu (.inl 400, 2, 0), ei_ic ((false, true, true), 1), ei_li 3, ei_li 1, ei_ic ((false, true, true), 1)]),
  (99, [ei_la 0, ei_gf (6, 4, 30, 0), ei_li 2, ei_pu (.inl 0, 0, 0), ei_as 0, ei_la 0, ei_gf (6, 6, 34, 0), ei_li 2, ei_li 1, ei_as 0, ei_re 2])], 0, 0, 0, 6, ⟨"RegisterColours$Reader", "cutTokens", "(I)V"⟩, prog_8_method_18_code, none)
/-- RegisterColours$Reader.settleJumps()V -/
noncomputable def mt_70 : ev_M := ([(0, [ei_la 0, ei_gf (6, 7, 40, 0), ei_la 0, ei_gf (6, 0, 20, 0), ei_la 0, ei_gf (6, 2, 14, 0), ei_gf (9, 0, 56, 0), ei_as 0, ei_pu (.inl 0, 0, 0), ei_si 1, ei_li 1, ei_la 0, ei_gf (6, 0, 20, 0), ei_ic ((false, true, true), 1)]),
  (114, [ei_re 2])], 0, 0, 0, 3, ⟨"RegisterColours$Reader", "settleJumps", "()V"⟩, prog_8_method_17_code, none)
/-- RegisterColoursModel.code()I -/
noncomputable def mt_71 : ev_M := ([(0, [ei_la 0, ei_pu (.inl 0, 0, 0), ei_pf (11, 22, 0, 140, 0), ei_la 0, ei_pu (.inl 0, 0, 0), ei_pf (11, 47, 0, 448, 0), ei_la 0, ei_pu (.inl 4294967295, 0, 0), ei_pf (11, 34, 0, 96, 0), ei_la 0, ei_ca (72, 1, 12, 451, 0, 0, 0), ei_si 1, ei_la 0, ei_pu (.inl 0, 0, 0), ei_pf (11, 20, 0, 363, 0), ei_li 1, ei_pu (.inl 4294967295, 0, 0), ei_ic ((true, false, true), 1)]),
  (48, [ei_pu (.inl 0, 0, 0), ei_si 2, ei_li 2, ei_pu (.inl 6, 1, 0), ei_li 1, ei_ib 1, ei_ic ((false, true, true), 2)]),
  (76, [ei_la 0, ei_li 1, ei_pf (11, 30, 0, 445, 0), ei_la 0, ei_ca (74, 1, 12, 454, 0, 0, 0), ei_la 0, ei_pu (.inl 0, 0, 0), ei_pf (11, 25, 1, 154, 0), ei_li 1, ei_re 0])], 0, 0, 0, 3, ⟨"RegisterColoursModel", "code", "()I"⟩, prog_14_method_89_code, some .int)
/-- RegisterColoursModel.readCode()I -/
noncomputable def mt_72 : ev_M := ([(0, [ei_la 0, ei_pu (.inl 0, 0, 0), ei_pf (11, 35, 0, 414, 0), ei_la 0, ei_pu (.inl 0, 0, 0), ei_pf (11, 31, 0, 369, 0), ei_la 0, ei_ca (73, 1, 12, 408, 0, 0, 0), ei_la 0, ei_gf (11, 33, 378, 0), ei_if ((false, true, false), 1)]),
  (31, [ei_pu (.inl 0, 0, 0), ei_si 1, ei_li 1, ei_la 0, ei_gf (11, 35, 414, 0), ei_ic ((false, true, true), 2)]),
  (120, [ei_la 0, ei_gf (11, 35, 414, 0), ei_re 0])], 0, 0, 0, 4, ⟨"RegisterColoursModel", "readCode", "()I"⟩, prog_14_method_87_code, some .int)
/-- RegisterColoursModel.reads()V -/
noncomputable def mt_73 : ev_M := ([(0, [ei_la 0, ei_la 0, ei_gf (11, 31, 369, 0), ei_ca (41, 2, 12, 372, 0, 0, 0), ei_pu (.inl 32, 1, 0), ei_ic ((false, true, false), 2), ei_la 0, ei_la 0, ei_gf (11, 31, 369, 0), ei_ca (41, 2, 12, 372, 0, 0, 0), ei_pu (.inl 10, 1, 0), ei_ic ((true, false, true), 1), ei_fa 2]),
  (39, [ei_la 0, ei_la 0, ei_gf (11, 31, 369, 0), ei_pf (11, 62, 0, 375, 0), ei_la 0, ei_pu (.inl 1, 0, 0), ei_pf (11, 33, 0, 378, 0), ei_la 0, ei_la 0, ei_gf (11, 31, 369, 0), ei_ca (41, 2, 12, 372, 0, 0, 0), ei_si 1, ei_li 1, ei_pu (.inl 4294967295, 0, 0), ei_ic ((true, false, true), 3), ei_la 0, ei_pu (.inl 0, 0, 0), ei_pf (11, 33, 0, 378, 0), ei_re 2]),
  (26, []),
  (72, [])], 0, 0, 0, 2, ⟨"RegisterColoursModel", "reads", "()V"⟩, prog_14_method_74_code, none)
/-- RegisterColoursModel.makesSteps()V -/
noncomputable def mt_74 : ev_M := ([(0, [ei_la 0, ei_gf (11, 19, 23, 0), ei_pu (.inl 0, 0, 0), ei_pu (.inl 0, 0, 0), ei_as 0, ei_pu (.inl 0, 0, 0), ei_si 1, ei_li 1, ei_la 0, ei_gf (11, 30, 445, 0), ei_ic ((false, true, true), 1)]),
  (142, [ei_la 0, ei_gf (11, 49, 105, 0), ei_la 0, ei_gf (11, 30, 445, 0), ei_la 0, ei_gf (11, 19, 23, 0), ei_pu (.inl 0, 0, 0), ei_al 0, ei_as 0, ei_pu (.inl 0, 0, 0), ei_si 1, ei_li 1, ei_la 0, ei_gf (11, 19, 23, 0), ei_pu (.inl 0, 0, 0), ei_al 0, ei_ic ((false, true, true), 2)]),
  (209, [ei_re 2])], 0, 0, 0, 3, ⟨"RegisterColoursModel", "makesSteps", "()V"⟩, prog_14_method_88_code, none)
/-- RegisterColours.fault(I)I -/
noncomputable def mt_75 : ev_M := ([(28, [ei_re 0]),
  (12, [ei_li 1, ei_pu (.inl 1, 0, 0), ei_ic ((true, false, true), 2), ei_la 0, ei_gf (0, 6, 22, 0), ei_gf (6, 3, 123, 0), ei_go 0]),
  (27, [ei_pu (.inl 4294967295, 0, 0), ei_fa 0]),
  (0, [ei_li 1, ei_if ((true, false, true), 1), ei_la 0, ei_gf (0, 6, 22, 0), ei_gf (6, 1, 120, 0), ei_re 0])], 3, 0, 0, 2, ⟨"RegisterColours", "fault", "(I)I"⟩, prog_1_method_6_code, some .int)
/-- RegisterColoursModel.fault(I)I -/
noncomputable def mt_76 : ev_M := ([(29, [ei_re 0]),
  (16, [ei_li 1, ei_pu (.inl 1, 0, 0), ei_ic ((true, false, true), 2), ei_la 0, ei_gf (11, 34, 96, 0), ei_go 0]),
  (28, [ei_pu (.inl 4294967295, 0, 0), ei_fa 0]),
  (0, [ei_la 0, ei_pu (.inl 0, 0, 0), ei_pf (11, 22, 0, 140, 0), ei_li 1, ei_if ((true, false, true), 1), ei_la 0, ei_gf (11, 47, 448, 0), ei_go 0])], 3, 0, 0, 2, ⟨"RegisterColoursModel", "fault", "(I)I"⟩, prog_14_method_90_code, some .int)
/-- RegisterColours.input(IZ)I -/
noncomputable def mt_77 : ev_M := ([(18, [ei_li 2, ei_if ((false, true, false), 3), ei_la 0, ei_gf (0, 1, 29, 0), ei_gf (10, 8, 129, 0), ei_la 0, ei_gf (0, 1, 29, 0), ei_gf (10, 6, 126, 0), ei_li 1, ei_as 0, ei_la 0, ei_gf (0, 1, 29, 0), ei_st 0, ei_gf (10, 6, 126, 0), ei_pu (.inl 1, 0, 0), ei_ib 0, ei_pf (10, 6, 0, 126, 0), ei_go 1]),
  (62, [ei_la 0, ei_pu (.inl 4294967295, 0, 0), ei_pf (0, 5, 0, 63, 0), ei_la 0, ei_gf (0, 1, 29, 0), ei_gf (10, 6, 126, 0), ei_re 0]),
  (0, [ei_li 2, ei_if ((false, true, false), 0), ei_la 0, ei_gf (0, 1, 29, 0), ei_gf (10, 6, 126, 0), ei_pu (.inl 16, 1, 0), ei_ic ((true, false, false), 0)]),
  (54, [ei_la 0, ei_gf (0, 1, 29, 0), ei_pu (.inl 0, 0, 0), ei_pf (10, 6, 0, 126, 0), ei_fa 1])], 2, 0, 0, 3, ⟨"RegisterColours", "input", "(IZ)I"⟩, prog_1_method_7_code, some .int)
/-- RegisterColoursModel.input(IZ)I -/
noncomputable def mt_78 : ev_M := ([(0, [ei_la 0, ei_pu (.inl 0, 0, 0), ei_pf (11, 22, 0, 140, 0), ei_li 2, ei_if ((true, false, true), 1), ei_la 0, ei_pu (.inl 0, 0, 0), ei_pf (11, 28, 0, 457, 0), ei_pu (.inl 0, 0, 0), ei_re 0]),
  (16, [ei_la 0, ei_gf (11, 28, 457, 0), ei_pu (.inl 16, 1, 0), ei_ic ((true, false, true), 2)]),
  (27, [ei_la 0, ei_gf (11, 36, 108, 0), ei_la 0, ei_gf (11, 28, 457, 0), ei_li 1, ei_as 0, ei_la 0, ei_la 0, ei_gf (11, 28, 457, 0), ei_pu (.inl 1, 0, 0), ei_ib 0, ei_pf (11, 28, 0, 457, 0), ei_la 0, ei_gf (11, 28, 457, 0), ei_re 0])], 0, 0, 0, 3, ⟨"RegisterColoursModel", "input", "(IZ)I"⟩, prog_14_method_91_code, some .int)
/-- RegisterColours.allocate()I -/
noncomputable def mt_79 : ev_M := ([(0, [ei_la 0, ei_gf (0, 9, 66, 0), ei_nn 1, ei_la 0, ei_nw (1, 132, [.inr (.inl 0), .inr (.inl 0), .inr (.inl 0), .inr (.inl 0), .inr (.inl 0)]), ei_st 0, ei_ca (80, 1, 2, 134, 5, 42, 10695), ei_pf (0, 9, 3, 66, 0), ei_fa 1]),
  (18, [ei_la 0, ei_gf (0, 9, 66, 0), ei_la 0, ei_gf (0, 1, 29, 0), ei_ca (84, 2, 2, 135, 0, 0, 0), ei_si 1, ei_li 1, ei_pu (.inl 4294967295, 0, 0), ei_ic ((false, true, false), 2), ei_la 0, ei_gf (0, 1, 29, 0), ei_gf (10, 9, 139, 0), ei_la 0, ei_gf (0, 9, 66, 0), ei_gf (1, 0, 143, 0), ei_ca (93, 2, 5, 146, 0, 0, 0), ei_la 0, ei_gf (0, 1, 29, 0), ei_pu (.inl 1, 0, 0), ei_pf (10, 3, 1, 151, 0), ei_la 0, ei_pu (.inl 4294967295, 0, 0), ei_pf (0, 5, 0, 63, 0), ei_fa 2]),
  (65, [ei_li 1, ei_re 0])], 0, 43, 10700, 2, ⟨"RegisterColours", "allocate", "()I"⟩, prog_1_method_8_code, some .int)
/-- RegisterColours$Allocator.<init>()V -/
noncomputable def mt_80 : ev_M := ([(0, [ei_la 0, ei_oi 3, ei_la 0, ei_nw (4, 9, [.inr (.inl 0), .inr (.inl 0), .inr (.inl 0), .inl 0, .inr (.inl 0), .inl 0, .inl 0, .inl 0, .inr (.inl 0), .inl 0, .inl 0, .inl 0, .inl 0]), ei_st 0, ei_ca (39, 1, 5, 11, 5, 10, 2806), ei_pf (1, 0, 3, 12, 0), ei_la 0, ei_nw (3, 18, [.inl 0, .inr (.inl 0), .inl 0, .inl 0, .inr (.inl 0), .inl 0, .inr (.inl 0), .inr (.inl 0), .inr (.inl 0), .inr (.inl 0), .inl 0, .inr (.inl 0), .inr (.inl 0), .inl 0, .inr (.inl 0), .inr (.inl 0), .inr (.inl 0), .inr (.inl 0)]), ei_st 0, ei_la 0, ei_gf (1, 0, 12, 0), ei_gf (4, 2, 20, 0), ei_la 0, ei_gf (1, 0, 12, 0), ei_gf (4, 4, 24, 0), ei_ca (47, 3, 4, 28, 2, 10, 3424), ei_pf (1, 3, 3, 31, 0), ei_la 0, ei_nw (5, 35, [.inr (.inl 0), .inr (.inl 0), .inr (.inl 0), .inl 0, .inl 0, .inr (.inl 0)]), ei_st 0, ei_la 0, ei_gf (1, 0, 12, 0), ei_gf (4, 2, 20, 0), ei_la 0, ei_gf (1, 3, 31, 0), ei_ca (81, 3, 6, 37, 2, 2, 600), ei_pf (1, 1, 3, 40, 0), ei_la 0, ei_nw (2, 44, [.inr (.inl 0), .inr (.inl 0), .inr (.inl 0), .inr (.inl 0), .inl 0, .inl 0, .inl 0, .inr (.inl 0), .inr (.inl 0), .inr (.inl 0)]), ei_st 0, ei_la 0, ei_gf (1, 3, 31, 0), ei_ca (82, 2, 3, 46, 2, 6, 1004), ei_pf (1, 2, 3, 49, 0), ei_la 0, ei_nw (8, 53, [.inr (.inl 0), .inr (.inl 0), .inr (.inl 0), .inr (.inl 0), .inr (.inl 0), .inr (.inl 0), .inr (.inl 0)]), ei_st 0, ei_la 0, ei_gf (1, 0, 12, 0), ei_la 0, ei_gf (1, 1, 40, 0), ei_gf (5, 0, 55, 0), ei_ca (83, 3, 9, 58, 2, 9, 2807), ei_pf (1, 4, 3, 61, 0), ei_re 2])], 0, 42, 10695, 1, ⟨"RegisterColours$Allocator", "<init>", "()V"⟩, prog_2_method_1_code, none)
/-- RegisterColours$Merger.<init>(LRegisterColours$Steps;LRegisterColours$Graph;)V -/
noncomputable def mt_81 : ev_M := ([(0, [ei_la 0, ei_oi 3, ei_la 0, ei_pu (.inl 200, 2, 0), ei_na 0, ei_pf (5, 0, 3, 9, 0), ei_la 0, ei_pu (.inl 0, 0, 0), ei_pf (5, 3, 0, 15, 0), ei_la 0, ei_pu (.inl 400, 2, 0), ei_na 0, ei_pf (5, 5, 3, 19, 0), ei_la 0, ei_pu (.inl 0, 0, 0), ei_pf (5, 4, 0, 22, 0), ei_la 0, ei_la 1, ei_pf (5, 2, 3, 25, 0), ei_la 0, ei_la 2, ei_pf (5, 1, 3, 29, 0), ei_re 2])], 0, 2, 600, 3, ⟨"RegisterColours$Merger", "<init>", "(LRegisterColours$Steps;LRegisterColours$Graph;)V"⟩, prog_6_method_1_code, none)
/-- RegisterColours$Colourer.<init>(LRegisterColours$Graph;)V -/
noncomputable def mt_82 : ev_M := ([(0, [ei_la 0, ei_oi 3, ei_la 0, ei_pu (.inl 200, 2, 0), ei_na 0, ei_pf (2, 1, 3, 9, 0), ei_la 0, ei_pu (.inl 200, 2, 0), ei_na 2, ei_pf (2, 2, 3, 15, 0), ei_la 0, ei_pu (.inl 0, 0, 0), ei_pf (2, 4, 0, 19, 0), ei_la 0, ei_pu (.inl 0, 0, 0), ei_pf (2, 5, 0, 23, 0), ei_la 0, ei_pu (.inl 200, 2, 0), ei_na 0, ei_pf (2, 7, 3, 26, 0), ei_la 0, ei_pu (.inl 200, 2, 0), ei_na 2, ei_pf (2, 8, 3, 29, 0), ei_la 0, ei_pu (.inl 0, 0, 0), ei_pf (2, 6, 0, 32, 0), ei_la 0, ei_pu (.inl 200, 2, 0), ei_na 0, ei_pf (2, 9, 3, 35, 0), ei_la 0, ei_la 1, ei_pf (2, 0, 3, 38, 0), ei_la 0, ei_la 1, ei_gf (3, 0, 42, 1), ei_na 1, ei_pf (2, 3, 3, 47, 0), ei_re 2])], 0, 6, 1004, 2, ⟨"RegisterColours$Colourer", "<init>", "(LRegisterColours$Graph;)V"⟩, prog_3_method_1_code, none)
/-- RegisterColours$Spiller.<init>(LRegisterColours$Left;[I)V -/
noncomputable def mt_83 : ev_M := ([(0, [ei_la 0, ei_oi 3, ei_la 0, ei_pu (.inl 200, 2, 0), ei_na 0, ei_pf (8, 0, 3, 9, 0), ei_la 0, ei_pu (.inl 200, 2, 0), ei_na 0, ei_pf (8, 1, 3, 15, 0), ei_la 0, ei_pu (.inl 401, 2, 0), ei_na 0, ei_pf (8, 2, 3, 18, 0), ei_la 0, ei_nw (9, 21, [.inl 0, .inr (.inl 0), .inr (.inl 0), .inr (.inl 0), .inr (.inl 0), .inr (.inl 0)]), ei_st 0, ei_pu (.inl 400, 2, 0), ei_ca (32, 2, 10, 23, 2, 5, 2000), ei_pf (8, 3, 3, 26, 0), ei_la 0, ei_la 1, ei_pf (8, 4, 3, 30, 0), ei_la 0, ei_la 1, ei_gf (4, 2, 34, 0), ei_pf (8, 5, 3, 39, 0), ei_la 0, ei_la 2, ei_pf (8, 6, 3, 40, 0), ei_re 2])], 0, 9, 2807, 3, ⟨"RegisterColours$Spiller", "<init>", "(LRegisterColours$Left;[I)V"⟩, prog_10_method_1_code, none)
/-- RegisterColours$Allocator.doRounds(LRegisterColours$Told;)I -/
noncomputable def mt_84 : ev_M := ([(0, [ei_la 0, ei_gf (1, 0, 12, 0), ei_la 1, ei_gf (10, 5, 65, 0), ei_ca (85, 2, 5, 70, 0, 0, 0), ei_pu (.inl 1, 0, 0), ei_si 2, ei_li 2, ei_pu (.inl 8, 1, 0), ei_ic ((false, false, true), 2), ei_la 0, ei_gf (1, 3, 31, 0), ei_la 1, ei_la 0, ei_gf (1, 0, 12, 0), ei_gf (4, 5, 74, 0), ei_ca (22, 3, 4, 78, 0, 0, 0), ei_la 0, ei_gf (1, 1, 40, 0), ei_ca (86, 1, 6, 82, 0, 0, 0), ei_la 0, ei_gf (1, 2, 49, 0), ei_ca (88, 1, 3, 85, 0, 0, 0), ei_la 0, ei_gf (1, 2, 49, 0), ei_ca (91, 1, 3, 88, 0, 0, 0), ei_la 0, ei_gf (1, 0, 12, 0), ei_la 0, ei_gf (1, 1, 40, 0), ei_gf (5, 3, 91, 0), ei_pf (4, 7, 0, 94, 0), ei_la 0, ei_gf (1, 0, 12, 0), ei_st 0, ei_gf (4, 3, 95, 0), ei_la 0, ei_gf (1, 2, 49, 0), ei_gf (2, 5, 98, 0), ei_ib 0, ei_pf (4, 3, 0, 95, 0), ei_la 0, ei_gf (1, 2, 49, 0), ei_gf (2, 4, 99, 0), ei_if ((true, false, true), 1), ei_la 0, ei_gf (1, 0, 12, 0), ei_li 2, ei_pf (4, 6, 0, 102, 0), ei_la 0, ei_ca (92, 1, 2, 105, 0, 0, 0), ei_li 2, ei_re 0]),
  (112, []),
  (141, [])], 0, 0, 0, 3, ⟨"RegisterColours$Allocator", "doRounds", "(LRegisterColours$Told;)I"⟩, prog_2_method_2_code, some .int)
/-- RegisterColours$Left.begin(LRegisterColours$Steps;)V -/
noncomputable def mt_85 : ev_M := ([(0, [ei_la 0, ei_gf (4, 2, 14, 0), ei_la 1, ei_ca (36, 2, 10, 58, 0, 0, 0), ei_la 0, ei_gf (4, 4, 20, 0), ei_ca (48, 1, 0, 62, 4, 0, 0), ei_la 0, ei_gf (4, 0, 24, 0), ei_pu (.inl 4294967295, 0, 0), ei_ca (19, 2, 0, 66, 1, 0, 0), ei_la 0, ei_gf (4, 8, 27, 0), ei_pu (.inl 0, 0, 0), ei_ca (19, 2, 0, 66, 1, 0, 0), ei_la 0, ei_gf (4, 1, 30, 0), ei_pu (.inl 4294967295, 0, 0), ei_ca (19, 2, 0, 66, 1, 0, 0), ei_la 0, ei_pu (.inl 44, 1, 0), ei_pf (4, 5, 0, 33, 0), ei_la 0, ei_pu (.inl 0, 0, 0), ei_pf (4, 6, 0, 37, 0), ei_la 0, ei_pu (.inl 0, 0, 0), ei_pf (4, 9, 0, 40, 0), ei_la 0, ei_pu (.inl 0, 0, 0), ei_pf (4, 10, 0, 43, 0), ei_la 0, ei_pu (.inl 0, 0, 0), ei_pf (4, 11, 0, 46, 0), ei_la 0, ei_pu (.inl 0, 0, 0), ei_pf (4, 7, 0, 49, 0), ei_la 0, ei_pu (.inl 0, 0, 0), ei_pf (4, 12, 0, 52, 0), ei_la 0, ei_pu (.inl 0, 0, 0), ei_pf (4, 3, 0, 55, 0), ei_re 2])], 0, 0, 0, 2, ⟨"RegisterColours$Left", "begin", "(LRegisterColours$Steps;)V"⟩, prog_5_method_2_code, none)
/-- RegisterColours$Merger.mergeMoves()V -/
noncomputable def mt_86 : ev_M := ([(7, [ei_li 1, ei_pu (.inl 200, 2, 0), ei_ic ((false, true, true), 5), ei_la 0, ei_gf (5, 0, 9, 0), ei_li 1, ei_li 1, ei_la 0, ei_gf (5, 1, 29, 0), ei_gf (3, 2, 33, 0), ei_ic ((false, true, true), 2), ei_la 0, ei_gf (5, 1, 29, 0), ei_li 1, ei_ca (11, 2, 4, 38, 0, 0, 0), ei_if ((false, true, false), 2), ei_li 1, ei_go 1]),
  (46, [ei_as 0, ei_ii (1, 1), ei_go 0]),
  (45, [ei_pu (.inl 4294967295, 0, 0), ei_fa 1]),
  (61, [ei_li 2, ei_pu (.inl 1000000, 5, 45), ei_ic ((false, true, true), 7), ei_li 1, ei_if ((false, true, false), 7), ei_pu (.inl 0, 0, 0), ei_si 1, ei_pu (.inl 0, 0, 0), ei_si 3, ei_li 3, ei_la 0, ei_gf (5, 4, 22, 0), ei_ic ((false, true, true), 6)]),
  (0, [ei_la 0, ei_pu (.inl 0, 0, 0), ei_pf (5, 3, 0, 15, 0), ei_pu (.inl 0, 0, 0), ei_si 1, ei_fa 0]),
  (53, [ei_la 0, ei_ca (87, 1, 6, 42, 0, 0, 0), ei_pu (.inl 1, 0, 0), ei_si 1, ei_pu (.inl 0, 0, 0), ei_si 2, ei_fa 3]),
  (136, [ei_ii (2, 1), ei_go 3]),
  (142, [ei_re 2])], 4, 0, 0, 5, ⟨"RegisterColours$Merger", "mergeMoves", "()V"⟩, prog_6_method_2_code, none)
/-- RegisterColours$Merger.orderMoves()V -/
noncomputable def mt_87 : ev_M := ([(9, [ei_li 1, ei_if ((true, true, false), 3), ei_pu (.inl 0, 0, 0), ei_si 2, ei_li 2, ei_la 0, ei_gf (5, 2, 25, 0), ei_gf (9, 0, 58, 0), ei_ic ((false, true, true), 1)]),
  (83, [ei_li 1, ei_pu (.inl 10, 1, 0), ei_dv 0, ei_si 1, ei_go 0]),
  (0, [ei_la 0, ei_pu (.inl 0, 0, 0), ei_pf (5, 4, 0, 22, 0), ei_pu (.inl 1000, 2, 0), ei_si 1, ei_fa 0]),
  (91, [ei_re 2])], 2, 0, 0, 3, ⟨"RegisterColours$Merger", "orderMoves", "()V"⟩, prog_6_method_3_code, none)
/-- RegisterColours$Colourer.layAll()V -/
noncomputable def mt_88 : ev_M := ([(0, [ei_la 0, ei_gf (2, 0, 38, 0), ei_gf (3, 6, 51, 0), ei_pu (.inl 0, 0, 0), ei_la 0, ei_gf (2, 3, 47, 0), ei_pu (.inl 0, 0, 0), ei_la 0, ei_gf (2, 3, 47, 0), ei_an, ei_cy 54, ei_la 0, ei_pu (.inl 8, 1, 0), ei_ca (42, 2, 3, 60, 0, 0, 0), ei_si 1, ei_li 1, ei_la 0, ei_gf (2, 0, 38, 0), ei_gf (3, 2, 64, 0), ei_ic ((false, true, true), 1)]),
  (68, [ei_la 0, ei_pu (.inl 0, 0, 0), ei_pf (2, 6, 0, 32, 0), ei_pu (.inl 0, 0, 0), ei_si 1, ei_li 1, ei_pu (.inl 200, 2, 0), ei_ic ((false, true, true), 6), ei_la 0, ei_ca (89, 1, 3, 71, 0, 0, 0), ei_si 2, ei_li 2, ei_pu (.inl 4294967295, 0, 0), ei_ic ((true, false, true), 4), ei_pu (.inl 1, 0, 0), ei_go 2]),
  (97, [ei_si 3, ei_li 3, ei_if ((false, true, false), 3), ei_la 0, ei_ca (90, 1, 3, 75, 0, 0, 0), ei_si 2, ei_fa 3]),
  (107, [ei_li 2, ei_pu (.inl 4294967295, 0, 0), ei_ic ((true, false, true), 5), ei_re 2]),
  (96, []),
  (113, []),
  (154, [])], 0, 0, 0, 4, ⟨"RegisterColours$Colourer", "layAll", "()V"⟩, prog_3_method_2_code, none)
/-- RegisterColours$Colourer.leastLight()I -/
noncomputable def mt_89 : ev_M := ([(0, [ei_la 0, ei_pu (.inl 8, 1, 0), ei_ca (42, 2, 3, 60, 0, 0, 0), ei_si 1, ei_li 1, ei_la 0, ei_gf (2, 0, 38, 0), ei_gf (3, 2, 64, 0), ei_ic ((false, true, true), 1)]),
  (48, [ei_pu (.inl 4294967295, 0, 0), ei_re 0])], 0, 0, 0, 2, ⟨"RegisterColours$Colourer", "leastLight", "()I"⟩, prog_3_method_5_code, some .int)
/-- RegisterColours$Colourer.cheapest()I -/
noncomputable def mt_90 : ev_M := ([(0, [ei_pu (.inl 4294967295, 0, 0), ei_si 1, ei_la 0, ei_pu (.inl 8, 1, 0), ei_ca (42, 2, 3, 60, 0, 0, 0), ei_si 2, ei_li 2, ei_la 0, ei_gf (2, 0, 38, 0), ei_gf (3, 2, 64, 0), ei_ic ((false, true, true), 1)]),
  (47, [ei_li 1, ei_re 0])], 0, 0, 0, 3, ⟨"RegisterColours$Colourer", "cheapest", "()I"⟩, prog_3_method_6_code, some .int)
/-- RegisterColours$Colourer.colourAll()V -/
noncomputable def mt_91 : ev_M := ([(12, [ei_li 1, ei_pu (.inl 200, 2, 0), ei_ic ((false, true, true), 4), ei_la 0, ei_gf (2, 1, 9, 0), ei_li 1, ei_li 1, ei_la 0, ei_gf (2, 0, 38, 0), ei_gf (3, 3, 107, 0), ei_ic ((false, true, true), 2), ei_li 1, ei_go 1]),
  (40, [ei_as 0, ei_la 0, ei_gf (2, 2, 15, 0), ei_li 1, ei_pu (.inl 0, 0, 0), ei_as 2, ei_ii (1, 1), ei_go 0]),
  (39, [ei_pu (.inl 4294967295, 0, 0), ei_fa 1]),
  (0, [ei_la 0, ei_pu (.inl 0, 0, 0), ei_pf (2, 4, 0, 19, 0), ei_la 0, ei_pu (.inl 0, 0, 0), ei_pf (2, 5, 0, 23, 0), ei_pu (.inl 0, 0, 0), ei_si 1, ei_fa 0]),
  (54, [ei_la 0, ei_gf (2, 6, 32, 0), ei_pu (.inl 1, 0, 0), ei_ib 4, ei_si 1, ei_li 1, ei_if ((true, false, false), 5)]),
  (151, [ei_re 2])], 3, 0, 0, 3, ⟨"RegisterColours$Colourer", "colourAll", "()V"⟩, prog_3_method_8_code, none)
/-- RegisterColours$Allocator.keepColours()V -/
noncomputable def mt_92 : ev_M := ([(2, [ei_li 1, ei_pu (.inl 200, 2, 0), ei_ic ((false, true, true), 4), ei_la 0, ei_gf (1, 1, 40, 0), ei_gf (5, 0, 55, 0), ei_li 1, ei_al 0, ei_si 2, ei_la 0, ei_gf (1, 0, 12, 0), ei_gf (4, 1, 115, 0), ei_li 1, ei_li 2, ei_as 0, ei_la 0, ei_gf (1, 0, 12, 0), ei_gf (4, 0, 118, 0), ei_li 1, ei_li 2, ei_if ((false, true, true), 2), ei_pu (.inl 4294967295, 0, 0), ei_go 1]),
  (54, [ei_as 0, ei_ii (1, 1), ei_go 0]),
  (45, [ei_la 0, ei_gf (1, 2, 49, 0), ei_gf (2, 1, 121, 0), ei_li 2, ei_al 0, ei_fa 1]),
  (0, [ei_pu (.inl 0, 0, 0), ei_si 1, ei_fa 0]),
  (61, [ei_re 2])], 3, 0, 0, 3, ⟨"RegisterColours$Allocator", "keepColours", "()V"⟩, prog_2_method_3_code, none)
/-- RegisterColours$Left.takeFrom(LRegisterColours$Left;)V -/
noncomputable def mt_93 : ev_M := ([(0, [ei_la 0, ei_gf (4, 2, 14, 0), ei_la 1, ei_gf (4, 2, 14, 0), ei_ca (36, 2, 10, 58, 0, 0, 0), ei_la 1, ei_gf (4, 4, 20, 0), ei_pu (.inl 0, 0, 0), ei_la 0, ei_gf (4, 4, 20, 0), ei_pu (.inl 0, 0, 0), ei_pu (.inl 200, 2, 0), ei_cy 72, ei_la 1, ei_gf (4, 0, 24, 0), ei_pu (.inl 0, 0, 0), ei_la 0, ei_gf (4, 0, 24, 0), ei_pu (.inl 0, 0, 0), ei_pu (.inl 200, 2, 0), ei_cy 72, ei_la 1, ei_gf (4, 8, 27, 0), ei_pu (.inl 0, 0, 0), ei_la 0, ei_gf (4, 8, 27, 0), ei_pu (.inl 0, 0, 0), ei_pu (.inl 200, 2, 0), ei_cy 72, ei_la 1, ei_gf (4, 1, 30, 0), ei_pu (.inl 0, 0, 0), ei_la 0, ei_gf (4, 1, 30, 0), ei_pu (.inl 0, 0, 0), ei_pu (.inl 200, 2, 0), ei_cy 72, ei_la 0, ei_la 1, ei_gf (4, 5, 33, 0), ei_pf (4, 5, 0, 33, 0), ei_la 0, ei_la 1, ei_gf (4, 6, 37, 0), ei_pf (4, 6, 0, 37, 0), ei_la 0, ei_la 1, ei_gf (4, 9, 40, 0), ei_pf (4, 9, 0, 40, 0), ei_la 0, ei_la 1, ei_gf (4, 10, 43, 0), ei_pf (4, 10, 0, 43, 0), ei_la 0, ei_la 1, ei_gf (4, 11, 46, 0), ei_pf (4, 11, 0, 46, 0), ei_la 0, ei_la 1, ei_gf (4, 7, 49, 0), ei_pf (4, 7, 0, 49, 0), ei_la 0, ei_la 1, ei_gf (4, 12, 52, 0), ei_pf (4, 12, 0, 52, 0), ei_la 0, ei_la 1, ei_gf (4, 3, 55, 0), ei_pf (4, 3, 0, 55, 0), ei_re 2])], 0, 0, 0, 2, ⟨"RegisterColours$Left", "takeFrom", "(LRegisterColours$Left;)V"⟩, prog_5_method_3_code, none)
/-- RegisterColoursModel.allocate()I -/
noncomputable def mt_94 : ev_M := ([(13, [ei_li 1, ei_pu (.inl 200, 2, 0), ei_ic ((false, true, true), 2), ei_la 0, ei_gf (11, 9, 72, 0), ei_li 1, ei_pu (.inl 0, 0, 0), ei_as 0, ei_ii (1, 1), ei_go 0]),
  (0, [ei_la 0, ei_pu (.inl 0, 0, 0), ei_pf (11, 22, 0, 140, 0), ei_la 0, ei_pu (.inl 0, 0, 0), ei_pu (.inl 1, 0, 0), ei_ca (49, 3, 12, 327, 0, 0, 0), ei_pu (.inl 0, 0, 0), ei_si 1, ei_fa 0]),
  (33, [ei_la 0, ei_pu (.inl 0, 0, 0), ei_pf (11, 43, 0, 293, 0), ei_la 0, ei_pu (.inl 0, 0, 0), ei_pf (11, 44, 0, 299, 0), ei_la 0, ei_pu (.inl 0, 0, 0), ei_pf (11, 45, 0, 296, 0), ei_la 0, ei_pu (.inl 0, 0, 0), ei_pf (11, 46, 0, 302, 0), ei_la 0, ei_pu (.inl 0, 0, 0), ei_pf (11, 42, 0, 281, 0), ei_la 0, ei_pu (.inl 44, 1, 0), ei_pf (11, 60, 0, 305, 0), ei_la 0, ei_ca (95, 1, 12, 357, 0, 0, 0), ei_si 1, ei_li 1, ei_pu (.inl 4294967295, 0, 0), ei_ic ((false, true, false), 3), ei_la 0, ei_li 1, ei_ca (100, 2, 12, 360, 0, 0, 0), ei_fa 3]),
  (79, [ei_li 1, ei_re 0])], 1, 0, 0, 2, ⟨"RegisterColoursModel", "allocate", "()I"⟩, prog_14_method_63_code, some .int)
/-- RegisterColoursModel.rounds()I -/
noncomputable def mt_95 : ev_M := ([(0, [ei_pu (.inl 1, 0, 0), ei_si 1, ei_li 1, ei_pu (.inl 9, 1, 0), ei_ic ((false, false, true), 2), ei_la 0, ei_pu (.inl 1, 0, 0), ei_ca (21, 2, 12, 330, 0, 0, 0), ei_la 0, ei_ca (96, 1, 12, 333, 0, 0, 0), ei_la 0, ei_ca (97, 1, 12, 336, 0, 0, 0), ei_la 0, ei_ca (99, 1, 12, 339, 0, 0, 0), ei_if ((true, false, true), 1), ei_li 1, ei_re 0]),
  (30, []),
  (57, [])], 0, 0, 0, 2, ⟨"RegisterColoursModel", "rounds", "()I"⟩, prog_14_method_59_code, some .int)
/-- RegisterColoursModel.mergesAll()V -/
noncomputable def mt_96 : ev_M := ([(9, [ei_li 1, ei_if ((true, true, false), 4), ei_pu (.inl 0, 0, 0), ei_si 2, ei_li 2, ei_la 0, ei_gf (11, 19, 23, 0), ei_pu (.inl 1, 0, 0), ei_al 0, ei_ic ((false, true, true), 1)]),
  (73, [ei_li 1, ei_pu (.inl 10, 1, 0), ei_dv 0, ei_si 1, ei_go 0]),
  (88, [ei_li 1, ei_if ((false, true, false), 6), ei_pu (.inl 0, 0, 0), ei_si 1, ei_pu (.inl 0, 0, 0), ei_si 2, ei_li 2, ei_la 0, ei_gf (11, 39, 256, 0), ei_ic ((false, true, true), 5)]),
  (0, [ei_la 0, ei_pu (.inl 0, 0, 0), ei_pf (11, 39, 0, 256, 0), ei_pu (.inl 1000, 2, 0), ei_si 1, ei_fa 0]),
  (81, [ei_la 0, ei_pu (.inl 0, 0, 0), ei_pf (11, 40, 0, 259, 0), ei_pu (.inl 1, 0, 0), ei_si 1, ei_fa 2]),
  (138, [ei_go 2]),
  (141, [ei_re 2])], 3, 0, 0, 3, ⟨"RegisterColoursModel", "mergesAll", "()V"⟩, prog_14_method_43_code, none)
/-- RegisterColoursModel.laysAll()V -/
noncomputable def mt_97 : ev_M := ([(0, [ei_la 0, ei_pu (.inl 0, 0, 0), ei_pf (11, 41, 0, 268, 0), ei_la 0, ei_ca (98, 1, 12, 271, 0, 0, 0), ei_si 1, ei_li 1, ei_pu (.inl 4294967295, 0, 0), ei_ic ((false, true, false), 1)]),
  (61, [ei_re 2])], 0, 0, 0, 2, ⟨"RegisterColoursModel", "laysAll", "()V"⟩, prog_14_method_46_code, none)
/-- RegisterColoursModel.nextOut()I -/
noncomputable def mt_98 : ev_M := ([(7, [ei_li 2, ei_pu (.inl 200, 2, 0), ei_ic ((false, true, true), 3), ei_la 0, ei_gf (11, 0, 51, 0), ei_li 2, ei_al 2, ei_if ((true, false, true), 4), ei_go 1]),
  (52, [ei_ii (2, 1), ei_go 0]),
  (0, [ei_pu (.inl 4294967295, 0, 0), ei_si 1, ei_la 0, ei_gf (11, 4, 7, 0), ei_si 2, ei_fa 0]),
  (58, [ei_li 1, ei_re 0]),
  (26, [])], 2, 0, 0, 3, ⟨"RegisterColoursModel", "nextOut", "()I"⟩, prog_14_method_45_code, some .int)
/-- RegisterColoursModel.coloursAll()I -/
noncomputable def mt_99 : ev_M := ([(2, [ei_li 1, ei_pu (.inl 200, 2, 0), ei_ic ((false, true, true), 4), ei_la 0, ei_gf (11, 12, 63, 0), ei_li 1, ei_la 0, ei_li 1, ei_ca (0, 2, 12, 228, 0, 0, 0), ei_if ((false, true, false), 2), ei_li 1, ei_go 1]),
  (27, [ei_as 0, ei_ii (1, 1), ei_go 0]),
  (26, [ei_pu (.inl 4294967295, 0, 0), ei_fa 1]),
  (0, [ei_pu (.inl 0, 0, 0), ei_si 1, ei_fa 0]),
  (34, [ei_pu (.inl 0, 0, 0), ei_si 1, ei_la 0, ei_gf (11, 41, 268, 0), ei_pu (.inl 1, 0, 0), ei_ib 4, ei_si 2, ei_li 2, ei_if ((true, false, false), 5)]),
  (107, [ei_li 1, ei_re 0])], 3, 0, 0, 4, ⟨"RegisterColoursModel", "coloursAll", "()I"⟩, prog_14_method_49_code, some .int)
/-- RegisterColoursModel.keepsLeft(I)V -/
noncomputable def mt_100 : ev_M := ([(8, [ei_li 2, ei_pu (.inl 200, 2, 0), ei_ic ((false, true, true), 6), ei_la 0, ei_gf (11, 14, 78, 0), ei_li 2, ei_la 0, ei_gf (11, 2, 44, 0), ei_li 2, ei_al 2, ei_if ((false, true, false), 3), ei_la 0, ei_gf (11, 12, 63, 0), ei_la 0, ei_gf (11, 7, 48, 0), ei_li 2, ei_al 0, ei_al 0, ei_go 1]),
  (44, [ei_as 0, ei_la 0, ei_gf (11, 16, 84, 0), ei_li 2, ei_la 0, ei_gf (11, 2, 44, 0), ei_li 2, ei_al 2, ei_if ((false, true, false), 4), ei_la 0, ei_gf (11, 7, 48, 0), ei_li 2, ei_al 0, ei_go 2]),
  (69, [ei_as 0, ei_la 0, ei_gf (11, 15, 81, 0), ei_li 2, ei_la 0, ei_gf (11, 9, 72, 0), ei_li 2, ei_al 0, ei_as 0, ei_la 0, ei_gf (11, 13, 29, 0), ei_li 2, ei_la 0, ei_gf (11, 11, 26, 0), ei_li 2, ei_al 0, ei_as 0, ei_ii (2, 1), ei_go 0]),
  (43, [ei_pu (.inl 4294967295, 0, 0), ei_fa 1]),
  (68, [ei_pu (.inl 4294967295, 0, 0), ei_fa 2]),
  (0, [ei_la 0, ei_pu (.inl 1, 0, 0), ei_pu (.inl 3, 0, 0), ei_ca (49, 3, 12, 327, 0, 0, 0), ei_pu (.inl 0, 0, 0), ei_si 2, ei_fa 0]),
  (100, [ei_la 0, ei_gf (11, 26, 87, 0), ei_pu (.inl 0, 0, 0), ei_li 1, ei_as 0, ei_la 0, ei_gf (11, 26, 87, 0), ei_pu (.inl 1, 0, 0), ei_la 0, ei_gf (11, 19, 23, 0), ei_pu (.inl 3, 0, 0), ei_al 0, ei_as 0, ei_la 0, ei_gf (11, 26, 87, 0), ei_pu (.inl 2, 0, 0), ei_la 0, ei_gf (11, 43, 293, 0), ei_as 0, ei_la 0, ei_gf (11, 26, 87, 0), ei_pu (.inl 3, 0, 0), ei_la 0, ei_gf (11, 44, 299, 0), ei_as 0, ei_la 0, ei_gf (11, 26, 87, 0), ei_pu (.inl 4, 0, 0), ei_la 0, ei_gf (11, 45, 296, 0), ei_as 0, ei_la 0, ei_gf (11, 26, 87, 0), ei_pu (.inl 5, 0, 0), ei_la 0, ei_gf (11, 40, 259, 0), ei_as 0, ei_la 0, ei_gf (11, 26, 87, 0), ei_pu (.inl 6, 1, 0), ei_pu (.inl 0, 0, 0), ei_as 0, ei_la 0, ei_gf (11, 26, 87, 0), ei_pu (.inl 7, 1, 0), ei_pu (.inl 0, 0, 0), ei_as 0, ei_pu (.inl 0, 0, 0), ei_si 2, ei_li 2, ei_la 0, ei_gf (11, 19, 23, 0), ei_pu (.inl 3, 0, 0), ei_al 0, ei_ic ((false, true, true), 7)]),
  (264, [ei_la 0, ei_gf (11, 26, 87, 0), ei_pu (.inl 8, 1, 0), ei_la 0, ei_pu (.inl 0, 0, 0), ei_ca (50, 2, 12, 349, 0, 0, 0), ei_as 0, ei_la 0, ei_gf (11, 26, 87, 0), ei_pu (.inl 9, 1, 0), ei_la 0, ei_pu (.inl 1, 0, 0), ei_ca (50, 2, 12, 349, 0, 0, 0), ei_as 0, ei_la 0, ei_gf (11, 26, 87, 0), ei_pu (.inl 10, 1, 0), ei_la 0, ei_gf (11, 46, 302, 0), ei_as 0, ei_la 0, ei_gf (11, 26, 87, 0), ei_pu (.inl 11, 1, 0), ei_la 0, ei_gf (11, 42, 281, 0), ei_as 0, ei_la 0, ei_pu (.inl 1, 0, 0), ei_pf (11, 25, 1, 154, 0), ei_re 2])], 5, 0, 0, 3, ⟨"RegisterColoursModel", "keepsLeft", "(I)V"⟩, prog_14_method_60_code, none)
/-- RegisterColours.step(IZI)I -/
noncomputable def mt_101 : ev_M := ([(55, [ei_pu (.inl 4294967295, 0, 0), ei_re 0]),
  (0, [ei_li 2, ei_if ((false, true, false), 2), ei_la 0, ei_gf (0, 1, 29, 0), ei_gf (10, 3, 151, 0), ei_if ((true, false, true), 2), ei_pu (.inl 4294967295, 0, 0), ei_re 0]),
  (16, [ei_li 2, ei_if ((false, true, false), 3)]),
  (33, [ei_la 0, ei_gf (0, 1, 29, 0), ei_gf (10, 5, 39, 0), ei_sa 4, ei_li 1, ei_if ((true, false, false), 0), ei_li 1, ei_la 4, ei_gf (9, 0, 155, 0), ei_ic ((true, false, false), 4), ei_fa 0]),
  (57, [])], 1, 0, 0, 5, ⟨"RegisterColours", "step", "(IZI)I"⟩, prog_1_method_9_code, some .int)
/-- RegisterColoursModel.step(IZI)I -/
noncomputable def mt_102 : ev_M := ([(56, [ei_pu (.inl 4294967295, 0, 0), ei_re 0]),
  (14, [ei_si 4, ei_li 2, ei_if ((false, true, false), 4), ei_la 0, ei_gf (11, 25, 154, 0), ei_if ((false, true, false), 0), ei_fa 4]),
  (0, [ei_la 0, ei_pu (.inl 0, 0, 0), ei_pf (11, 22, 0, 140, 0), ei_li 2, ei_if ((false, true, false), 3), ei_pu (.inl 3, 0, 0), ei_go 1]),
  (13, [ei_pu (.inl 0, 0, 0), ei_fa 1]),
  (27, [ei_la 0, ei_li 1, ei_pu (.inl 0, 0, 0), ei_la 0, ei_gf (11, 19, 23, 0), ei_li 4, ei_al 0, ei_pu (.inl 1, 0, 0), ei_ib 4, ei_ca (18, 4, 12, 143, 0, 0, 0), ei_if ((false, true, false), 0)])], 2, 0, 0, 7, ⟨"RegisterColoursModel", "step", "(IZI)I"⟩, prog_14_method_107_code, some .int)
/-- RegisterColours.live(II)I -/
noncomputable def mt_103 : ev_M := ([(26, [ei_pu (.inl 4294967295, 0, 0), ei_re 0]),
  (0, [ei_li 1, ei_if ((true, false, false), 0), ei_li 1, ei_la 0, ei_gf (0, 1, 29, 0), ei_gf (10, 5, 39, 0), ei_gf (9, 0, 155, 0), ei_ic ((false, true, true), 0)])], 1, 0, 0, 3, ⟨"RegisterColours", "live", "(II)I"⟩, prog_1_method_10_code, some .int)
/-- RegisterColoursModel.live(II)I -/
noncomputable def mt_104 : ev_M := ([(30, [ei_pu (.inl 4294967295, 0, 0), ei_re 0]),
  (0, [ei_la 0, ei_pu (.inl 0, 0, 0), ei_pf (11, 22, 0, 140, 0), ei_la 0, ei_li 1, ei_pu (.inl 0, 0, 0), ei_la 0, ei_gf (11, 19, 23, 0), ei_pu (.inl 0, 0, 0), ei_al 0, ei_pu (.inl 1, 0, 0), ei_ib 4, ei_ca (18, 4, 12, 143, 0, 0, 0), ei_if ((false, true, false), 0)])], 1, 0, 0, 3, ⟨"RegisterColoursModel", "live", "(II)I"⟩, prog_14_method_108_code, some .int)
/-- RegisterColours.value(II)I -/
noncomputable def mt_105 : ev_M := ([(97, [ei_pu (.inl 4294967295, 0, 0), ei_re 0]),
  (10, [ei_la 0, ei_ca (28, 1, 1, 173, 0, 0, 0), ei_sa 3, ei_li 2, ei_tw (2147483648, 0, [2, 3, 4, 5, 6], 36)]),
  (52, [ei_la 3, ei_li 1, ei_ca (11, 2, 4, 195, 0, 0, 0), ei_ca (1, 1, 0, 191, 1, 0, 0), ei_re 0]),
  (61, [ei_la 3, ei_gf (3, 11, 198, 0), ei_li 1, ei_al 0, ei_re 0]),
  (68, [ei_la 3, ei_li 1, ei_la 3, ei_gf (3, 6, 201, 0), ei_ca (44, 3, 4, 205, 0, 0, 0), ei_re 0]),
  (78, [ei_la 3, ei_li 1, ei_ca (17, 2, 4, 209, 0, 0, 0), ei_re 0]),
  (84, [ei_la 3, ei_li 1, ei_la 3, ei_gf (3, 6, 201, 0), ei_ca (51, 3, 4, 212, 0, 0, 0), ei_ca (1, 1, 0, 191, 1, 0, 0), ei_re 0]),
  (0, [ei_la 0, ei_li 1, ei_ca (37, 2, 1, 184, 0, 0, 0), ei_if ((true, false, true), 1), ei_pu (.inl 4294967295, 0, 0), ei_re 0])], 7, 0, 0, 4, ⟨"RegisterColours", "value", "(II)I"⟩, prog_1_method_11_code, some .int)
/-- RegisterColoursModel.value(II)I -/
noncomputable def mt_106 : ev_M := ([(102, [ei_re 0]),
  (63, [ei_re 0]),
  (62, [ei_pu (.inl 0, 0, 0), ei_fa 1]),
  (101, [ei_pu (.inl 0, 0, 0), ei_fa 0]),
  (23, [ei_pu (.inl 4294967295, 0, 0), ei_re 0]),
  (40, [ei_la 0, ei_pu (.inl 0, 0, 0), ei_ca (21, 2, 12, 330, 0, 0, 0), ei_li 2, ei_if ((true, false, true), 6), ei_la 0, ei_gf (11, 2, 44, 0), ei_li 1, ei_al 2, ei_if ((false, true, false), 2), ei_pu (.inl 1, 0, 0), ei_go 1]),
  (64, [ei_li 2, ei_pu (.inl 1, 0, 0), ei_ic ((true, false, true), 7), ei_la 0, ei_gf (11, 8, 41, 0), ei_li 1, ei_al 0, ei_re 0]),
  (76, [ei_li 2, ei_pu (.inl 2, 0, 0), ei_ic ((true, false, true), 9), ei_la 0, ei_li 1, ei_ca (45, 2, 12, 238, 0, 0, 0), ei_go 0]),
  (25, [ei_li 2, ei_pu (.inl 3, 0, 0), ei_ic ((true, false, true), 5), ei_la 0, ei_la 0, ei_li 1, ei_ca (14, 2, 12, 169, 0, 0, 0), ei_ca (16, 2, 12, 241, 0, 0, 0), ei_re 0]),
  (89, [ei_la 0, ei_li 1, ei_ca (52, 2, 12, 244, 0, 0, 0), ei_if ((false, true, false), 3), ei_pu (.inl 1, 0, 0), ei_go 0]),
  (0, [ei_la 0, ei_pu (.inl 0, 0, 0), ei_pf (11, 22, 0, 140, 0), ei_la 0, ei_li 1, ei_ca (38, 2, 12, 516, 0, 0, 0), ei_if ((false, true, false), 4), ei_la 0, ei_li 2, ei_pu (.inl 0, 0, 0), ei_pu (.inl 4, 0, 0), ei_ca (18, 4, 12, 143, 0, 0, 0), ei_if ((true, false, true), 8), ei_fa 4])], 10, 0, 0, 3, ⟨"RegisterColoursModel", "value", "(II)I"⟩, prog_14_method_109_code, some .int)
/-- RegisterColours.edge(II)I -/
noncomputable def mt_107 : ev_M := ([(16, [ei_pu (.inl 4294967295, 0, 0), ei_re 0]),
  (18, [ei_la 0, ei_ca (28, 1, 1, 173, 0, 0, 0), ei_li 1, ei_li 2, ei_ca (5, 3, 4, 216, 0, 0, 0), ei_ca (1, 1, 0, 191, 1, 0, 0), ei_re 0]),
  (0, [ei_la 0, ei_li 1, ei_ca (37, 2, 1, 184, 0, 0, 0), ei_if ((false, true, false), 0), ei_la 0, ei_li 2, ei_ca (37, 2, 1, 184, 0, 0, 0), ei_if ((true, false, true), 1), ei_fa 0])], 2, 0, 0, 3, ⟨"RegisterColours", "edge", "(II)I"⟩, prog_1_method_12_code, some .int)
/-- RegisterColoursModel.edge(II)I -/
noncomputable def mt_108 : ev_M := ([(46, [ei_re 0]),
  (45, [ei_pu (.inl 0, 0, 0), ei_fa 0]),
  (21, [ei_pu (.inl 4294967295, 0, 0), ei_re 0]),
  (23, [ei_la 0, ei_pu (.inl 0, 0, 0), ei_ca (21, 2, 12, 330, 0, 0, 0), ei_la 0, ei_la 0, ei_gf (11, 3, 38, 0), ei_li 1, ei_li 2, ei_ca (3, 4, 12, 203, 0, 0, 0), ei_if ((false, true, false), 1), ei_pu (.inl 1, 0, 0), ei_go 0]),
  (0, [ei_la 0, ei_pu (.inl 0, 0, 0), ei_pf (11, 22, 0, 140, 0), ei_la 0, ei_li 1, ei_ca (38, 2, 12, 516, 0, 0, 0), ei_if ((false, true, false), 2), ei_la 0, ei_li 2, ei_ca (38, 2, 12, 516, 0, 0, 0), ei_if ((true, false, true), 3), ei_fa 2])], 4, 0, 0, 3, ⟨"RegisterColoursModel", "edge", "(II)I"⟩, prog_14_method_110_code, some .int)
/-- RegisterColours.colour(II)I -/
noncomputable def mt_109 : ev_M := ([(22, [ei_si 3, ei_la 0, ei_gf (0, 1, 29, 0), ei_gf (10, 3, 151, 0), ei_if ((false, true, false), 1)]),
  (48, [ei_pu (.inl 4294967295, 0, 0), ei_re 0]),
  (21, [ei_pu (.inl 0, 0, 0), ei_fa 0]),
  (0, [ei_li 1, ei_la 0, ei_gf (0, 1, 29, 0), ei_gf (10, 2, 81, 0), ei_ic ((true, false, false), 2), ei_li 1, ei_pu (.inl 8, 1, 0), ei_ic ((false, true, true), 2), ei_pu (.inl 1, 0, 0), ei_go 0])], 3, 0, 0, 4, ⟨"RegisterColours", "colour", "(II)I"⟩, prog_1_method_13_code, some .int)
/-- RegisterColoursModel.colour(II)I -/
noncomputable def mt_110 : ev_M := ([(0, [ei_la 0, ei_pu (.inl 0, 0, 0), ei_pf (11, 22, 0, 140, 0), ei_la 0, ei_gf (11, 25, 154, 0), ei_if ((false, true, false), 1)]),
  (48, [ei_pu (.inl 4294967295, 0, 0), ei_re 0])], 0, 0, 0, 3, ⟨"RegisterColoursModel", "colour", "(II)I"⟩, prog_14_method_64_code, some .int)
/-- RegisterColours.left(I)I -/
noncomputable def mt_111 : ev_M := ([(0, [ei_la 0, ei_gf (0, 1, 29, 0), ei_gf (10, 3, 151, 0), ei_if ((true, false, true), 1), ei_pu (.inl 4294967295, 0, 0), ei_re 0]),
  (12, [])], 0, 0, 0, 3, ⟨"RegisterColours", "left", "(I)I"⟩, prog_1_method_14_code, some .int)
/-- RegisterColoursModel.left(I)I -/
noncomputable def mt_112 : ev_M := ([(0, [ei_la 0, ei_pu (.inl 0, 0, 0), ei_pf (11, 22, 0, 140, 0), ei_la 0, ei_gf (11, 25, 154, 0), ei_if ((false, true, false), 1)]),
  (32, [ei_pu (.inl 4294967295, 0, 0), ei_re 0])], 0, 0, 0, 2, ⟨"RegisterColoursModel", "left", "(I)I"⟩, prog_14_method_65_code, some .int)
/-- RegisterColours.run(II)I -/
noncomputable def mt_113 : ev_M := ([(24, [ei_pu (.inl 4294967295, 0, 0), ei_re 0]),
  (131, [ei_pu (.inl 4294967295, 0, 0), ei_re 0]),
  (0, [ei_li 1, ei_if ((true, false, false), 0), ei_li 1, ei_pu (.inl 1, 0, 0), ei_ic ((false, false, true), 0), ei_li 1, ei_pu (.inl 1, 0, 0), ei_ic ((true, false, true), 3), ei_la 0, ei_gf (0, 1, 29, 0), ei_gf (10, 3, 151, 0), ei_if ((true, false, true), 3), ei_fa 0]),
  (26, [ei_la 0, ei_gf (0, 5, 63, 0), ei_li 1, ei_ic ((false, true, false), 5), ei_la 0, ei_gf (0, 7, 59, 0), ei_li 1, ei_pu (.inl 1, 0, 0), ei_ic ((true, false, true), 4)]),
  (47, [ei_pu (.inl 0, 0, 0), ei_ca (114, 2, 8, 266, 0, 0, 0), ei_la 0, ei_li 1, ei_pf (0, 5, 0, 63, 0), ei_fa 5]),
  (56, [ei_li 2, ei_tw (2147483648, 1, [6, 8, 9, 10], 31)]),
  (88, [ei_la 0, ei_gf (0, 7, 59, 0), ei_gf (7, 1, 270, 0), ei_if ((true, false, true), 7)]),
  (102, [ei_pu (.inl 0, 0, 0), ei_ca (1, 1, 0, 191, 1, 0, 0), ei_re 0]),
  (107, [ei_la 0, ei_gf (0, 7, 59, 0), ei_gf (7, 2, 273, 0), ei_re 0]),
  (115, [ei_la 0, ei_gf (0, 7, 59, 0), ei_gf (7, 3, 276, 0), ei_re 0]),
  (123, [ei_la 0, ei_gf (0, 7, 59, 0), ei_gf (7, 4, 279, 0), ei_re 0])], 2, 0, 0, 3, ⟨"RegisterColours", "run", "(II)I"⟩, prog_1_method_15_code, some .int)
/-- RegisterColours$Runner.runSteps(Z)V -/
noncomputable def mt_114 : ev_M := ([(0, [ei_la 0, ei_li 1, ei_pf (7, 10, 1, 36, 0), ei_la 0, ei_li 1, ei_if ((false, true, false), 1)]),
  (23, [ei_la 0, ei_gf (7, 8, 42, 0), ei_gf (10, 5, 52, 0), ei_pf (7, 0, 3, 58, 0), ei_la 0, ei_li 1, ei_if ((false, true, false), 2)]),
  (51, [ei_la 0, ei_gf (7, 9, 46, 0), ei_pf (7, 11, 3, 49, 0), ei_la 0, ei_gf (7, 5, 25, 0), ei_pu (.inr (.inr (.inl 0)), 3, 0), ei_ca (13, 2, 0, 69, 1, 0, 0), ei_la 0, ei_gf (7, 6, 29, 0), ei_pu (.inl 0, 0, 0), ei_ca (19, 2, 0, 75, 1, 0, 0), ei_la 0, ei_gf (7, 7, 33, 0), ei_pu (.inr (.inr (.inl 0)), 3, 0), ei_ca (13, 2, 0, 69, 1, 0, 0), ei_la 0, ei_pu (.inl 0, 0, 0), ei_pf (7, 2, 0, 15, 0), ei_la 0, ei_pu (.inl 0, 0, 0), ei_pf (7, 3, 0, 19, 0), ei_la 0, ei_pu (.inl 0, 0, 0), ei_pf (7, 4, 0, 22, 0), ei_la 0, ei_pu (.inl 0, 0, 0), ei_pf (7, 12, 0, 39, 0), ei_pu (.inl 0, 0, 0), ei_si 2, ei_li 2, ei_la 0, ei_gf (7, 0, 58, 0), ei_gf (9, 0, 78, 0), ei_ic ((false, true, true), 3)]),
  (144, [ei_la 0, ei_li 2, ei_la 0, ei_gf (7, 0, 58, 0), ei_gf (9, 0, 78, 0), ei_ic ((true, false, false), 5), ei_pu (.inl 1, 0, 0), ei_go 4]),
  (161, [ei_pf (7, 1, 1, 9, 0), ei_re 2]),
  (160, [])], 0, 0, 0, 3, ⟨"RegisterColours$Runner", "runSteps", "(Z)V"⟩, prog_9_method_2_code, none)
/-- RegisterColoursModel.run(II)I -/
noncomputable def mt_115 : ev_M := ([(52, [ei_li 4, ei_pu (.inl 200, 2, 0), ei_ic ((false, true, true), 8), ei_la 0, ei_gf (11, 17, 111, 0), ei_li 4, ei_pu (.inr (.inr (.inl 0)), 3, 0), ei_as 1, ei_la 0, ei_gf (11, 18, 121, 0), ei_li 4, ei_pu (.inr (.inr (.inl 0)), 3, 0), ei_as 1, ei_ii (4, 1), ei_go 0]),
  (85, [ei_li 4, ei_pu (.inl 8, 1, 0), ei_ic ((false, true, true), 9), ei_la 0, ei_gf (11, 29, 115, 0), ei_li 4, ei_pu (.inl 0, 0, 0), ei_as 0, ei_ii (4, 1), ei_go 1]),
  (37, [ei_pu (.inl 4294967295, 0, 0), ei_re 0]),
  (109, [ei_li 4, ei_pu (.inl 4, 0, 0), ei_ic ((false, true, true), 10), ei_la 0, ei_gf (11, 32, 118, 0), ei_li 4, ei_pu (.inl 0, 0, 0), ei_as 0, ei_ii (4, 1), ei_go 3]),
  (244, [ei_re 0]),
  (0, [ei_la 0, ei_pu (.inl 0, 0, 0), ei_pf (11, 22, 0, 140, 0), ei_la 0, ei_li 1, ei_pu (.inl 0, 0, 0), ei_pu (.inl 1, 0, 0), ei_ca (18, 4, 12, 143, 0, 0, 0), ei_if ((false, true, false), 2), ei_la 0, ei_li 2, ei_pu (.inl 0, 0, 0), ei_pu (.inl 3, 0, 0), ei_ca (18, 4, 12, 143, 0, 0, 0), ei_if ((false, true, false), 2), ei_li 1, ei_pu (.inl 1, 0, 0), ei_ic ((true, false, true), 6), ei_la 0, ei_gf (11, 25, 154, 0), ei_if ((true, false, true), 6), ei_fa 2]),
  (39, [ei_li 1, ei_if ((true, false, true), 16), ei_pu (.inl 0, 0, 0), ei_go 7]),
  (48, [ei_si 3, ei_pu (.inl 0, 0, 0), ei_si 4, ei_fa 0]),
  (82, [ei_pu (.inl 0, 0, 0), ei_si 4, ei_fa 1]),
  (106, [ei_pu (.inl 0, 0, 0), ei_si 4, ei_fa 3]),
  (129, [ei_la 0, ei_pu (.inl 0, 0, 0), ei_pf (11, 65, 0, 474, 0), ei_la 0, ei_pu (.inl 0, 0, 0), ei_pf (11, 50, 0, 477, 0), ei_la 0, ei_pu (.inl 0, 0, 0), ei_pf (11, 51, 0, 480, 0), ei_la 0, ei_pu (.inl 0, 0, 0), ei_pf (11, 52, 0, 489, 0), ei_pu (.inl 0, 0, 0), ei_si 4, ei_li 4, ei_la 0, ei_gf (11, 19, 23, 0), ei_li 3, ei_al 0, ei_ic ((false, true, true), 11)]),
  (195, [ei_li 2, ei_if ((true, false, true), 13), ei_li 4, ei_la 0, ei_gf (11, 19, 23, 0), ei_li 3, ei_al 0, ei_ic ((false, true, true), 12)]),
  (214, [ei_pu (.inl 0, 0, 0), ei_re 0]),
  (216, [ei_li 2, ei_pu (.inl 1, 0, 0), ei_ic ((true, false, true), 14), ei_la 0, ei_gf (11, 52, 489, 0), ei_go 4]),
  (228, [ei_li 2, ei_pu (.inl 2, 0, 0), ei_ic ((true, false, true), 15), ei_la 0, ei_gf (11, 50, 477, 0), ei_go 4]),
  (240, [ei_la 0, ei_gf (11, 51, 480, 0), ei_fa 4]),
  (47, [])], 5, 0, 0, 5, ⟨"RegisterColoursModel", "run", "(II)I"⟩, prog_14_method_97_code, some .int)
/-- RegisterColours.proved()I -/
noncomputable def mt_116 : ev_M := ([(0, [ei_la 0, ei_gf (0, 1, 29, 0), ei_gf (10, 3, 151, 0), ei_if ((true, false, true), 1), ei_pu (.inl 4294967295, 0, 0), ei_re 0]),
  (12, [])], 0, 0, 0, 1, ⟨"RegisterColours", "proved", "()I"⟩, prog_1_method_16_code, some .int)
/-- RegisterColoursModel.proved()I -/
noncomputable def mt_117 : ev_M := ([(0, [ei_la 0, ei_pu (.inl 0, 0, 0), ei_pf (11, 22, 0, 140, 0), ei_la 0, ei_gf (11, 25, 154, 0), ei_if ((true, false, true), 1), ei_pu (.inl 4294967295, 0, 0), ei_re 0]),
  (14, [])], 0, 0, 0, 3, ⟨"RegisterColoursModel", "proved", "()I"⟩, prog_14_method_105_code, some .int)
/-- RegisterColours.graph(I)I -/
noncomputable def mt_118 : ev_M := ([(83, [ei_pu (.inl 4294967295, 0, 0), ei_re 0]),
  (0, [ei_li 1, ei_tw (2147483648, 0, [2, 4, 5, 6], 31)]),
  (32, [ei_la 0, ei_ca (28, 1, 1, 173, 0, 0, 0), ei_ca (53, 1, 4, 289, 0, 0, 0), ei_pu (.inl 4294967295, 0, 0), ei_ic ((false, true, false), 7), ei_pu (.inl 1, 0, 0), ei_go 3]),
  (48, [ei_ca (1, 1, 0, 191, 1, 0, 0), ei_re 0]),
  (52, [ei_la 0, ei_ca (28, 1, 1, 173, 0, 0, 0), ei_ca (53, 1, 4, 289, 0, 0, 0), ei_re 0]),
  (60, [ei_la 0, ei_ca (28, 1, 1, 173, 0, 0, 0), ei_la 0, ei_gf (0, 1, 29, 0), ei_gf (10, 0, 292, 0), ei_ca (120, 2, 4, 295, 0, 0, 0), ei_re 0]),
  (75, [ei_la 0, ei_ca (28, 1, 1, 173, 0, 0, 0), ei_ca (119, 1, 4, 298, 0, 0, 0), ei_re 0]),
  (47, [])], 1, 0, 0, 2, ⟨"RegisterColours", "graph", "(I)I"⟩, prog_1_method_17_code, some .int)
/-- RegisterColours$Graph.heaviest()I -/
noncomputable def mt_119 : ev_M := ([(0, [ei_pu (.inl 0, 0, 0), ei_si 1, ei_pu (.inl 0, 0, 0), ei_si 2, ei_li 2, ei_la 0, ei_gf (3, 9, 27, 0), ei_gf (9, 0, 101, 0), ei_ic ((false, true, true), 1)]),
  (87, [ei_li 1, ei_re 0])], 0, 0, 0, 5, ⟨"RegisterColours$Graph", "heaviest", "()I"⟩, prog_4_method_25_code, some .int)
/-- RegisterColours$Graph.clashes([I)I -/
noncomputable def mt_120 : ev_M := ([(13, [ei_li 4, ei_li 3, ei_ic ((false, true, true), 4), ei_la 1, ei_li 3, ei_al 0, ei_pu (.inl 4294967295, 0, 0), ei_ic ((false, true, false), 1)]),
  (40, [ei_pu (.inl 0, 0, 0), ei_si 5, ei_li 2, ei_li 5, ei_if ((false, true, false), 2)]),
  (69, [ei_pu (.inl 0, 0, 0), ei_ca (1, 1, 0, 197, 4, 0, 0), ei_ib 0, ei_si 2, ei_ii (4, 1), ei_go 0]),
  (4, [ei_li 3, ei_pu (.inl 24, 1, 0), ei_ic ((false, true, true), 6), ei_pu (.inl 0, 0, 0), ei_si 4, ei_fa 0]),
  (81, [ei_ii (3, 1), ei_go 3]),
  (0, [ei_pu (.inl 0, 0, 0), ei_si 2, ei_pu (.inl 0, 0, 0), ei_si 3, ei_fa 3]),
  (87, [ei_li 2, ei_re 0])], 5, 0, 0, 6, ⟨"RegisterColours$Graph", "clashes", "([I)I"⟩, prog_4_method_26_code, some .int)
/-- RegisterColoursModel.graph(I)I -/
noncomputable def mt_121 : ev_M := ([(68, [ei_re 0]),
  (22, [ei_li 1, ei_pu (.inl 1, 0, 0), ei_ic ((true, false, true), 2), ei_la 0, ei_ca (55, 1, 12, 531, 0, 0, 0), ei_if ((false, true, false), 9), ei_la 0, ei_gf (11, 37, 519, 0), ei_go 7]),
  (43, [ei_li 1, ei_pu (.inl 2, 0, 0), ei_ic ((true, false, true), 3), ei_la 0, ei_ca (122, 1, 12, 534, 0, 0, 0), ei_go 0]),
  (55, [ei_li 1, ei_pu (.inl 3, 0, 0), ei_ic ((true, false, true), 4), ei_la 0, ei_ca (123, 1, 12, 537, 0, 0, 0), ei_go 0]),
  (67, [ei_pu (.inl 4294967295, 0, 0), ei_fa 0]),
  (0, [ei_la 0, ei_pu (.inl 0, 0, 0), ei_pf (11, 22, 0, 140, 0), ei_li 1, ei_if ((true, false, true), 1), ei_la 0, ei_ca (55, 1, 12, 531, 0, 0, 0), ei_if ((false, true, false), 8), ei_pu (.inl 1, 0, 0), ei_go 6]),
  (21, [ei_re 0]),
  (42, [ei_re 0]),
  (20, []),
  (41, [])], 5, 0, 0, 2, ⟨"RegisterColoursModel", "graph", "(I)I"⟩, prog_14_method_116_code, some .int)
/-- RegisterColoursModel.clashes()I -/
noncomputable def mt_122 : ev_M := ([(17, [ei_li 3, ei_li 2, ei_ic ((false, true, true), 3), ei_la 0, ei_gf (11, 10, 134, 0), ei_li 2, ei_al 0, ei_if ((true, true, false), 1)]),
  (69, [ei_ii (3, 1), ei_go 0]),
  (9, [ei_li 2, ei_pu (.inl 24, 1, 0), ei_ic ((false, true, true), 5), ei_pu (.inl 0, 0, 0), ei_si 3, ei_fa 0]),
  (75, [ei_ii (2, 1), ei_go 2]),
  (0, [ei_la 0, ei_pu (.inl 0, 0, 0), ei_ca (21, 2, 12, 330, 0, 0, 0), ei_pu (.inl 0, 0, 0), ei_si 1, ei_pu (.inl 0, 0, 0), ei_si 2, ei_fa 2]),
  (81, [ei_li 1, ei_re 0])], 4, 0, 0, 4, ⟨"RegisterColoursModel", "clashes", "()I"⟩, prog_14_method_114_code, some .int)
/-- RegisterColoursModel.heaviest()I -/
noncomputable def mt_123 : ev_M := ([(0, [ei_la 0, ei_pu (.inl 0, 0, 0), ei_ca (20, 2, 12, 223, 0, 0, 0), ei_pu (.inl 0, 0, 0), ei_si 1, ei_pu (.inl 0, 0, 0), ei_si 2, ei_li 2, ei_la 0, ei_gf (11, 19, 23, 0), ei_pu (.inl 0, 0, 0), ei_al 0, ei_ic ((false, true, true), 1)]),
  (92, [ei_li 1, ei_re 0])], 0, 0, 0, 5, ⟨"RegisterColoursModel", "heaviest", "()I"⟩, prog_14_method_115_code, some .int)
/-- RegisterColours.paint(II)Z -/
noncomputable def mt_124 : ev_M := ([(21, [ei_pu (.inl 0, 0, 0), ei_re 0]),
  (0, [ei_li 1, ei_if ((true, false, false), 0), ei_li 1, ei_pu (.inl 24, 1, 0), ei_ic ((false, true, true), 0), ei_li 2, ei_pu (.inl 4294967295, 0, 0), ei_ic ((true, false, false), 0), ei_li 2, ei_pu (.inl 8, 1, 0), ei_ic ((true, false, false), 2), ei_fa 0]),
  (23, [ei_la 0, ei_gf (0, 1, 29, 0), ei_gf (10, 0, 292, 0), ei_li 1, ei_li 2, ei_as 0, ei_pu (.inl 1, 0, 0), ei_re 0])], 1, 0, 0, 3, ⟨"RegisterColours", "paint", "(II)Z"⟩, prog_1_method_18_code, some .boolean)
/-- RegisterColoursModel.paint(II)Z -/
noncomputable def mt_125 : ev_M := ([(27, [ei_pu (.inl 0, 0, 0), ei_re 0]),
  (0, [ei_la 0, ei_pu (.inl 0, 0, 0), ei_pf (11, 22, 0, 140, 0), ei_la 0, ei_li 1, ei_pu (.inl 0, 0, 0), ei_pu (.inl 23, 1, 0), ei_ca (18, 4, 12, 143, 0, 0, 0), ei_if ((false, true, false), 0), ei_la 0, ei_li 2, ei_pu (.inl 4294967295, 0, 0), ei_pu (.inl 7, 1, 0), ei_ca (18, 4, 12, 143, 0, 0, 0), ei_if ((true, false, true), 2), ei_fa 0]),
  (29, [ei_la 0, ei_gf (11, 10, 134, 0), ei_li 1, ei_li 2, ei_pu (.inl 1, 0, 0), ei_ib 0, ei_as 0, ei_pu (.inl 1, 0, 0), ei_re 0])], 1, 0, 0, 3, ⟨"RegisterColoursModel", "paint", "(II)Z"⟩, prog_14_method_117_code, some .boolean)
/-- RegisterColours.image(Z)Z -/
noncomputable def mt_126 : ev_M := ([(0, [ei_li 1, ei_if ((false, true, false), 2), ei_la 0, ei_gf (0, 10, 74, 0), ei_nn 1, ei_la 0, ei_nw (10, 26, [.inr (.inl 0), .inl 0, .inl 0, .inl 0, .inl 0, .inr (.inl 0), .inl 0, .inl 0, .inr (.inl 0), .inr (.inl 0)]), ei_st 0, ei_ca (46, 1, 11, 28, 2, 19, 4865), ei_pf (0, 10, 3, 74, 0), ei_fa 1]),
  (22, [ei_la 0, ei_gf (0, 10, 74, 0), ei_la 0, ei_gf (0, 1, 29, 0), ei_ca (127, 2, 11, 301, 0, 0, 0), ei_pu (.inl 1, 0, 0), ei_re 0]),
  (35, [ei_la 0, ei_gf (0, 10, 74, 0), ei_nn 3, ei_pu (.inl 0, 0, 0), ei_re 0]),
  (44, [])], 0, 20, 4875, 2, ⟨"RegisterColours", "image", "(Z)Z"⟩, prog_1_method_19_code, some .boolean)
/-- RegisterColours$Told.takeFrom(LRegisterColours$Told;)V -/
noncomputable def mt_127 : ev_M := ([(0, [ei_la 0, ei_la 1, ei_gf (10, 2, 9, 0), ei_pf (10, 2, 0, 9, 0), ei_la 0, ei_la 1, ei_gf (10, 4, 15, 0), ei_pf (10, 4, 0, 15, 0), ei_la 0, ei_la 1, ei_gf (10, 1, 18, 0), ei_pf (10, 1, 0, 18, 0), ei_la 0, ei_la 1, ei_gf (10, 7, 21, 0), ei_pf (10, 7, 0, 21, 0), ei_la 0, ei_la 1, ei_gf (10, 6, 24, 0), ei_pf (10, 6, 0, 24, 0), ei_la 0, ei_la 1, ei_gf (10, 3, 27, 0), ei_pf (10, 3, 1, 27, 0), ei_la 0, ei_gf (10, 5, 36, 0), ei_la 1, ei_gf (10, 5, 36, 0), ei_ca (36, 2, 10, 60, 0, 0, 0), ei_la 1, ei_gf (10, 8, 40, 0), ei_pu (.inl 0, 0, 0), ei_la 0, ei_gf (10, 8, 40, 0), ei_pu (.inl 0, 0, 0), ei_pu (.inl 16, 1, 0), ei_cy 64, ei_la 1, ei_gf (10, 0, 44, 0), ei_pu (.inl 0, 0, 0), ei_la 0, ei_gf (10, 0, 44, 0), ei_pu (.inl 0, 0, 0), ei_pu (.inl 24, 1, 0), ei_cy 64, ei_la 1, ei_gf (10, 3, 27, 0), ei_if ((false, true, false), 1)]),
  (107, [ei_re 2])], 0, 0, 0, 2, ⟨"RegisterColours$Told", "takeFrom", "(LRegisterColours$Told;)V"⟩, prog_12_method_2_code, none)
/-- RegisterColoursModel.image(Z)Z -/
noncomputable def mt_128 : ev_M := ([(0, [ei_la 0, ei_pu (.inl 0, 0, 0), ei_pf (11, 22, 0, 140, 0), ei_li 1, ei_if ((true, false, true), 1), ei_la 0, ei_gf (11, 53, 559, 0), ei_if ((true, false, true), 1), ei_pu (.inl 0, 0, 0), ei_re 0]),
  (18, [ei_la 0, ei_pu (.inl 1, 0, 0), ei_pf (11, 53, 1, 559, 0), ei_la 0, ei_li 1, ei_pf (11, 6, 1, 553, 0), ei_la 0, ei_pu (.inl 0, 0, 0), ei_pf (11, 1, 0, 556, 0), ei_la 0, ei_la 0, ei_la 0, ei_gf (11, 4, 7, 0), ei_ca (33, 2, 12, 562, 0, 0, 0), ei_pf (11, 4, 0, 7, 0), ei_la 0, ei_la 0, ei_la 0, ei_gf (11, 24, 13, 0), ei_ca (33, 2, 12, 562, 0, 0, 0), ei_pf (11, 24, 0, 13, 0), ei_la 0, ei_la 0, ei_la 0, ei_gf (11, 27, 16, 0), ei_ca (33, 2, 12, 562, 0, 0, 0), ei_pf (11, 27, 0, 16, 0), ei_la 0, ei_la 0, ei_la 0, ei_gf (11, 30, 445, 0), ei_ca (33, 2, 12, 562, 0, 0, 0), ei_pf (11, 30, 0, 445, 0), ei_la 0, ei_la 0, ei_la 0, ei_gf (11, 28, 457, 0), ei_ca (33, 2, 12, 562, 0, 0, 0), ei_pf (11, 28, 0, 457, 0), ei_la 0, ei_gf (11, 19, 23, 0), ei_pu (.inl 3, 0, 0), ei_la 0, ei_la 0, ei_gf (11, 19, 23, 0), ei_pu (.inl 3, 0, 0), ei_al 0, ei_ca (33, 2, 12, 562, 0, 0, 0), ei_as 0, ei_la 0, ei_la 0, ei_la 0, ei_gf (11, 25, 154, 0), ei_if ((false, true, false), 2)]),
  (122, [ei_pu (.inl 0, 0, 0), ei_ca (33, 2, 12, 562, 0, 0, 0), ei_pu (.inl 1, 0, 0), ei_ic ((true, false, true), 3)]),
  (134, [ei_pu (.inl 0, 0, 0), ei_pf (11, 25, 1, 154, 0), ei_la 0, ei_la 0, ei_gf (11, 48, 99, 0), ei_pu (.inl 0, 0, 0), ei_pu (.inl 240, 2, 0), ei_ca (31, 4, 12, 565, 0, 0, 0), ei_la 0, ei_la 0, ei_gf (11, 36, 108, 0), ei_pu (.inl 0, 0, 0), ei_pu (.inl 16, 1, 0), ei_ca (31, 4, 12, 565, 0, 0, 0), ei_la 0, ei_la 0, ei_gf (11, 10, 134, 0), ei_pu (.inl 0, 0, 0), ei_pu (.inl 24, 1, 0), ei_ca (31, 4, 12, 565, 0, 0, 0), ei_la 0, ei_la 0, ei_gf (11, 14, 78, 0), ei_pu (.inl 0, 0, 0), ei_pu (.inl 200, 2, 0), ei_ca (31, 4, 12, 565, 0, 0, 0), ei_la 0, ei_la 0, ei_gf (11, 15, 81, 0), ei_pu (.inl 0, 0, 0), ei_pu (.inl 200, 2, 0), ei_ca (31, 4, 12, 565, 0, 0, 0), ei_la 0, ei_la 0, ei_gf (11, 16, 84, 0), ei_pu (.inl 0, 0, 0), ei_pu (.inl 200, 2, 0), ei_ca (31, 4, 12, 565, 0, 0, 0), ei_la 0, ei_la 0, ei_gf (11, 13, 29, 0), ei_pu (.inl 0, 0, 0), ei_pu (.inl 200, 2, 0), ei_ca (31, 4, 12, 565, 0, 0, 0), ei_la 0, ei_la 0, ei_gf (11, 26, 87, 0), ei_pu (.inl 0, 0, 0), ei_pu (.inl 12, 1, 0), ei_ca (31, 4, 12, 565, 0, 0, 0), ei_la 0, ei_la 0, ei_gf (11, 38, 19, 0), ei_la 0, ei_pu (.inl 3, 0, 0), ei_pu (.inl 0, 0, 0), ei_ca (129, 3, 12, 158, 0, 0, 0), ei_pu (.inl 2000, 2, 0), ei_ca (31, 4, 12, 565, 0, 0, 0), ei_li 1, ei_if ((true, false, true), 4)]),
  (256, [ei_pu (.inl 1, 0, 0), ei_re 0])], 0, 0, 0, 2, ⟨"RegisterColoursModel", "image", "(Z)Z"⟩, prog_14_method_125_code, some .boolean)
/-- RegisterColoursModel.at(II)I -/
noncomputable def mt_129 : ev_M := ([(0, [ei_pu (.inl 5, 0, 0), ei_pu (.inl 410, 2, 0), ei_li 1, ei_ib 1, ei_li 2, ei_ib 0, ei_ib 1, ei_re 0])], 0, 0, 0, 3, ⟨"RegisterColoursModel", "at", "(II)I"⟩, prog_14_method_13_code, some .int)
/-- RegisterColours.look(I)I -/
noncomputable def mt_130 : ev_M := ([(161, [ei_pu (.inl 4294867296, 6, 313), ei_re 0]),
  (0, [ei_li 1, ei_tw (2147483648, 0, [2, 3, 4, 5, 6, 7, 8, 9, 10, 11, 12], 59)]),
  (60, [ei_la 0, ei_gf (0, 1, 29, 0), ei_gf (10, 7, 119, 0), ei_re 0]),
  (68, [ei_la 0, ei_gf (0, 1, 29, 0), ei_gf (10, 5, 39, 0), ei_gf (9, 0, 155, 0), ei_re 0]),
  (79, [ei_la 0, ei_gf (0, 1, 29, 0), ei_gf (10, 2, 81, 0), ei_re 0]),
  (87, [ei_la 0, ei_gf (0, 1, 29, 0), ei_gf (10, 4, 93, 0), ei_re 0]),
  (95, [ei_la 0, ei_gf (0, 1, 29, 0), ei_gf (10, 1, 84, 0), ei_re 0]),
  (103, [ei_la 0, ei_gf (0, 1, 29, 0), ei_gf (10, 6, 126, 0), ei_re 0]),
  (111, [ei_la 0, ei_ca (28, 1, 1, 173, 0, 0, 0), ei_ca (134, 1, 4, 304, 0, 0, 0), ei_re 0]),
  (119, [ei_la 0, ei_ca (28, 1, 1, 173, 0, 0, 0), ei_ca (133, 1, 4, 307, 0, 0, 0), ei_re 0]),
  (127, [ei_la 0, ei_gf (0, 1, 29, 0), ei_gf (10, 5, 39, 0), ei_la 0, ei_gf (0, 8, 33, 0), ei_ca (132, 2, 10, 248, 0, 0, 0), ei_re 0]),
  (142, [ei_la 0, ei_gf (0, 1, 29, 0), ei_ca (131, 1, 11, 310, 0, 0, 0), ei_re 0]),
  (150, [ei_la 0, ei_gf (0, 1, 29, 0), ei_gf (10, 3, 151, 0), ei_ca (1, 1, 0, 191, 1, 0, 0), ei_re 0])], 1, 0, 0, 2, ⟨"RegisterColours", "look", "(I)I"⟩, prog_1_method_20_code, some .int)
/-- RegisterColours$Told.paintedCount()I -/
noncomputable def mt_131 : ev_M := ([(4, [ei_li 2, ei_pu (.inl 24, 1, 0), ei_ic ((false, true, true), 3), ei_la 0, ei_gf (10, 0, 44, 0), ei_li 2, ei_al 0, ei_pu (.inl 4294967295, 0, 0), ei_ic ((false, true, false), 1)]),
  (23, [ei_ii (2, 1), ei_go 0]),
  (0, [ei_pu (.inl 0, 0, 0), ei_si 1, ei_pu (.inl 0, 0, 0), ei_si 2, ei_fa 0]),
  (29, [ei_li 1, ei_re 0])], 2, 0, 0, 3, ⟨"RegisterColours$Told", "paintedCount", "()I"⟩, prog_12_method_3_code, some .int)
/-- RegisterColours$Steps.moves([I)I -/
noncomputable def mt_132 : ev_M := ([(0, [ei_pu (.inl 0, 0, 0), ei_si 2, ei_pu (.inl 0, 0, 0), ei_si 3, ei_li 3, ei_la 0, ei_gf (9, 0, 9, 0), ei_ic ((false, true, true), 1)]),
  (30, [ei_li 2, ei_re 0])], 0, 0, 0, 4, ⟨"RegisterColours$Steps", "moves", "([I)I"⟩, prog_11_method_6_code, some .int)
/-- RegisterColours$Graph.edgesNotFixed()I -/
noncomputable def mt_133 : ev_M := ([(15, [ei_li 3, ei_li 2, ei_ic ((false, true, true), 2), ei_li 1, ei_la 0, ei_li 2, ei_li 3, ei_ca (5, 3, 4, 201, 0, 0, 0), ei_ca (1, 1, 0, 197, 4, 0, 0), ei_ib 0, ei_si 1, ei_ii (3, 1), ei_go 0]),
  (5, [ei_li 2, ei_la 0, ei_gf (3, 2, 15, 0), ei_ic ((false, true, true), 4), ei_pu (.inl 0, 0, 0), ei_si 3, ei_fa 0]),
  (38, [ei_ii (2, 1), ei_go 1]),
  (0, [ei_pu (.inl 0, 0, 0), ei_si 1, ei_pu (.inl 8, 1, 0), ei_si 2, ei_fa 1]),
  (44, [ei_li 1, ei_re 0])], 3, 0, 0, 4, ⟨"RegisterColours$Graph", "edgesNotFixed", "()I"⟩, prog_4_method_24_code, some .int)
/-- RegisterColours$Graph.thereNotFixed()I -/
noncomputable def mt_134 : ev_M := ([(5, [ei_li 2, ei_la 0, ei_gf (3, 2, 15, 0), ei_ic ((false, true, true), 2), ei_li 1, ei_la 0, ei_li 2, ei_ca (11, 2, 4, 194, 0, 0, 0), ei_ca (1, 1, 0, 197, 4, 0, 0), ei_ib 0, ei_si 1, ei_ii (2, 1), ei_go 0]),
  (0, [ei_pu (.inl 0, 0, 0), ei_si 1, ei_pu (.inl 8, 1, 0), ei_si 2, ei_fa 0]),
  (30, [ei_li 1, ei_re 0])], 1, 0, 0, 3, ⟨"RegisterColours$Graph", "thereNotFixed", "()I"⟩, prog_4_method_23_code, some .int)
/-- RegisterColoursModel.look(I)I -/
noncomputable def mt_135 : ev_M := ([(134, [ei_re 0]),
  (14, [ei_li 1, ei_pu (.inl 1, 0, 0), ei_ic ((true, false, true), 2), ei_la 0, ei_gf (11, 19, 23, 0), ei_pu (.inl 0, 0, 0), ei_al 0, ei_re 0]),
  (26, [ei_li 1, ei_pu (.inl 2, 0, 0), ei_ic ((true, false, true), 3), ei_la 0, ei_gf (11, 4, 7, 0), ei_re 0]),
  (36, [ei_li 1, ei_pu (.inl 3, 0, 0), ei_ic ((true, false, true), 4), ei_la 0, ei_gf (11, 24, 13, 0), ei_re 0]),
  (46, [ei_li 1, ei_pu (.inl 4, 0, 0), ei_ic ((true, false, true), 5), ei_la 0, ei_gf (11, 27, 16, 0), ei_re 0]),
  (56, [ei_li 1, ei_pu (.inl 5, 0, 0), ei_ic ((true, false, true), 6), ei_la 0, ei_gf (11, 28, 457, 0), ei_re 0]),
  (66, [ei_li 1, ei_pu (.inl 6, 1, 0), ei_ic ((true, false, true), 7), ei_la 0, ei_ca (136, 1, 12, 540, 0, 0, 0), ei_re 0]),
  (77, [ei_li 1, ei_pu (.inl 7, 1, 0), ei_ic ((true, false, true), 8), ei_la 0, ei_ca (137, 1, 12, 543, 0, 0, 0), ei_re 0]),
  (88, [ei_li 1, ei_pu (.inl 8, 1, 0), ei_ic ((true, false, true), 9), ei_la 0, ei_ca (138, 1, 12, 546, 0, 0, 0), ei_re 0]),
  (99, [ei_li 1, ei_pu (.inl 9, 1, 0), ei_ic ((true, false, true), 10), ei_la 0, ei_ca (139, 1, 12, 549, 0, 0, 0), ei_re 0]),
  (110, [ei_li 1, ei_pu (.inl 10, 1, 0), ei_ic ((true, false, true), 11), ei_la 0, ei_gf (11, 25, 154, 0), ei_if ((false, true, false), 13)]),
  (131, [ei_pu (.inl 4294867296, 6, 552), ei_fa 0]),
  (0, [ei_la 0, ei_pu (.inl 0, 0, 0), ei_pf (11, 22, 0, 140, 0), ei_li 1, ei_if ((true, false, true), 1), ei_la 0, ei_gf (11, 30, 445, 0), ei_re 0]),
  (127, [ei_pu (.inl 0, 0, 0), ei_go 0])], 12, 0, 0, 2, ⟨"RegisterColoursModel", "look", "(I)I"⟩, prog_14_method_122_code, some .int)
/-- RegisterColoursModel.thereMany()I -/
noncomputable def mt_136 : ev_M := ([(10, [ei_li 2, ei_pu (.inl 44, 1, 0), ei_ic ((false, true, true), 3), ei_la 0, ei_gf (11, 2, 44, 0), ei_li 2, ei_al 2, ei_if ((false, true, false), 1)]),
  (29, [ei_ii (2, 1), ei_go 0]),
  (0, [ei_la 0, ei_pu (.inl 0, 0, 0), ei_ca (21, 2, 12, 330, 0, 0, 0), ei_pu (.inl 0, 0, 0), ei_si 1, ei_pu (.inl 8, 1, 0), ei_si 2, ei_fa 0]),
  (35, [ei_li 1, ei_re 0])], 2, 0, 0, 3, ⟨"RegisterColoursModel", "thereMany", "()I"⟩, prog_14_method_118_code, some .int)
/-- RegisterColoursModel.edgeMany()I -/
noncomputable def mt_137 : ev_M := ([(18, [ei_li 3, ei_li 2, ei_ic ((false, true, true), 3), ei_la 0, ei_la 0, ei_gf (11, 3, 38, 0), ei_li 2, ei_li 3, ei_ca (3, 4, 12, 203, 0, 0, 0), ei_if ((false, true, false), 1)]),
  (40, [ei_ii (3, 1), ei_go 0]),
  (10, [ei_li 2, ei_pu (.inl 44, 1, 0), ei_ic ((false, true, true), 5), ei_pu (.inl 0, 0, 0), ei_si 3, ei_fa 0]),
  (46, [ei_ii (2, 1), ei_go 2]),
  (0, [ei_la 0, ei_pu (.inl 0, 0, 0), ei_ca (21, 2, 12, 330, 0, 0, 0), ei_pu (.inl 0, 0, 0), ei_si 1, ei_pu (.inl 8, 1, 0), ei_si 2, ei_fa 2]),
  (52, [ei_li 1, ei_re 0])], 4, 0, 0, 4, ⟨"RegisterColoursModel", "edgeMany", "()I"⟩, prog_14_method_119_code, some .int)
/-- RegisterColoursModel.moveCount()I -/
noncomputable def mt_138 : ev_M := ([(0, [ei_pu (.inl 0, 0, 0), ei_si 1, ei_pu (.inl 0, 0, 0), ei_si 2, ei_li 2, ei_la 0, ei_gf (11, 19, 23, 0), ei_pu (.inl 0, 0, 0), ei_al 0, ei_ic ((false, true, true), 1)]),
  (33, [ei_li 1, ei_re 0])], 0, 0, 0, 3, ⟨"RegisterColoursModel", "moveCount", "()I"⟩, prog_14_method_120_code, some .int)
/-- RegisterColoursModel.paintedMany()I -/
noncomputable def mt_139 : ev_M := ([(4, [ei_li 2, ei_pu (.inl 24, 1, 0), ei_ic ((false, true, true), 3), ei_la 0, ei_gf (11, 10, 134, 0), ei_li 2, ei_al 0, ei_if ((true, true, false), 1)]),
  (23, [ei_ii (2, 1), ei_go 0]),
  (0, [ei_pu (.inl 0, 0, 0), ei_si 1, ei_pu (.inl 0, 0, 0), ei_si 2, ei_fa 0]),
  (29, [ei_li 1, ei_re 0])], 2, 0, 0, 3, ⟨"RegisterColoursModel", "paintedMany", "()I"⟩, prog_14_method_121_code, some .int)
noncomputable def ev_pg : List ev_M := [mt_0, mt_1, mt_2, mt_3, mt_4, mt_5, mt_6, mt_7, mt_8, mt_9, mt_10, mt_11, mt_12, mt_13, mt_14, mt_15, mt_16, mt_17, mt_18, mt_19, mt_20, mt_21, mt_22, mt_23, mt_24, mt_25, mt_26, mt_27, mt_28, mt_29, mt_30, mt_31, mt_32, mt_33, mt_34, mt_35, mt_36, mt_37, mt_38, mt_39, mt_40, mt_41, mt_42, mt_43, mt_44, mt_45, mt_46, mt_47, mt_48, mt_49, mt_50, mt_51, mt_52, mt_53, mt_54, mt_55, mt_56, mt_57, mt_58, mt_59, mt_60, mt_61, mt_62, mt_63, mt_64, mt_65, mt_66, mt_67, mt_68, mt_69, mt_70, mt_71, mt_72, mt_73, mt_74, mt_75, mt_76, mt_77, mt_78, mt_79, mt_80, mt_81, mt_82, mt_83, mt_84, mt_85, mt_86, mt_87, mt_88, mt_89, mt_90, mt_91, mt_92, mt_93, mt_94, mt_95, mt_96, mt_97, mt_98, mt_99, mt_100, mt_101, mt_102, mt_103, mt_104, mt_105, mt_106, mt_107, mt_108, mt_109, mt_110, mt_111, mt_112, mt_113, mt_114, mt_115, mt_116, mt_117, mt_118, mt_119, mt_120, mt_121, mt_122, mt_123, mt_124, mt_125, mt_126, mt_127, mt_128, mt_129, mt_130, mt_131, mt_132, mt_133, mt_134, mt_135, mt_136, mt_137, mt_138, mt_139]
