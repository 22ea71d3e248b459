/-! Tables of the abstract machine for this claim; printed by a program of our own out of the Statement. -/
def tb_F0 : u_T := fun k => match k with
  | 0 => ("GluedMachines", "writing", "LGluedMachines$Writing;", true)
  | 1 => ("GluedMachines", "formulas", "[LGluedMachines$Formula;", true)
  | 2 => ("GluedMachines", "formulaCount", "I", false)
  | 3 => ("GluedMachines", "model", "LGluedMachines$Model;", true)
  | 4 => ("GluedMachines", "duties", "LGluedMachines$Duties;", true)
  | 5 => ("GluedMachines", "run", "LGluedMachines$Run;", true)
  | 6 => ("GluedMachines", "shown", "[I", true)
  | _ => ("GluedMachines", "shows", "Z", false)
def tb_F1 : u_T := fun k => match k with
  | 0 => ("GluedMachines$Writing", "words", "[I", true)
  | 1 => ("GluedMachines$Writing", "kinds", "[I", true)
  | 2 => ("GluedMachines$Writing", "ends", "[I", true)
  | _ => ("GluedMachines$Writing", "count", "I", false)
def tb_F2 : u_T := fun k => match k with
  | 0 => ("GluedMachines$Formula", "words", "[I", true)
  | 1 => ("GluedMachines$Formula", "seconds", "[I", true)
  | 2 => ("GluedMachines$Formula", "thirds", "[I", true)
  | 3 => ("GluedMachines$Formula", "answers", "[I", true)
  | 4 => ("GluedMachines$Formula", "isTruth", "Z", true)
  | _ => ("GluedMachines$Formula", "mentions", "I", true)
def tb_F3 : u_T := fun k => match k with
  | 0 => ("GluedMachines$Event", "machine", "I", true)
  | 1 => ("GluedMachines$Event", "range", "I", true)
  | 2 => ("GluedMachines$Event", "refined", "LGluedMachines$Event;", true)
  | 3 => ("GluedMachines$Event", "guard", "LGluedMachines$Formula;", false)
  | 4 => ("GluedMachines$Event", "witness", "LGluedMachines$Formula;", false)
  | _ => ("GluedMachines$Event", "assigned", "[LGluedMachines$Formula;", true)
def tb_F4 : u_T := fun k => match k with
  | 0 => ("GluedMachines$Invariants", "upper", "[LGluedMachines$Formula;", true)
  | 1 => ("GluedMachines$Invariants", "lower", "[LGluedMachines$Formula;", true)
  | 2 => ("GluedMachines$Invariants", "upperCount", "I", false)
  | 3 => ("GluedMachines$Invariants", "lowerCount", "I", false)
  | 4 => ("GluedMachines$Invariants", "known", "[J", true)
  | _ => ("GluedMachines$Invariants", "found", "[J", true)
def tb_F5 : u_T := fun k => match k with
  | 0 => ("GluedMachines$Model", "sizes", "[I", true)
  | 1 => ("GluedMachines$Model", "initials", "[I", true)
  | 2 => ("GluedMachines$Model", "events", "[LGluedMachines$Event;", true)
  | 3 => ("GluedMachines$Model", "eventCount", "I", false)
  | 4 => ("GluedMachines$Model", "invariants", "LGluedMachines$Invariants;", true)
  | 5 => ("GluedMachines$Model", "variant", "LGluedMachines$Formula;", false)
  | 6 => ("GluedMachines$Model", "after", "[I", true)
  | _ => ("GluedMachines$Model", "above", "[I", true)
def tb_F6 : u_T := fun k => match k with
  | 0 => ("GluedMachines$Duties", "model", "LGluedMachines$Model;", true)
  | 1 => ("GluedMachines$Duties", "row", "[I", true)
  | 2 => ("GluedMachines$Duties", "limits", "[I", true)
  | _ => ("GluedMachines$Duties", "rows", "I", false)
def tb_F7 : u_T := fun k => match k with
  | 0 => ("GluedMachines$Run", "model", "LGluedMachines$Model;", true)
  | 1 => ("GluedMachines$Run", "row", "[I", true)
  | 2 => ("GluedMachines$Run", "past", "[I", true)
  | 3 => ("GluedMachines$Run", "steps", "I", false)
  | 4 => ("GluedMachines$Run", "isOn", "Z", false)
  | _ => ("GluedMachines$Run", "isTorn", "Z", false)
def tb_F8 : u_T := fun k => match k with
  | 0 => ("GluedMachinesModel", "thrown", "I", false)
  | 1 => ("GluedMachinesModel", "sizes", "[I", false)
  | 2 => ("GluedMachinesModel", "initial", "[I", false)
  | 3 => ("GluedMachinesModel", "written", "I", false)
  | 4 => ("GluedMachinesModel", "words", "[I", false)
  | 5 => ("GluedMachinesModel", "formulas", "I", false)
  | 6 => ("GluedMachinesModel", "lengths", "[I", false)
  | 7 => ("GluedMachinesModel", "text", "[I", false)
  | 8 => ("GluedMachinesModel", "isTruth", "[Z", false)
  | 9 => ("GluedMachinesModel", "hasParameter", "[Z", false)
  | 10 => ("GluedMachinesModel", "hasLower", "[Z", false)
  | 11 => ("GluedMachinesModel", "events", "I", false)
  | 12 => ("GluedMachinesModel", "machines", "[I", false)
  | 13 => ("GluedMachinesModel", "ranges", "[I", false)
  | 14 => ("GluedMachinesModel", "refined", "[I", false)
  | 15 => ("GluedMachinesModel", "guards", "[I", false)
  | 16 => ("GluedMachinesModel", "assigned", "[I", false)
  | 17 => ("GluedMachinesModel", "witnesses", "[I", false)
  | 18 => ("GluedMachinesModel", "invariantCount", "[I", false)
  | 19 => ("GluedMachinesModel", "invariants", "[I", false)
  | 20 => ("GluedMachinesModel", "variant", "I", false)
  | 21 => ("GluedMachinesModel", "now", "[I", false)
  | 22 => ("GluedMachinesModel", "next", "[I", false)
  | 23 => ("GluedMachinesModel", "running", "Z", false)
  | 24 => ("GluedMachinesModel", "torn", "Z", false)
  | 25 => ("GluedMachinesModel", "steps", "I", false)
  | 26 => ("GluedMachinesModel", "run", "[I", false)
  | 27 => ("GluedMachinesModel", "shows", "Z", false)
  | 28 => ("GluedMachinesModel", "shown", "[I", false)
  | 29 => ("GluedMachinesModel", "pileSize", "I", false)
  | 30 => ("GluedMachinesModel", "pile", "[I", false)
  | 31 => ("GluedMachinesModel", "at", "I", false)
  | _ => ("GluedMachinesModel", "parameter", "I", false)
def tb_F9 : u_T := fun _ => ("", "", "", false)
def tb_cl : List vw_C := [("GluedMachines", tb_F0, 8), ("GluedMachines$Writing", tb_F1, 4), ("GluedMachines$Formula", tb_F2, 6), ("GluedMachines$Event", tb_F3, 6), ("GluedMachines$Invariants", tb_F4, 6), ("GluedMachines$Model", tb_F5, 8), ("GluedMachines$Duties", tb_F6, 4), ("GluedMachines$Run", tb_F7, 6), ("GluedMachinesModel", tb_F8, 33), ("java/lang/IllegalArgumentException", tb_F9, 0), ("java/lang/IllegalStateException", tb_F9, 0), ("java/lang/UnsupportedOperationException", tb_F9, 0)]
def tb_tt : List FieldType := [.int, .long, .boolean, .object "GluedMachines$Formula", .object "GluedMachines$Event"]
def tb_m0 : List am_M := [(⟨"GluedMachines", "<init>", "()V"⟩, prog_1_method_1_code, 2, none, [], 3, 39),
  (⟨"GluedMachines$Writing", "<init>", "()V"⟩, prog_9_method_1_code, 1, none, [], 1, 12),
  (⟨"GluedMachines$Model", "<init>", "()V"⟩, prog_6_method_1_code, 1, none, [], 2, 26),
  (⟨"GluedMachines$Invariants", "<init>", "()V"⟩, prog_5_method_1_code, 1, none, [], 1, 12),
  (⟨"java/util/Arrays", "fill", "([II)V"⟩, prog_22_method_103_code, 4, none, [], 0, 0),
  (⟨"GluedMachines$Duties", "<init>", "(LGluedMachines$Model;)V"⟩, prog_2_method_1_code, 2, none, [], 1, 12),
  (⟨"GluedMachines$Run", "<init>", "(LGluedMachines$Model;)V"⟩, prog_7_method_1_code, 2, none, [], 1, 12),
  (⟨"GluedMachines", "open", "()I"⟩, prog_1_method_13_code, 5, (some (.int)), [], 6, 102),
  (⟨"GluedMachines$Duties", "isBeginningRight", "()Z"⟩, prog_2_method_2_code, 1, (some (.boolean)), [], 4, 69),
  (⟨"GluedMachines$Invariants", "hold", "(I[I)Z"⟩, prog_5_method_5_code, 4, (some (.boolean)), [], 3, 54),
  (⟨"GluedMachines$Invariants", "codeOf", "([II)I"⟩, prog_5_method_7_code, 3, (some (.int)), [], 0, 0),
  (⟨"GluedMachines$Invariants", "isRight", "(III[I)Z"⟩, prog_5_method_6_code, 10, (some (.boolean)), [], 2, 33),
  (⟨"GluedMachines$Invariants", "count", "(I)I"⟩, prog_5_method_2_code, 2, (some (.int)), [], 0, 0),
  (⟨"GluedMachines$Formula", "answerIn", "([I)I"⟩, prog_4_method_6_code, 6, (some (.int)), [], 1, 16),
  (⟨"GluedMachines$Formula", "placeOf", "(I)I"⟩, prog_4_method_3_code, 1, (some (.int)), [], 0, 0),
  (⟨"GluedMachines$Formula", "result", "(IIII)I"⟩, prog_4_method_7_code, 4, (some (.int)), [], 0, 0)]
def tb_m1 : List am_M := [(⟨"GluedMachines$Event", "dutyKinds", "()I"⟩, prog_3_method_4_code, 2, (some (.int)), [], 0, 0),
  (⟨"GluedMachines$Duties", "wholeKinds", "(LGluedMachines$Event;I)I"⟩, prog_2_method_5_code, 7, (some (.int)), [], 5, 84),
  (⟨"GluedMachines$Duties", "mentionsFor", "(LGluedMachines$Event;)I"⟩, prog_2_method_6_code, 3, (some (.int)), [], 2, 26),
  (⟨"GluedMachines$Event", "mentions", "()I"⟩, prog_3_method_6_code, 3, (some (.int)), [], 0, 0),
  (⟨"GluedMachines$Invariants", "mentions", "(I)I"⟩, prog_5_method_4_code, 4, (some (.int)), [], 0, 0),
  (⟨"GluedMachines$Event", "hasDuty", "(I)Z"⟩, prog_3_method_5_code, 2, (some (.boolean)), [], 1, 13),
  (⟨"GluedMachines$Duties", "beginRows", "(II)V"⟩, prog_2_method_7_code, 5, none, [], 0, 0),
  (⟨"GluedMachines$Event", "allows", "([I)Z"⟩, prog_3_method_3_code, 2, (some (.boolean)), [], 2, 33),
  (⟨"GluedMachines$Duties", "isKept", "(ILGluedMachines$Event;)Z"⟩, prog_2_method_9_code, 4, (some (.boolean)), [], 4, 69),
  (⟨"GluedMachines$Model", "staysWithin", "(LGluedMachines$Event;[I)Z"⟩, prog_6_method_6_code, 4, (some (.boolean)), [], 2, 35),
  (⟨"GluedMachines", "isWithin", "(II)Z"⟩, prog_1_method_22_code, 2, (some (.boolean)), [], 0, 0),
  (⟨"GluedMachines$Model", "isAllowedAbove", "(LGluedMachines$Event;[I)Z"⟩, prog_6_method_7_code, 3, (some (.boolean)), [], 3, 49),
  (⟨"GluedMachines$Model", "lookAbove", "(LGluedMachines$Event;[I)V"⟩, prog_6_method_8_code, 3, none, [], 2, 35),
  (⟨"GluedMachines$Model", "variantIn", "([I)I"⟩, prog_6_method_4_code, 2, (some (.int)), [], 2, 33),
  (⟨"GluedMachines$Model", "leads", "(LGluedMachines$Event;[I)Z"⟩, prog_6_method_5_code, 3, (some (.boolean)), [], 3, 50),
  (⟨"GluedMachines$Duties", "nextRow", "()V"⟩, prog_2_method_8_code, 2, none, [], 0, 0)]
def tb_m2 : List am_M := [(⟨"java/lang/Integer", "bitCount", "(I)I"⟩, prog_16_method_49_code, 1, (some (.int)), [], 0, 0),
  (⟨"GluedMachines", "start", "()V"⟩, prog_1_method_14_code, 1, none, [], 2, 30),
  (⟨"GluedMachines$Run", "begin", "()V"⟩, prog_7_method_2_code, 1, none, [], 1, 18),
  (⟨"GluedMachines$Run", "end", "()V"⟩, prog_7_method_3_code, 1, none, [], 0, 0),
  (⟨"GluedMachines", "torn", "()Z"⟩, prog_1_method_19_code, 1, (some (.boolean)), [], 0, 0),
  (⟨"GluedMachines", "right", "()Z"⟩, prog_1_method_20_code, 1, (some (.boolean)), [], 4, 69),
  (⟨"GluedMachinesLaw", "variable", "(LGluedMachines;III)I"⟩, method_3_code, 5, (some (.int)), [(0, 7, 10, 13, 9)], 7, 97),
  (⟨"GluedMachines", "variable", "(III)V"⟩, prog_1_method_2_code, 4, none, [], 6, 82),
  (⟨"GluedMachines", "isVariable", "(I)Z"⟩, prog_1_method_24_code, 1, (some (.boolean)), [], 1, 13),
  (⟨"GluedMachinesLaw", "word", "(LGluedMachines;I[J)I"⟩, method_4_code, 4, (some (.int)), [(0, 9, 12, 13, 9), (0, 9, 15, 19, 10)], 7, 97),
  (⟨"GluedMachines", "word", "(I)I"⟩, prog_1_method_3_code, 2, (some (.int)), [], 6, 82),
  (⟨"GluedMachines$Words", "isOne", "(I)Z"⟩, prog_8_method_2_code, 1, (some (.boolean)), [], 1, 12),
  (⟨"GluedMachines$Words", "isOperator", "(I)Z"⟩, prog_8_method_3_code, 1, (some (.boolean)), [], 0, 0),
  (⟨"GluedMachines$Writing", "add", "(I)I"⟩, prog_9_method_2_code, 2, (some (.int)), [], 0, 0),
  (⟨"GluedMachinesLaw", "formula", "(LGluedMachines;[J)I"⟩, method_5_code, 3, (some (.int)), [(0, 8, 11, 13, 9), (0, 8, 14, 19, 10)], 7, 96),
  (⟨"GluedMachines", "formula", "()I"⟩, prog_1_method_4_code, 1, (some (.int)), [], 6, 82)]
def tb_m3 : List am_M := [(⟨"GluedMachines$Writing", "isFormula", "()Z"⟩, prog_9_method_4_code, 3, (some (.boolean)), [], 2, 33),
  (⟨"GluedMachines$Writing", "endFrom", "(I)I"⟩, prog_9_method_5_code, 7, (some (.int)), [], 1, 13),
  (⟨"GluedMachines$Words", "partsOf", "(I)I"⟩, prog_8_method_7_code, 1, (some (.int)), [], 0, 0),
  (⟨"GluedMachines$Words", "kindOfFirstPart", "(I)I"⟩, prog_8_method_5_code, 1, (some (.int)), [], 0, 0),
  (⟨"GluedMachines$Words", "kindOfSecondPart", "(I)I"⟩, prog_8_method_6_code, 1, (some (.int)), [], 0, 0),
  (⟨"GluedMachines$Words", "kindOf", "(I)I"⟩, prog_8_method_4_code, 1, (some (.int)), [], 0, 0),
  (⟨"GluedMachines$Writing", "clear", "()V"⟩, prog_9_method_3_code, 1, none, [], 0, 0),
  (⟨"GluedMachines$Formula", "<init>", "(LGluedMachines$Writing;)V"⟩, prog_4_method_1_code, 4, none, [], 2, 33),
  (⟨"java/util/Arrays", "copyOf", "([II)[I"⟩, prog_22_method_123_code, 3, (some (.array .int)), [], 1, 18),
  (⟨"GluedMachines$Formula", "mentionOf", "(I)I"⟩, prog_4_method_2_code, 2, (some (.int)), [], 1, 13),
  (⟨"GluedMachinesLaw", "event", "(LGluedMachines;III[J)I"⟩, method_6_code, 6, (some (.int)), [(0, 12, 15, 13, 9), (0, 12, 19, 19, 10)], 7, 99),
  (⟨"GluedMachines", "event", "(III)I"⟩, prog_1_method_5_code, 4, (some (.int)), [], 6, 82),
  (⟨"GluedMachines", "isMachine", "(I)Z"⟩, prog_1_method_23_code, 1, (some (.boolean)), [], 0, 0),
  (⟨"GluedMachines", "mayRefine", "(II)Z"⟩, prog_1_method_26_code, 4, (some (.boolean)), [], 2, 26),
  (⟨"GluedMachines$Model", "eventOrNone", "(I)LGluedMachines$Event;"⟩, prog_6_method_3_code, 2, (some (.object "GluedMachines$Event")), [], 1, 13),
  (⟨"GluedMachines$Event", "<init>", "(IILGluedMachines$Event;)V"⟩, prog_3_method_1_code, 4, none, [], 1, 12)]
def tb_m4 : List am_M := [(⟨"GluedMachines$Model", "add", "(LGluedMachines$Event;)I"⟩, prog_6_method_2_code, 2, (some (.int)), [], 0, 0),
  (⟨"GluedMachinesLaw", "guard", "(LGluedMachines;II)I"⟩, method_7_code, 4, (some (.int)), [(0, 6, 9, 13, 9)], 9, 123),
  (⟨"GluedMachines", "guard", "(II)V"⟩, prog_1_method_6_code, 5, none, [], 8, 107),
  (⟨"GluedMachines", "eventAt", "(I)LGluedMachines$Event;"⟩, prog_1_method_27_code, 3, (some (.object "GluedMachines$Event")), [], 6, 82),
  (⟨"GluedMachines", "truthAt", "(I)LGluedMachines$Formula;"⟩, prog_1_method_29_code, 2, (some (.object "GluedMachines$Formula")), [], 7, 94),
  (⟨"GluedMachines", "refuseUnless", "(Z)V"⟩, prog_1_method_21_code, 1, none, [], 6, 82),
  (⟨"GluedMachines$Event", "mayHave", "(LGluedMachines$Formula;)Z"⟩, prog_3_method_2_code, 2, (some (.boolean)), [], 1, 12),
  (⟨"GluedMachines$Formula", "hasLowerVariables", "()Z"⟩, prog_4_method_5_code, 1, (some (.boolean)), [], 0, 0),
  (⟨"GluedMachinesLaw", "assign", "(LGluedMachines;III)I"⟩, method_8_code, 5, (some (.int)), [(0, 7, 10, 13, 9)], 9, 124),
  (⟨"GluedMachines", "assign", "(III)V"⟩, prog_1_method_7_code, 6, none, [], 8, 107),
  (⟨"GluedMachines", "numberAt", "(I)LGluedMachines$Formula;"⟩, prog_1_method_30_code, 2, (some (.object "GluedMachines$Formula")), [], 7, 94),
  (⟨"GluedMachines", "machineOf", "(I)I"⟩, prog_1_method_25_code, 1, (some (.int)), [], 0, 0),
  (⟨"GluedMachinesLaw", "witness", "(LGluedMachines;II)I"⟩, method_9_code, 4, (some (.int)), [(0, 6, 9, 13, 9)], 9, 123),
  (⟨"GluedMachines", "witness", "(II)V"⟩, prog_1_method_8_code, 5, none, [], 8, 107),
  (⟨"GluedMachinesLaw", "invariant", "(LGluedMachines;II[J)I"⟩, method_10_code, 5, (some (.int)), [(0, 10, 13, 13, 9), (0, 10, 17, 19, 10)], 9, 124),
  (⟨"GluedMachines", "invariant", "(II)I"⟩, prog_1_method_9_code, 4, (some (.int)), [], 8, 107)]
def tb_m5 : List am_M := [(⟨"GluedMachines$Formula", "hasParameter", "()Z"⟩, prog_4_method_4_code, 1, (some (.boolean)), [], 0, 0),
  (⟨"GluedMachines$Invariants", "add", "(ILGluedMachines$Formula;)I"⟩, prog_5_method_3_code, 3, (some (.int)), [], 1, 16),
  (⟨"java/util/Arrays", "fill", "([JJ)V"⟩, prog_22_method_101_code, 5, none, [], 0, 0),
  (⟨"GluedMachinesLaw", "variant", "(LGluedMachines;I)I"⟩, method_11_code, 3, (some (.int)), [(0, 5, 8, 13, 9)], 9, 121),
  (⟨"GluedMachines", "variant", "(I)V"⟩, prog_1_method_10_code, 3, none, [], 8, 107),
  (⟨"GluedMachinesLaw", "done", "(LGluedMachines;II[J)I"⟩, method_12_code, 5, (some (.int)), [(0, 17, 20, 13, 9)], 8, 119),
  (⟨"GluedMachines", "done", "(II)Z"⟩, prog_1_method_11_code, 4, (some (.boolean)), [], 7, 102),
  (⟨"GluedMachines", "isDuty", "(II)Z"⟩, prog_1_method_31_code, 4, (some (.boolean)), [], 2, 26),
  (⟨"GluedMachines$Duties", "isMovingAlways", "()Z"⟩, prog_2_method_3_code, 3, (some (.boolean)), [], 4, 69),
  (⟨"GluedMachines$Duties", "isMoving", "()Z"⟩, prog_2_method_4_code, 5, (some (.boolean)), [], 3, 46),
  (⟨"GluedMachinesLaw", "broken", "(LGluedMachines;I[J)I"⟩, method_13_code, 4, (some (.int)), [(0, 9, 12, 13, 9)], 8, 109),
  (⟨"GluedMachines", "broken", "(I)I"⟩, prog_1_method_12_code, 2, (some (.int)), [], 7, 94),
  (⟨"GluedMachinesLaw", "enabled", "(LGluedMachines;II[J)I"⟩, method_14_code, 5, (some (.int)), [(0, 17, 20, 13, 9), (0, 17, 24, 19, 10)], 9, 128),
  (⟨"GluedMachines", "enabled", "(II)Z"⟩, prog_1_method_15_code, 4, (some (.boolean)), [], 8, 111),
  (⟨"GluedMachines", "lowerEventAt", "(II)LGluedMachines$Event;"⟩, prog_1_method_28_code, 4, (some (.object "GluedMachines$Event")), [], 7, 96),
  (⟨"GluedMachines$Run", "canDo", "(LGluedMachines$Event;I)Z"⟩, prog_7_method_4_code, 3, (some (.boolean)), [], 4, 64)]
def tb_m6 : List am_M := [(⟨"GluedMachinesLaw", "fire", "(LGluedMachines;II[J)I"⟩, method_15_code, 5, (some (.int)), [(0, 10, 13, 13, 9), (0, 10, 17, 19, 10), (0, 10, 21, 60, 11)], 9, 128),
  (⟨"GluedMachines", "fire", "(II)I"⟩, prog_1_method_16_code, 4, (some (.int)), [], 8, 111),
  (⟨"GluedMachines$Run", "advance", "(LGluedMachines$Event;I)I"⟩, prog_7_method_5_code, 3, (some (.int)), [], 4, 64),
  (⟨"GluedMachinesLaw", "back", "(LGluedMachines;[J)I"⟩, method_16_code, 3, (some (.int)), [(0, 8, 11, 19, 10)], 7, 96),
  (⟨"GluedMachines", "back", "()I"⟩, prog_1_method_17_code, 1, (some (.int)), [], 6, 82),
  (⟨"GluedMachines$Run", "retreat", "()I"⟩, prog_7_method_6_code, 1, (some (.int)), [], 1, 18),
  (⟨"GluedMachinesLaw", "value", "(LGluedMachines;I[J)I"⟩, method_17_code, 4, (some (.int)), [(0, 9, 12, 13, 9)], 8, 109),
  (⟨"GluedMachines", "value", "(I)I"⟩, prog_1_method_18_code, 2, (some (.int)), [], 7, 94),
  (⟨"GluedMachinesModel", "<init>", "()V"⟩, prog_11_method_1_code, 2, none, [], 1, 12),
  (⟨"GluedMachinesModel", "thrown", "()I"⟩, prog_11_method_2_code, 1, (some (.int)), [], 0, 0),
  (⟨"GluedMachinesModel", "word", "(I)I"⟩, prog_11_method_4_code, 2, (some (.int)), [], 1, 14),
  (⟨"GluedMachinesModel", "isWord", "(I)Z"⟩, prog_11_method_3_code, 2, (some (.boolean)), [], 0, 0),
  (⟨"GluedMachinesModel", "formula", "()I"⟩, prog_11_method_9_code, 3, (some (.int)), [], 2, 31),
  (⟨"GluedMachinesModel", "isFormula", "()Z"⟩, prog_11_method_8_code, 4, (some (.boolean)), [], 1, 15),
  (⟨"GluedMachinesModel", "parts", "(I)I"⟩, prog_11_method_5_code, 2, (some (.int)), [], 0, 0),
  (⟨"GluedMachinesModel", "wantsTruth", "(II)Z"⟩, prog_11_method_7_code, 3, (some (.boolean)), [], 0, 0)]
def tb_m7 : List am_M := [(⟨"GluedMachinesModel", "makesTruth", "(I)Z"⟩, prog_11_method_6_code, 2, (some (.boolean)), [], 0, 0),
  (⟨"GluedMachinesModel", "variable", "(III)V"⟩, prog_11_method_13_code, 4, none, [], 0, 0),
  (⟨"GluedMachinesModel", "event", "(III)I"⟩, prog_11_method_16_code, 5, (some (.int)), [], 1, 13),
  (⟨"GluedMachinesModel", "noEvent", "(I)Z"⟩, prog_11_method_14_code, 2, (some (.boolean)), [], 0, 0),
  (⟨"GluedMachinesModel", "guard", "(II)V"⟩, prog_11_method_18_code, 3, none, [], 2, 29),
  (⟨"GluedMachinesModel", "mayNot", "(IIZ)Z"⟩, prog_11_method_17_code, 4, (some (.boolean)), [], 1, 13),
  (⟨"GluedMachinesModel", "noFormula", "(I)Z"⟩, prog_11_method_15_code, 2, (some (.boolean)), [], 0, 0),
  (⟨"GluedMachinesModel", "assign", "(III)V"⟩, prog_11_method_19_code, 4, none, [], 2, 29),
  (⟨"GluedMachinesModel", "witness", "(II)V"⟩, prog_11_method_20_code, 3, none, [], 2, 29),
  (⟨"GluedMachinesModel", "invariant", "(II)I"⟩, prog_11_method_21_code, 4, (some (.int)), [], 1, 13),
  (⟨"GluedMachinesModel", "variant", "(I)V"⟩, prog_11_method_22_code, 2, none, [], 1, 14),
  (⟨"GluedMachinesModel", "done", "(II)Z"⟩, prog_11_method_36_code, 5, (some (.boolean)), [], 7, 120),
  (⟨"GluedMachinesModel", "noDuty", "(II)Z"⟩, prog_11_method_31_code, 3, (some (.boolean)), [], 1, 13),
  (⟨"GluedMachinesModel", "isDone", "(II)Z"⟩, prog_11_method_35_code, 7, (some (.boolean)), [], 6, 102),
  (⟨"GluedMachinesModel", "isRight", "(Z)Z"⟩, prog_11_method_24_code, 2, (some (.boolean)), [], 4, 66),
  (⟨"GluedMachinesModel", "holds", "(IZ)Z"⟩, prog_11_method_23_code, 5, (some (.boolean)), [], 3, 50)]
def tb_m8 : List am_M := [(⟨"GluedMachinesModel", "find", "(IZI)I"⟩, prog_11_method_12_code, 11, (some (.int)), [], 2, 28),
  (⟨"GluedMachinesModel", "worked", "(III)I"⟩, prog_11_method_11_code, 4, (some (.int)), [], 1, 13),
  (⟨"GluedMachinesModel", "clamped", "(I)I"⟩, prog_11_method_10_code, 2, (some (.int)), [], 0, 0),
  (⟨"GluedMachinesModel", "someMoves", "()Z"⟩, prog_11_method_33_code, 4, (some (.boolean)), [], 4, 64),
  (⟨"GluedMachinesModel", "isEnabled", "(II)Z"⟩, prog_11_method_25_code, 3, (some (.boolean)), [], 3, 50),
  (⟨"GluedMachinesModel", "isKept", "(III)Z"⟩, prog_11_method_32_code, 8, (some (.boolean)), [], 5, 83),
  (⟨"GluedMachinesModel", "lead", "(II)V"⟩, prog_11_method_27_code, 5, none, [], 3, 52),
  (⟨"GluedMachinesModel", "isWithin", "(II)Z"⟩, prog_11_method_28_code, 5, (some (.boolean)), [], 0, 0),
  (⟨"GluedMachinesModel", "isFollowed", "(II)Z"⟩, prog_11_method_30_code, 5, (some (.boolean)), [], 4, 64),
  (⟨"GluedMachinesModel", "witnessOf", "(II)I"⟩, prog_11_method_26_code, 3, (some (.int)), [], 3, 50),
  (⟨"GluedMachinesModel", "leadBoth", "(II)Z"⟩, prog_11_method_29_code, 4, (some (.boolean)), [], 4, 68),
  (⟨"GluedMachinesModel", "count", "(I)Z"⟩, prog_11_method_34_code, 3, (some (.boolean)), [], 0, 0),
  (⟨"GluedMachinesModel", "broken", "(I)I"⟩, prog_11_method_37_code, 2, (some (.int)), [], 0, 0),
  (⟨"GluedMachinesModel", "open", "()I"⟩, prog_11_method_38_code, 4, (some (.int)), [], 7, 121),
  (⟨"GluedMachinesModel", "start", "()V"⟩, prog_11_method_39_code, 2, none, [], 0, 0),
  (⟨"GluedMachinesModel", "enabled", "(II)Z"⟩, prog_11_method_42_code, 3, (some (.boolean)), [], 5, 83)]
def tb_m9 : List am_M := [(⟨"GluedMachinesModel", "checked", "(II)I"⟩, prog_11_method_41_code, 3, (some (.int)), [], 1, 13),
  (⟨"GluedMachinesModel", "look", "()V"⟩, prog_11_method_40_code, 2, none, [], 0, 0),
  (⟨"GluedMachinesModel", "fire", "(II)I"⟩, prog_11_method_43_code, 5, (some (.int)), [], 5, 84),
  (⟨"GluedMachinesModel", "back", "()I"⟩, prog_11_method_44_code, 1, (some (.int)), [], 0, 0),
  (⟨"GluedMachinesModel", "value", "(I)I"⟩, prog_11_method_45_code, 2, (some (.int)), [], 0, 0),
  (⟨"GluedMachinesModel", "torn", "()Z"⟩, prog_11_method_46_code, 1, (some (.boolean)), [], 0, 0),
  (⟨"GluedMachinesModel", "right", "()Z"⟩, prog_11_method_47_code, 1, (some (.boolean)), [], 5, 79),
  (⟨"GluedMachinesLaw", "law", "([I)Z"⟩, code, 7, ret, [], 10, 144)]
def tb_ml : List am_M := tb_m0 ++ tb_m1 ++ tb_m2 ++ tb_m3 ++ tb_m4 ++ tb_m5 ++ tb_m6 ++ tb_m7 ++ tb_m8 ++ tb_m9
def tb_me (y : Nat) : am_M := tb_ml.getD y (⟨"GluedMachinesLaw", "law", "([I)Z"⟩, code, 7, ret, [], 0, 0)
def tb_kl (y : Nat) : Nat := ([0, 1, 5, 4, 11, 6, 7, 0, 6, 4, 4, 4, 4, 2, 2, 2, 3, 6, 6, 3, 4, 3, 6, 3, 6, 5, 0, 5, 5, 5, 5, 6, 12, 0, 7, 7, 0, 0, 9, 0, 0, 9, 0, 10, 10, 1, 9, 0, 1, 1, 10, 10, 10, 10, 1, 2, 11, 2, 9, 0, 0, 0, 5, 3, 5, 9, 0, 0, 0, 0, 3, 2, 9, 0, 0, 0, 9, 0, 9, 0, 2, 4, 11, 9, 0, 9, 0, 0, 6, 6, 9, 0, 9, 0, 0, 7, 9, 0, 7, 9, 0, 7, 9, 0, 8, 8, 8, 8, 8, 8, 8, 8, 8, 8, 8, 8, 8, 8, 8, 8, 8, 8, 8, 8, 8, 8, 8, 8, 8, 8, 8, 8, 8, 8, 8, 8, 8, 8, 8, 8, 8, 8, 8, 8, 8, 8, 8, 8, 8, 8, 8, 9] : List Nat).getD y 9
def tb_on (o : Nat) : String := (["GluedMachines", "GluedMachines$Writing", "GluedMachines$Formula", "GluedMachines$Event", "GluedMachines$Invariants", "GluedMachines$Model", "GluedMachines$Duties", "GluedMachines$Run", "GluedMachinesModel", "GluedMachinesLaw", "GluedMachines$Words", "java/util/Arrays", "java/lang/Integer"] : List String).getD o ""
def tb_ini (y : Nat) : Bool := ([true, true, true, true, false, true, true, false, false, false, false, false, false, false, false, false, false, false, false, false, false, false, false, false, false, false, false, false, false, false, false, false, false, false, false, false, false, false, false, false, false, false, false, false, false, false, false, false, false, false, false, false, false, false, false, true, false, false, false, false, false, false, false, true, false, false, false, false, false, false, false, false, false, false, false, false, false, false, false, false, false, false, false, false, false, false, false, false, false, false, false, false, false, false, false, false, false, false, false, false, false, false, false, false, true, false, false, false, false, false, false, false, false, false, false, false, false, false, false, false, false, false, false, false, false, false, false, false, false, false, false, false, false, false, false, false, false, false, false, false, false, false, false, false, false, false, false, false, false, false, false, false] : List Bool).getD y false
def tb_fdl : List (List (Nat × Nat × Nat × FieldType × Bool × Bool × Nat)) := [[(10, 0, 0, .object "GluedMachines$Writing", true, true, 224), (18, 0, 1, .array (.object "GluedMachines$Formula"), true, true, 225), (22, 0, 2, .int, false, true, 226), (26, 0, 6, .array .int, true, true, 230), (30, 0, 7, .boolean, false, true, 231), (37, 0, 3, .object "GluedMachines$Model", true, true, 227), (46, 0, 4, .object "GluedMachines$Duties", true, true, 228), (53, 0, 5, .object "GluedMachines$Run", true, true, 229), (68, 5, 0, .array .int, true, false, 136), (71, 5, 1, .array .int, true, false, 141), (82, 1, 3, .int, false, false, 84), (108, 5, 3, .int, false, false, 147), (138, 3, 3, .object "GluedMachines$Formula", false, false, 609), (148, 3, 0, .int, true, false, 599), (151, 3, 5, .array (.object "GluedMachines$Formula"), true, false, 615), (154, 3, 2, .object "GluedMachines$Event", true, false, 607), (158, 3, 4, .object "GluedMachines$Formula", false, false, 612), (167, 5, 4, .object "GluedMachines$Invariants", true, false, 150), (178, 5, 5, .object "GluedMachines$Formula", false, false, 153), (194, 6, 1, .array .int, true, false, 183), (203, 5, 2, .array (.object "GluedMachines$Event"), true, false, 144), (223, 7, 4, .boolean, false, false, 208), (230, 7, 5, .boolean, false, false, 210), (233, 7, 3, .int, false, false, 206), (245, 7, 1, .array .int, true, false, 203), (250, 3, 1, .int, true, false, 603), (253, 2, 4, .boolean, true, false, 554)],
  [(9, 1, 0, .array .int, true, true, 76), (15, 1, 1, .array .int, true, true, 78), (18, 1, 2, .array .int, true, true, 80), (21, 1, 3, .int, false, true, 83)],
  [(9, 2, 3, .array .int, true, true, 552), (15, 1, 0, .array .int, true, false, 77), (20, 1, 3, .int, false, false, 82), (30, 2, 0, .array .int, true, true, 549), (31, 2, 1, .array .int, true, true, 550), (34, 2, 2, .array .int, true, true, 551), (37, 1, 2, .array .int, true, false, 81), (44, 1, 1, .array .int, true, false, 79), (49, 2, 4, .boolean, true, true, 553), (53, 2, 5, .int, true, true, 555)],
  [(9, 3, 3, .object "GluedMachines$Formula", false, true, 608), (15, 3, 4, .object "GluedMachines$Formula", false, true, 610), (20, 3, 5, .array (.object "GluedMachines$Formula"), true, true, 613), (24, 3, 0, .int, true, true, 597), (28, 3, 1, .int, true, true, 600), (31, 3, 2, .object "GluedMachines$Event", true, true, 604), (47, 2, 5, .int, true, false, 557)],
  [(11, 4, 0, .array (.object "GluedMachines$Formula"), true, true, 112), (17, 4, 1, .array (.object "GluedMachines$Formula"), true, true, 113), (20, 4, 2, .int, false, true, 114), (24, 4, 3, .int, false, true, 115), (27, 4, 4, .array .long, true, true, 116), (31, 4, 5, .array .long, true, true, 117), (44, 2, 5, .int, true, false, 556)],
  [(9, 5, 0, .array .int, true, true, 135), (15, 5, 1, .array .int, true, true, 138), (20, 5, 2, .array (.object "GluedMachines$Event"), true, true, 142), (24, 5, 3, .int, false, true, 145), (31, 5, 4, .object "GluedMachines$Invariants", true, true, 148), (35, 5, 5, .object "GluedMachines$Formula", false, true, 151), (39, 5, 6, .array .int, true, true, 154), (42, 5, 7, .array .int, true, true, 157), (71, 3, 2, .object "GluedMachines$Event", true, false, 605), (79, 3, 5, .array (.object "GluedMachines$Formula"), true, false, 614), (83, 3, 1, .int, true, false, 602), (90, 3, 4, .object "GluedMachines$Formula", false, false, 611)],
  [(9, 6, 1, .array .int, true, true, 182), (15, 6, 2, .array .int, true, true, 184), (18, 6, 3, .int, false, true, 185), (22, 6, 0, .object "GluedMachines$Model", true, true, 181), (26, 5, 1, .array .int, true, false, 139), (37, 5, 4, .object "GluedMachines$Invariants", true, false, 149), (51, 5, 3, .int, false, false, 146), (54, 5, 2, .array (.object "GluedMachines$Event"), true, false, 143), (58, 3, 0, .int, true, false, 598), (77, 3, 1, .int, true, false, 601), (96, 5, 5, .object "GluedMachines$Formula", false, false, 152), (100, 2, 5, .int, true, false, 558), (104, 3, 2, .object "GluedMachines$Event", true, false, 606), (108, 5, 0, .array .int, true, false, 137), (125, 5, 6, .array .int, true, false, 156)],
  [(9, 7, 1, .array .int, true, true, 202), (15, 7, 2, .array .int, true, true, 204), (18, 7, 3, .int, false, true, 205), (22, 7, 4, .boolean, false, true, 207), (26, 7, 5, .boolean, false, true, 209), (29, 7, 0, .object "GluedMachines$Model", true, true, 201), (36, 5, 1, .array .int, true, false, 140), (60, 5, 6, .array .int, true, false, 155)],
  [(7, 8, 1, .array .int, false, true, 805), (13, 8, 2, .array .int, false, true, 806), (16, 8, 4, .array .int, false, true, 808), (19, 8, 6, .array .int, false, true, 810), (22, 8, 7, .array .int, false, true, 811), (25, 8, 8, .array .boolean, false, true, 812), (29, 8, 9, .array .boolean, false, true, 813), (32, 8, 10, .array .boolean, false, true, 814), (35, 8, 12, .array .int, false, true, 816), (38, 8, 13, .array .int, false, true, 817), (41, 8, 14, .array .int, false, true, 818), (44, 8, 15, .array .int, false, true, 819), (47, 8, 16, .array .int, false, true, 820), (50, 8, 17, .array .int, false, true, 821), (53, 8, 18, .array .int, false, true, 822), (56, 8, 19, .array .int, false, true, 823), (59, 8, 20, .int, false, true, 824), (63, 8, 21, .array .int, false, true, 825), (66, 8, 22, .array .int, false, true, 826), (69, 8, 26, .array .int, false, true, 830), (72, 8, 28, .array .int, false, true, 832), (75, 8, 30, .array .int, false, true, 834), (78, 8, 0, .int, false, true, 804), (85, 8, 3, .int, false, true, 807), (88, 8, 29, .int, false, true, 833), (106, 8, 5, .int, false, true, 809), (116, 8, 23, .boolean, false, true, 827), (120, 8, 11, .int, false, true, 815), (165, 8, 32, .int, false, true, 835), (184, 8, 27, .boolean, false, true, 831), (187, 8, 24, .boolean, false, true, 828), (190, 8, 25, .int, false, true, 829)],
  [],
  [],
  [],
  []]
def tb_cal : List (List (Nat × Nat × Nat × Nat × Bool × Nat)) := [[(9, 1, 0, 2, true, 72), (36, 2, 0, 2, false, 99), (43, 5, 1, 2, false, 177), (52, 6, 1, 2, false, 197), (57, 40, 1, 0, false, 396), (61, 26, 2, 0, false, 399), (74, 35, 0, 1, false, 463), (77, 43, 1, 0, false, 472), (88, 45, 1, 1, false, 493), (92, 48, 0, 1, false, 504), (96, 54, 0, 1, false, 525), (99, 55, 1, 2, false, 530), (102, 60, 1, 0, false, 579), (105, 61, 2, 1, false, 582), (113, 62, 1, 1, false, 586), (117, 63, 3, 2, false, 592), (120, 64, 1, 1, false, 629), (123, 67, 1, 1, false, 640), (126, 68, 1, 1, false, 644), (130, 70, 1, 1, false, 651), (134, 69, 1, 0, false, 648), (142, 74, 1, 1, false, 666), (145, 75, 1, 0, false, 670), (161, 80, 0, 1, false, 687), (164, 71, 0, 1, false, 691), (171, 12, 1, 1, false, 692), (175, 81, 2, 1, false, 693), (181, 87, 2, 1, false, 714), (184, 8, 0, 1, false, 253), (187, 88, 0, 1, false, 719), (190, 17, 2, 1, false, 295), (207, 16, 0, 1, false, 291), (211, 32, 1, 0, false, 360), (216, 34, 0, 1, false, 370), (219, 94, 2, 1, false, 742), (226, 95, 2, 1, false, 746), (239, 98, 2, 1, false, 775), (242, 101, 0, 1, false, 787), (246, 9, 2, 1, false, 387), (256, 21, 1, 1, false, 718)],
  [(27, 49, 1, 1, false, 508), (31, 53, 1, 0, false, 522), (34, 44, 1, 0, false, 512), (38, 50, 1, 0, false, 513), (41, 51, 1, 0, false, 516), (44, 52, 1, 0, false, 519)],
  [(24, 56, 2, 0, false, 534), (40, 57, 1, 0, false, 546), (56, 14, 1, 0, false, 279), (59, 15, 4, 0, false, 282)],
  [(35, 71, 0, 1, false, 655), (39, 13, 1, 1, false, 324), (43, 16, 0, 1, false, 315)],
  [(34, 82, 2, 0, false, 697), (40, 12, 1, 1, false, 271), (47, 10, 2, 0, false, 264), (51, 11, 4, 1, false, 267), (55, 13, 1, 1, false, 275)],
  [(30, 3, 0, 2, true, 107), (45, 4, 2, 0, false, 132), (51, 26, 2, 0, true, 334), (55, 13, 1, 1, false, 333), (67, 25, 2, 1, false, 355), (75, 28, 2, 1, false, 341), (86, 23, 1, 1, false, 346)],
  [(41, 9, 2, 1, false, 260), (47, 20, 1, 1, false, 307), (63, 19, 0, 1, false, 303), (66, 22, 2, 1, false, 316), (70, 89, 0, 1, false, 723), (74, 31, 0, 1, false, 356), (80, 23, 1, 1, false, 320), (84, 18, 1, 1, false, 299), (88, 24, 2, 1, false, 325), (92, 21, 1, 1, false, 311), (111, 25, 2, 1, false, 329), (115, 27, 2, 1, false, 337), (118, 29, 1, 1, false, 347), (122, 30, 2, 1, false, 351)],
  [(33, 35, 0, 1, false, 374), (47, 23, 1, 1, false, 750), (53, 30, 2, 1, false, 751), (57, 27, 2, 1, false, 779)],
  [(81, 107, 1, 1, false, 912), (91, 110, 1, 1, false, 924), (95, 111, 2, 1, false, 928), (99, 112, 1, 1, false, 932), (102, 109, 0, 1, false, 920), (109, 130, 1, 1, false, 1004), (112, 129, 3, 1, false, 1000), (123, 115, 1, 1, false, 944), (126, 118, 1, 1, false, 956), (129, 117, 3, 1, false, 952), (133, 128, 3, 1, false, 996), (137, 127, 2, 1, false, 992), (141, 134, 2, 1, false, 1020), (145, 137, 2, 1, false, 1032), (149, 135, 2, 1, false, 1024), (152, 132, 2, 1, false, 1012), (155, 136, 2, 1, false, 1028), (158, 138, 2, 1, false, 1036), (161, 126, 1, 1, false, 988), (168, 131, 0, 1, false, 1008), (171, 133, 3, 1, false, 1016), (175, 139, 1, 1, false, 1040), (178, 124, 2, 1, false, 980), (181, 125, 2, 1, false, 984), (193, 144, 2, 1, false, 1060), (196, 145, 0, 1, false, 1064)],
  [(7, 39, 3, 1, false, 392), (15, 42, 1, 1, false, 468), (21, 47, 0, 1, false, 500), (25, 59, 3, 1, false, 575), (29, 66, 2, 1, false, 636), (33, 73, 3, 1, false, 662), (36, 77, 2, 1, false, 676), (39, 79, 2, 1, false, 683), (43, 84, 1, 1, false, 703), (47, 86, 2, 1, false, 710), (51, 91, 1, 1, false, 731), (54, 93, 2, 1, false, 738), (57, 97, 2, 1, false, 756), (62, 100, 0, 1, false, 783), (65, 103, 1, 1, false, 794), (68, 0, 0, 2, false, 64), (71, 104, 0, 2, false, 800), (72, 38, 4, 0, false, 388), (77, 113, 3, 1, false, 936), (78, 105, 0, 1, false, 904), (81, 41, 3, 0, false, 464), (84, 106, 1, 1, false, 908), (85, 46, 2, 0, false, 497), (88, 108, 0, 1, false, 916), (89, 58, 5, 0, false, 572), (92, 114, 3, 1, false, 940), (93, 65, 3, 0, false, 633), (96, 116, 2, 1, false, 948), (97, 72, 4, 0, false, 659), (99, 119, 3, 1, false, 960), (100, 76, 3, 0, false, 673), (102, 120, 2, 1, false, 964), (103, 78, 4, 0, false, 680), (106, 121, 2, 1, false, 968), (107, 83, 2, 0, false, 700), (110, 122, 1, 1, false, 972), (111, 85, 4, 0, false, 707), (113, 123, 2, 1, false, 976), (114, 90, 3, 0, false, 728), (116, 140, 1, 1, false, 1044), (117, 7, 0, 1, false, 249), (120, 141, 0, 1, false, 1048), (121, 33, 0, 1, false, 366), (124, 142, 0, 1, false, 1052), (125, 92, 4, 0, false, 735), (127, 143, 2, 1, false, 1056), (128, 96, 4, 0, false, 752), (130, 146, 2, 1, false, 1068), (131, 99, 2, 0, false, 780), (133, 147, 0, 1, false, 1072), (134, 102, 3, 0, false, 791), (136, 148, 1, 1, false, 1076), (137, 36, 0, 1, false, 379), (141, 149, 0, 1, false, 1080), (142, 37, 0, 1, false, 383), (145, 150, 0, 1, false, 1084)],
  [(9, 44, 1, 0, false, 475)],
  [],
  []]
def tb_spl : List (List (Nat × Nat × List Nat)) := [[(1, 0, [67, 68, 69]), (197, 3, [727, 259, 258, 58])],
  [(3, 0, [75, 68, 69])],
  [(3, 0, [533, 68, 69]), (63, 2, [285, 286, 57, 287]), (69, 1, [288, 289, 57, 290])],
  [(3, 0, [595, 68, 69])],
  [(3, 0, [110, 68, 69])],
  [(3, 0, [102, 68, 69]), (61, 3, [345, 259, 258, 58])],
  [(3, 0, [180, 68, 69]), (31, 3, [257, 259, 258, 58])],
  [(3, 0, [200, 68, 69]), (41, 3, [378, 259, 258, 58])],
  [(1, 0, [803, 68, 69])],
  [],
  [],
  [(150, 3, [545, 259, 258, 58]), (304, 2, [544, 286, 57, 287]), (316, 4, [537, 538, 539, 540, 541]), (317, 5, [543])],
  []]
def tb_mw (z : Nat) : Nat × Nat × Nat × Nat := ([(42, 66, 65, 0), (43, 74, 73, 0), (44, 101, 100, 0), (45, 109, 108, 0), (46, 134, 133, 0), (47, 179, 178, 0), (48, 199, 198, 0), (42, 252, 250, 251), (47, 256, 254, 255), (45, 263, 261, 262), (45, 266, 265, 0), (45, 270, 269, 0), (45, 274, 272, 273), (56, 278, 276, 277), (56, 281, 280, 0), (56, 284, 283, 0), (59, 294, 292, 293), (47, 298, 296, 297), (47, 302, 301, 1), (59, 306, 304, 305), (45, 310, 308, 309), (59, 314, 312, 313), (47, 319, 318, 2), (59, 323, 321, 322), (47, 328, 327, 3), (44, 332, 330, 331), (42, 336, 335, 0), (44, 340, 338, 339), (44, 344, 343, 4), (44, 350, 348, 349), (44, 354, 352, 353), (47, 359, 358, 5), (60, 362, 361, 0), (42, 369, 367, 368), (48, 373, 371, 372), (48, 377, 375, 376), (42, 382, 380, 381), (42, 386, 384, 385), (41, 390, 389, 0), (42, 395, 393, 394), (42, 398, 397, 0), (41, 466, 465, 0), (42, 471, 469, 470), (54, 474, 473, 0), (54, 477, 476, 0), (43, 496, 494, 495), (41, 499, 498, 0), (42, 503, 501, 502), (43, 507, 505, 506), (43, 511, 510, 7), (54, 515, 514, 0), (54, 518, 517, 0), (54, 521, 520, 0), (54, 524, 523, 0), (43, 528, 526, 527), (56, 532, 531, 0), (46, 536, 535, 0), (56, 548, 547, 0), (41, 574, 573, 0), (42, 578, 576, 577), (42, 581, 580, 0), (42, 585, 584, 8), (44, 589, 587, 588), (59, 594, 593, 0), (44, 632, 630, 631), (41, 635, 634, 0), (42, 639, 637, 638), (42, 643, 642, 9), (42, 647, 646, 10), (42, 650, 649, 0), (59, 654, 652, 653), (56, 658, 656, 657), (41, 661, 660, 0), (42, 665, 663, 664), (42, 669, 668, 11), (42, 672, 671, 0), (41, 675, 674, 0), (42, 679, 677, 678), (41, 682, 681, 0), (42, 686, 684, 685), (56, 690, 688, 689), (45, 696, 694, 695), (46, 699, 698, 0), (41, 702, 701, 0), (42, 706, 704, 705), (41, 709, 708, 0), (42, 713, 711, 712), (42, 717, 716, 12), (47, 722, 720, 721), (47, 726, 725, 13), (41, 730, 729, 0), (42, 734, 732, 733), (41, 737, 736, 0), (42, 741, 739, 740), (42, 745, 744, 14), (48, 749, 747, 748), (41, 754, 753, 0), (42, 759, 757, 758), (48, 778, 776, 777), (41, 782, 781, 0), (42, 786, 784, 785), (48, 790, 788, 789), (41, 793, 792, 0), (42, 797, 795, 796), (49, 802, 801, 0), (49, 907, 905, 906), (49, 911, 909, 910), (49, 915, 914, 15), (49, 919, 917, 918), (49, 923, 922, 16), (49, 927, 926, 17), (49, 931, 930, 18), (49, 935, 934, 19), (49, 939, 937, 938), (49, 943, 941, 942), (49, 947, 946, 20), (49, 951, 949, 950), (49, 955, 954, 21), (49, 959, 958, 22), (49, 963, 961, 962), (49, 967, 965, 966), (49, 971, 969, 970), (49, 975, 973, 974), (49, 979, 977, 978), (49, 983, 982, 23), (49, 987, 986, 24), (49, 991, 990, 25), (49, 995, 994, 26), (49, 999, 998, 27), (49, 1003, 1002, 28), (49, 1007, 1006, 29), (49, 1011, 1010, 30), (49, 1015, 1014, 31), (49, 1019, 1018, 32), (49, 1023, 1022, 33), (49, 1027, 1026, 34), (49, 1031, 1030, 35), (49, 1035, 1034, 36), (49, 1039, 1038, 37), (49, 1043, 1042, 38), (49, 1047, 1045, 1046), (49, 1051, 1049, 1050), (49, 1055, 1053, 1054), (49, 1059, 1057, 1058), (49, 1063, 1062, 39), (49, 1067, 1066, 40), (49, 1071, 1069, 1070), (49, 1075, 1073, 1074), (49, 1079, 1077, 1078), (49, 1083, 1081, 1082), (49, 1087, 1085, 1086), (0, 0, 0, 0)] : List (Nat × Nat × Nat × Nat)).getD z (0, 0, 0, 0)
def tb_rc (z : Nat) : Nat := ([0, 1, 5, 4, 99, 6, 7, 0, 6, 4, 4, 4, 4, 2, 2, 2, 3, 6, 6, 3, 4, 3, 6, 3, 6, 5, 0, 5, 5, 5, 5, 6, 99, 0, 7, 7, 0, 0, 99, 0, 0, 99, 0, 99, 99, 1, 99, 0, 1, 1, 99, 99, 99, 99, 1, 2, 99, 2, 99, 0, 0, 0, 5, 3, 5, 99, 0, 0, 0, 0, 3, 2, 99, 0, 0, 0, 99, 0, 99, 0, 2, 4, 99, 99, 0, 99, 0, 0, 6, 6, 99, 0, 99, 0, 0, 7, 99, 0, 7, 99, 0, 7, 99, 0, 8, 8, 8, 8, 8, 8, 8, 8, 8, 8, 8, 8, 8, 8, 8, 8, 8, 8, 8, 8, 8, 8, 8, 8, 8, 8, 8, 8, 8, 8, 8, 8, 8, 8, 8, 8, 8, 8, 8, 8, 8, 8, 8, 8, 8, 8, 8, 99] : List Nat).getD z 99
def tb_nwl : List (List (Nat × Nat × Nat × Nat × Nat)) := [[(111, 3, 590, 591, 59), (16, 2, 95, 529, 56), (34, 5, 97, 98, 44), (41, 6, 175, 176, 47), (50, 7, 195, 196, 48), (7, 1, 70, 71, 43)], [], [], [], [], [(28, 4, 105, 106, 45)], [], [], [], [(69, 8, 798, 799, 49), (8, 0, 62, 63, 42)], [], [], []]
def tb_anl : List (List (Nat × Nat × Nat)) := [[(16, 3, 95)], [], [], [(18, 3, 596)], [(9, 3, 111)], [(18, 4, 103)], [], [], [], [], [], [], []]
def tb_xnl : List (List (Nat × Nat × Nat × Nat × Nat)) := [[(236, 238, 11, 760, 61), (65, 67, 9, 400, 53), (85, 87, 10, 478, 55)], [], [], [], [], [], [], [], [], [], [], [], []]
def tb_df (c : Nat) : List Value := ([[.null, .null, .int 0, .null, .null, .null, .null, .int 0], [.null, .null, .null, .int 0], [.null, .null, .null, .null, .int 0, .int 0], [.int 0, .int 0, .null, .null, .null, .null], [.null, .null, .int 0, .int 0, .null, .null], [.null, .null, .null, .int 0, .null, .null, .null, .null], [.null, .null, .null, .int 0], [.null, .null, .null, .int 0, .int 0, .int 0], [.int 0, .null, .null, .int 0, .null, .int 0, .null, .null, .null, .null, .null, .int 0, .null, .null, .null, .null, .null, .null, .null, .null, .int 0, .null, .null, .int 0, .int 0, .int 0, .null, .int 0, .null, .int 0, .null, .int 0, .int 0]] : List (List Value)).getD c []
def tb_kcl : List (List (Nat × Int32 × Nat)) := [[], [], [], [], [], [], [], [], [], [], [], [], [(265, 1431655765, 363), (266, 858993459, 364), (267, 252645135, 365)]]
def tb_nest : List (String × Nat × MethodName × String) := [("GluedMachines", 9, ⟨"GluedMachines$Writing", "<init>", "()V"⟩, "GluedMachines"), ("GluedMachines$Model", 30, ⟨"GluedMachines$Invariants", "<init>", "()V"⟩, "GluedMachines"), ("GluedMachines$Model", 51, ⟨"GluedMachines", "isWithin", "(II)Z"⟩, "GluedMachines")]
def tb_P (L : Nat) (xs : Nat → Int32) : am_P := (tb_me, (fun y ix => match (tb_fdl.getD (tb_kl y) []).find? (fun e => e.1 == ix) with
    | some (_, ci, k, ty, fin, same, _) => some (ci, k, ty, !fin || (tb_ini y && same))
    | none => none), (fun y ix => match (tb_cal.getD (tb_kl y) []).find? (fun e => e.1 == ix) with
    | some (_, z, n, k, _, _) => some (z, n, k)
    | none => none), (fun y ix => match (tb_spl.getD (tb_kl y) []).find? (fun e => e.1 == ix) with
    | some (_, k, _) => some k
    | none => none), (fun y ix => match (tb_nwl.getD (tb_kl y) []).find? (fun e => e.1 == ix) with
    | some (_, ci, _, _, _) => some ci
    | none => none), (fun y ix ic => match (tb_xnl.getD (tb_kl y) []).find? (fun e => e.1 == ix && e.2.1 == ic) with
    | some (_, _, E, _, _) => some E
    | none => none), (fun y ix => match (tb_anl.getD (tb_kl y) []).find? (fun e => e.1 == ix) with
    | some (_, t, _) => some t
    | none => none), tb_df, tb_rc, (fun t => if t = 3 then 2 else 3), L, xs, (fun y ix => match (tb_kcl.getD (tb_kl y) []).find? (fun e => e.1 == ix) with
    | some (_, v, _) => some v
    | none => none), [9, 10, 11])
