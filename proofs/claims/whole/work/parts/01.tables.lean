/-! ===== tables, by program out of the claim (gen/mk01.py) ===== -/
def aT0 : u_T := fun k => match k with
  | 0 => ("OvertureDesk$History", "songs", "[LOvertureDesk$Song;", true)
  | 1 => ("OvertureDesk$History", "now", "I", false)
  | 2 => ("OvertureDesk$History", "behind", "I", false)
  | _ => ("OvertureDesk$History", "ahead", "I", false)
def aT1 : u_T := fun k => match k with
  | 0 => ("OvertureDesk$Loop", "from", "I", false)
  | 1 => ("OvertureDesk$Loop", "to", "I", false)
  | _ => ("OvertureDesk$Loop", "times", "I", false)
def aT2 : u_T := fun k => match k with
  | 0 => ("OvertureDesk$Marks", "places", "[I", true)
  | 1 => ("OvertureDesk$Marks", "firsts", "[I", true)
  | 2 => ("OvertureDesk$Marks", "seconds", "[I", true)
  | _ => ("OvertureDesk$Marks", "count", "I", false)
def aT3 : u_T := fun k => match k with
  | _ => ("OvertureDesk$MeterMap", "marks", "LOvertureDesk$Marks;", true)
def aT4 : u_T := fun k => match k with
  | 0 => ("OvertureDesk$NoteList", "codes", "[J", true)
  | _ => ("OvertureDesk$NoteList", "count", "I", false)
def aT5 : u_T := fun k => match k with
  | 0 => ("OvertureDesk$Rendering", "codes", "[J", true)
  | 1 => ("OvertureDesk$Rendering", "spare", "[J", true)
  | _ => ("OvertureDesk$Rendering", "count", "I", false)
def aT6 : u_T := fun k => match k with
  | 0 => ("OvertureDesk$Song", "notes", "LOvertureDesk$NoteList;", true)
  | 1 => ("OvertureDesk$Song", "tracks", "LOvertureDesk$TrackSet;", true)
  | 2 => ("OvertureDesk$Song", "speeds", "LOvertureDesk$SpeedMap;", true)
  | 3 => ("OvertureDesk$Song", "meters", "LOvertureDesk$MeterMap;", true)
  | _ => ("OvertureDesk$Song", "loop", "LOvertureDesk$Loop;", true)
def aT7 : u_T := fun k => match k with
  | _ => ("OvertureDesk$SpeedMap", "marks", "LOvertureDesk$Marks;", true)
def aT8 : u_T := fun k => match k with
  | 0 => ("OvertureDesk$TrackSet", "marks", "[I", true)
  | 1 => ("OvertureDesk$TrackSet", "shifts", "[I", true)
  | _ => ("OvertureDesk$TrackSet", "delays", "[I", true)
def aT9 : u_T := fun k => match k with
  | 0 => ("OvertureDesk", "song", "LOvertureDesk$Song;", true)
  | 1 => ("OvertureDesk", "history", "LOvertureDesk$History;", true)
  | 2 => ("OvertureDesk", "clipboard", "LOvertureDesk$NoteList;", true)
  | 3 => ("OvertureDesk", "rendering", "LOvertureDesk$Rendering;", true)
  | _ => ("OvertureDesk", "isGroupOpen", "Z", false)
def aT10 : u_T := fun k => match k with
  | 0 => ("OvertureDeskModel", "thrown", "I", false)
  | 1 => ("OvertureDeskModel", "all", "[I", false)
  | 2 => ("OvertureDeskModel", "before", "[I", true)
  | 3 => ("OvertureDeskModel", "undone", "[[I", true)
  | 4 => ("OvertureDeskModel", "redone", "[[I", true)
  | 5 => ("OvertureDeskModel", "undos", "I", false)
  | 6 => ("OvertureDeskModel", "redos", "I", false)
  | 7 => ("OvertureDeskModel", "isOpen", "Z", false)
  | 8 => ("OvertureDeskModel", "opened", "[I", true)
  | 9 => ("OvertureDeskModel", "clips", "I", false)
  | 10 => ("OvertureDeskModel", "clip", "[I", true)
  | 11 => ("OvertureDeskModel", "played", "[[I", true)
  | 12 => ("OvertureDeskModel", "plays", "I", false)
  | 13 => ("OvertureDeskModel", "rows", "[J", true)
  | _ => ("OvertureDeskModel", "sum", "J", false)
abbrev aCl : List vw_C := [("OvertureDesk$History", aT0, 4), ("OvertureDesk$Loop", aT1, 3), ("OvertureDesk$Marks", aT2, 4), ("OvertureDesk$MeterMap", aT3, 1), ("OvertureDesk$NoteList", aT4, 2), ("OvertureDesk$Rendering", aT5, 3), ("OvertureDesk$Song", aT6, 5), ("OvertureDesk$SpeedMap", aT7, 1), ("OvertureDesk$TrackSet", aT8, 3), ("OvertureDesk", aT9, 5), ("OvertureDeskModel", aT10, 15)]
/-- the kinds of the fields, by class -/
def aFK : List (List Nat) := [[3, 0, 0, 0], [0, 0, 0], [3, 3, 3, 0], [3], [3, 0], [3, 3, 0], [3, 3, 3, 3, 3], [3], [3, 3, 3], [3, 3, 3, 3, 1], [0, 3, 3, 3, 3, 0, 0, 1, 3, 0, 3, 3, 0, 3, 2]]
def aON : List String := ["OvertureDeskLaw", "OvertureDesk", "OvertureDesk$NoteCode", "OvertureDesk$EventCode", "OvertureDesk$History", "OvertureDesk$Loop", "OvertureDesk$Marks", "OvertureDesk$MeterMap", "OvertureDesk$NoteList", "OvertureDesk$Rendering", "OvertureDesk$Song", "OvertureDesk$SpeedMap", "OvertureDesk$TrackSet", "OvertureDeskModel", "java/lang/Math", "java/util/Arrays", "java/util/DualPivotQuicksort", "jdk/internal/util/ArraysSupport", "jdk/internal/misc/Unsafe", "java/lang/Long", "java/lang/Integer"]
/-- a method: name, bytes, locals, answer, handlers, parameters, kind (0 by receiver, 1 static, 2 constructor), its cells die with it, class of the receiver, own class, places of its words -/
abbrev aMR : Type := MethodName × ByteArray × Nat × Option FieldType × List (Nat × Nat × Nat × Nat) × Nat × Nat × Bool × Nat × Nat × (Nat × Nat × Nat × Nat)
def aMT_0 : List aMR := [(⟨"OvertureDeskLaw", "law", "([I)Z"⟩, code, 9, (some .boolean), [], 1, 1, false, 99, 0, (0, 0, 57, 0)),
  (⟨"OvertureDeskLaw", "write", "(LOvertureDesk;IIIII[J)I"⟩, method_3_code, 8, (some .int), [(0, 16, 19, 13), (0, 16, 23, 15)], 7, 1, false, 99, 0, (601, 600, 57, 0)),
  (⟨"OvertureDeskLaw", "remove", "(LOvertureDesk;I[J)I"⟩, method_4_code, 4, (some .int), [(0, 9, 12, 21)], 3, 1, false, 99, 0, (779, 778, 57, 0)),
  (⟨"OvertureDeskLaw", "split", "(LOvertureDesk;II[J)I"⟩, method_5_code, 5, (some .int), [(0, 10, 13, 21), (0, 10, 17, 13), (0, 10, 21, 15)], 4, 1, false, 99, 0, (812, 811, 57, 0)),
  (⟨"OvertureDeskLaw", "transpose", "(LOvertureDesk;IIII[J)I"⟩, method_6_code, 7, (some .int), [(0, 14, 17, 13), (0, 14, 21, 15)], 6, 1, false, 99, 0, (827, 826, 57, 0)),
  (⟨"OvertureDeskLaw", "weigh", "(LOvertureDesk;IIII[J)I"⟩, method_7_code, 7, (some .int), [(0, 14, 17, 13)], 6, 1, false, 99, 0, (853, 852, 57, 0)),
  (⟨"OvertureDeskLaw", "quantise", "(LOvertureDesk;IIIIII[J)I"⟩, method_8_code, 9, (some .int), [(0, 18, 21, 13)], 8, 1, false, 99, 0, (867, 866, 57, 0)),
  (⟨"OvertureDeskLaw", "copy", "(LOvertureDesk;III[J)I"⟩, method_9_code, 6, (some .int), [(0, 12, 15, 13)], 5, 1, false, 99, 0, (876, 875, 57, 0)),
  (⟨"OvertureDeskLaw", "paste", "(LOvertureDesk;I[J)I"⟩, method_10_code, 4, (some .int), [(0, 9, 12, 13), (0, 9, 15, 15)], 3, 1, false, 99, 0, (888, 887, 57, 0)),
  (⟨"OvertureDeskLaw", "note", "(LOvertureDesk;II[J)I"⟩, method_11_code, 5, (some .int), [(0, 10, 13, 21), (0, 10, 17, 13)], 4, 1, false, 99, 0, (897, 896, 57, 0)),
  (⟨"OvertureDeskLaw", "setTrack", "(LOvertureDesk;IZZII[J)I"⟩, method_12_code, 8, (some .int), [(0, 16, 19, 21), (0, 16, 23, 13)], 7, 1, false, 99, 0, (905, 904, 57, 0)),
  (⟨"OvertureDeskLaw", "setSpeed", "(LOvertureDesk;II[J)I"⟩, method_13_code, 5, (some .int), [(0, 10, 13, 13), (0, 10, 17, 15)], 4, 1, false, 99, 0, (919, 918, 57, 0)),
  (⟨"OvertureDeskLaw", "setMeter", "(LOvertureDesk;III[J)I"⟩, method_14_code, 6, (some .int), [(0, 12, 15, 13), (0, 12, 19, 15)], 5, 1, false, 99, 0, (956, 955, 57, 0)),
  (⟨"OvertureDeskLaw", "setLoop", "(LOvertureDesk;III[J)I"⟩, method_15_code, 6, (some .int), [(0, 12, 15, 13)], 5, 1, false, 99, 0, (966, 965, 57, 0)),
  (⟨"OvertureDeskLaw", "openGroup", "(LOvertureDesk;[J)I"⟩, method_16_code, 3, (some .int), [(0, 8, 11, 15)], 2, 1, false, 99, 0, (975, 974, 57, 0)),
  (⟨"OvertureDeskLaw", "closeGroup", "(LOvertureDesk;[J)I"⟩, method_17_code, 3, (some .int), [(0, 15, 18, 15)], 2, 1, false, 99, 0, (983, 982, 57, 0)),
  (⟨"OvertureDeskLaw", "undo", "(LOvertureDesk;[J)I"⟩, method_18_code, 3, (some .int), [(0, 8, 11, 15)], 2, 1, false, 99, 0, (991, 990, 57, 0)),
  (⟨"OvertureDeskLaw", "redo", "(LOvertureDesk;[J)I"⟩, method_19_code, 3, (some .int), [(0, 8, 11, 15)], 2, 1, false, 99, 0, (1007, 1006, 57, 0)),
  (⟨"OvertureDeskLaw", "timeOf", "(LOvertureDesk;I[J)I"⟩, method_20_code, 4, (some .int), [(0, 9, 12, 13)], 3, 1, false, 99, 0, (1019, 1018, 57, 0)),
  (⟨"OvertureDeskLaw", "tickOf", "(LOvertureDesk;I[J)I"⟩, method_21_code, 4, (some .int), [(0, 9, 12, 13)], 3, 1, false, 99, 0, (1030, 1029, 57, 0)),
  (⟨"OvertureDeskLaw", "barOf", "(LOvertureDesk;I[J)I"⟩, method_22_code, 4, (some .int), [(0, 9, 12, 13)], 3, 1, false, 99, 0, (1038, 1037, 57, 0)),
  (⟨"OvertureDeskLaw", "beatOf", "(LOvertureDesk;I[J)I"⟩, method_23_code, 4, (some .int), [(0, 9, 12, 13)], 3, 1, false, 99, 0, (1045, 1044, 57, 0)),
  (⟨"OvertureDeskLaw", "tickOfBar", "(LOvertureDesk;I[J)I"⟩, method_24_code, 4, (some .int), [(0, 9, 12, 13)], 3, 1, false, 99, 0, (1052, 1051, 57, 0)),
  (⟨"OvertureDeskLaw", "chordAt", "(LOvertureDesk;I[J)I"⟩, method_25_code, 4, (some .int), [(0, 9, 12, 13)], 3, 1, false, 99, 0, (1060, 1059, 57, 0)),
  (⟨"OvertureDeskLaw", "event", "(LOvertureDesk;II[J)I"⟩, method_26_code, 5, (some .int), [(0, 10, 13, 21), (0, 10, 17, 13)], 4, 1, false, 99, 0, (1067, 1066, 57, 0)),
  (⟨"OvertureDeskLaw", "sounding", "(LOvertureDesk;I[J)I"⟩, method_27_code, 4, (some .int), [(0, 9, 12, 13)], 3, 1, false, 99, 0, (1076, 1075, 57, 0)),
  (⟨"OvertureDeskLaw", "wouldMove", "(LOvertureDesk;IIII[J)I"⟩, method_28_code, 7, (some .int), [(0, 14, 17, 13)], 6, 1, false, 99, 0, (1087, 1086, 57, 0)),
  (⟨"OvertureDeskLaw", "eventsAlone", "(LOvertureDesk;I[J)I"⟩, method_29_code, 4, (some .int), [(0, 9, 12, 21)], 3, 1, false, 99, 0, (1094, 1093, 57, 0)),
  (⟨"OvertureDeskLaw", "bestStep", "(LOvertureDesk;III[J)I"⟩, method_30_code, 6, (some .int), [(0, 12, 15, 13)], 5, 1, false, 99, 0, (1101, 1100, 57, 0)),
  (⟨"OvertureDesk", "putInt", "([III)V"⟩, prog_1_method_55_code, 3, none, [], 3, 1, false, 9, 1, (157, 156, 58, 0)),
  (⟨"OvertureDesk", "longAt", "([JI)J"⟩, prog_1_method_56_code, 2, (some .long), [], 2, 1, false, 9, 1, (326, 325, 58, 0)),
  (⟨"OvertureDesk", "intAt", "([II)I"⟩, prog_1_method_54_code, 2, (some .int), [], 2, 1, false, 9, 1, (363, 362, 58, 0)),
  (⟨"OvertureDesk", "putLong", "([JIJ)V"⟩, prog_1_method_57_code, 4, none, [], 3, 1, false, 9, 1, (419, 418, 58, 0)),
  (⟨"OvertureDesk", "isWithin", "(III)Z"⟩, prog_1_method_48_code, 3, (some .boolean), [], 3, 1, false, 9, 1, (382, 381, 58, 0)),
  (⟨"OvertureDesk", "<init>", "()V"⟩, prog_1_method_1_code, 1, none, [], 0, 2, false, 9, 1, (98, 97, 58, 0)),
  (⟨"OvertureDesk", "isTrack", "(I)Z"⟩, prog_1_method_49_code, 1, (some .boolean), [], 1, 1, false, 9, 1, (610, 609, 58, 0)),
  (⟨"OvertureDesk", "isTick", "(I)Z"⟩, prog_1_method_50_code, 1, (some .boolean), [], 1, 1, false, 9, 1, (597, 596, 58, 0)),
  (⟨"OvertureDesk", "settle", "()V"⟩, prog_1_method_42_code, 1, none, [], 0, 0, false, 9, 1, (719, 718, 58, 18)),
  (⟨"OvertureDesk", "write", "(IIIII)I"⟩, prog_1_method_2_code, 7, (some .int), [], 5, 0, false, 9, 1, (607, 605, 58, 606)),
  (⟨"OvertureDesk", "remove", "(I)I"⟩, prog_1_method_3_code, 2, (some .int), [], 1, 0, false, 9, 1, (784, 782, 58, 783))]
def aMT_1 : List aMR := [(⟨"OvertureDesk", "split", "(II)I"⟩, prog_1_method_4_code, 7, (some .int), [], 2, 0, false, 9, 1, (816, 814, 58, 815)),
  (⟨"OvertureDesk", "isStretch", "(II)Z"⟩, prog_1_method_52_code, 2, (some .boolean), [], 2, 1, false, 9, 1, (837, 836, 58, 0)),
  (⟨"OvertureDesk", "isRange", "(III)Z"⟩, prog_1_method_53_code, 3, (some .boolean), [], 3, 1, false, 9, 1, (834, 833, 58, 0)),
  (⟨"OvertureDesk", "canTranspose", "(IIII)Z"⟩, prog_1_method_43_code, 8, (some .boolean), [], 4, 0, false, 9, 1, (842, 841, 58, 20)),
  (⟨"OvertureDesk", "transpose", "(IIII)I"⟩, prog_1_method_5_code, 9, (some .int), [], 4, 0, false, 9, 1, (831, 829, 58, 830)),
  (⟨"OvertureDesk", "weigh", "(IIII)I"⟩, prog_1_method_6_code, 10, (some .int), [], 4, 0, false, 9, 1, (857, 855, 58, 856)),
  (⟨"OvertureDesk", "nearestLine", "(III)I"⟩, prog_1_method_47_code, 10, (some .int), [], 3, 1, false, 9, 1, (591, 590, 58, 0)),
  (⟨"OvertureDesk", "drawnStart", "(IIII)I"⟩, prog_1_method_46_code, 4, (some .int), [], 4, 1, false, 9, 1, (588, 587, 58, 0)),
  (⟨"OvertureDesk", "quantise", "(IIIIII)I"⟩, prog_1_method_7_code, 13, (some .int), [], 6, 0, false, 9, 1, (871, 869, 58, 870)),
  (⟨"OvertureDesk", "copy", "(III)I"⟩, prog_1_method_8_code, 7, (some .int), [], 3, 0, false, 9, 1, (880, 878, 58, 879)),
  (⟨"OvertureDesk", "paste", "(I)I"⟩, prog_1_method_9_code, 7, (some .int), [], 1, 0, false, 9, 1, (892, 890, 58, 891)),
  (⟨"OvertureDesk", "notes", "()I"⟩, prog_1_method_10_code, 1, (some .int), [], 0, 0, false, 9, 1, (299, 297, 58, 298)),
  (⟨"OvertureDesk", "note", "(II)I"⟩, prog_1_method_11_code, 3, (some .int), [], 2, 0, false, 9, 1, (901, 899, 58, 900)),
  (⟨"OvertureDesk", "setTrack", "(IZZII)I"⟩, prog_1_method_12_code, 7, (some .int), [], 5, 0, false, 9, 1, (909, 907, 58, 908)),
  (⟨"OvertureDesk", "setSpeed", "(II)I"⟩, prog_1_method_13_code, 4, (some .int), [], 2, 0, false, 9, 1, (923, 921, 58, 922)),
  (⟨"OvertureDesk", "setMeter", "(III)I"⟩, prog_1_method_14_code, 5, (some .int), [], 3, 0, false, 9, 1, (960, 958, 58, 959)),
  (⟨"OvertureDesk", "setLoop", "(III)I"⟩, prog_1_method_15_code, 5, (some .int), [], 3, 0, false, 9, 1, (970, 968, 58, 969)),
  (⟨"OvertureDesk", "openGroup", "()I"⟩, prog_1_method_16_code, 1, (some .int), [], 0, 0, false, 9, 1, (979, 977, 58, 978)),
  (⟨"OvertureDesk", "closeGroup", "()Z"⟩, prog_1_method_17_code, 1, (some .boolean), [], 0, 0, false, 9, 1, (987, 985, 58, 986)),
  (⟨"OvertureDesk", "undo", "()I"⟩, prog_1_method_18_code, 1, (some .int), [], 0, 0, false, 9, 1, (995, 993, 58, 994)),
  (⟨"OvertureDesk", "redo", "()I"⟩, prog_1_method_19_code, 1, (some .int), [], 0, 0, false, 9, 1, (1011, 1009, 58, 1010)),
  (⟨"OvertureDesk", "undos", "()I"⟩, prog_1_method_20_code, 1, (some .int), [], 0, 0, false, 9, 1, (307, 305, 58, 306)),
  (⟨"OvertureDesk", "redos", "()I"⟩, prog_1_method_21_code, 1, (some .int), [], 0, 0, false, 9, 1, (311, 309, 58, 310)),
  (⟨"OvertureDesk", "isFarTick", "(I)Z"⟩, prog_1_method_51_code, 1, (some .boolean), [], 1, 1, false, 9, 1, (1026, 1025, 58, 0)),
  (⟨"OvertureDesk", "timeOf", "(I)I"⟩, prog_1_method_22_code, 2, (some .int), [], 1, 0, false, 9, 1, (1023, 1021, 58, 1022)),
  (⟨"OvertureDesk", "tickOf", "(I)I"⟩, prog_1_method_23_code, 2, (some .int), [], 1, 0, false, 9, 1, (1034, 1032, 58, 1033)),
  (⟨"OvertureDesk", "barOf", "(I)I"⟩, prog_1_method_24_code, 2, (some .int), [], 1, 0, false, 9, 1, (1042, 1040, 58, 1041)),
  (⟨"OvertureDesk", "beatOf", "(I)I"⟩, prog_1_method_25_code, 2, (some .int), [], 1, 0, false, 9, 1, (1049, 1047, 58, 1048)),
  (⟨"OvertureDesk", "tickOfBar", "(I)I"⟩, prog_1_method_26_code, 2, (some .int), [], 1, 0, false, 9, 1, (1056, 1054, 58, 1055)),
  (⟨"OvertureDesk", "chordAt", "(I)I"⟩, prog_1_method_27_code, 6, (some .int), [], 1, 0, false, 9, 1, (1064, 1062, 58, 1063)),
  (⟨"OvertureDesk", "clashes", "()I"⟩, prog_1_method_28_code, 1, (some .int), [], 0, 0, false, 9, 1, (315, 313, 58, 314)),
  (⟨"OvertureDesk", "events", "()I"⟩, prog_1_method_29_code, 1, (some .int), [], 0, 0, false, 9, 1, (348, 346, 58, 347)),
  (⟨"OvertureDesk", "event", "(II)I"⟩, prog_1_method_30_code, 3, (some .int), [], 2, 0, false, 9, 1, (1071, 1069, 58, 1070)),
  (⟨"OvertureDesk", "sounding", "(I)I"⟩, prog_1_method_31_code, 2, (some .int), [], 1, 0, false, 9, 1, (1080, 1078, 58, 1079)),
  (⟨"OvertureDesk", "most", "()I"⟩, prog_1_method_32_code, 1, (some .int), [], 0, 0, false, 9, 1, (430, 428, 58, 429)),
  (⟨"OvertureDesk", "playedTo", "()I"⟩, prog_1_method_33_code, 1, (some .int), [], 0, 0, false, 9, 1, (454, 452, 58, 453)),
  (⟨"OvertureDesk", "meanForce", "()D"⟩, prog_1_method_34_code, 1, (some .double), [], 0, 0, false, 9, 1, (465, 463, 58, 464)),
  (⟨"OvertureDesk", "countOffGrid", "(IIII)I"⟩, prog_1_method_44_code, 10, (some .int), [], 4, 0, false, 9, 1, (581, 580, 58, 15)),
  (⟨"OvertureDesk", "wouldMove", "(IIII)I"⟩, prog_1_method_35_code, 5, (some .int), [], 4, 0, false, 9, 1, (1091, 1089, 58, 1090)),
  (⟨"OvertureDesk", "eventsAlone", "(I)I"⟩, prog_1_method_36_code, 2, (some .int), [], 1, 0, false, 9, 1, (1098, 1096, 58, 1097))]
def aMT_2 : List aMR := [(⟨"OvertureDesk", "fittingStep", "(III)I"⟩, prog_1_method_45_code, 8, (some .int), [], 3, 0, false, 9, 1, (575, 574, 58, 14)),
  (⟨"OvertureDesk", "bestStep", "(III)I"⟩, prog_1_method_37_code, 4, (some .int), [], 3, 0, false, 9, 1, (1105, 1103, 58, 1104)),
  (⟨"OvertureDesk", "add", "(JI)J"⟩, prog_1_method_39_code, 3, (some .long), [], 2, 1, false, 9, 1, (484, 483, 58, 0)),
  (⟨"OvertureDesk", "addNotes", "(J)J"⟩, prog_1_method_40_code, 7, (some .long), [], 1, 0, false, 9, 1, (481, 480, 58, 8)),
  (⟨"OvertureDesk", "addEvents", "(J)J"⟩, prog_1_method_41_code, 7, (some .long), [], 1, 0, false, 9, 1, (560, 559, 58, 13)),
  (⟨"OvertureDesk", "digest", "()J"⟩, prog_1_method_38_code, 4, (some .long), [], 0, 0, false, 9, 1, (476, 474, 58, 475)),
  (⟨"OvertureDesk$NoteCode", "of", "(IIIII)J"⟩, prog_7_method_2_code, 5, (some .long), [], 5, 1, false, 99, 2, (391, 390, 74, 0)),
  (⟨"OvertureDesk$NoteCode", "track", "(J)I"⟩, prog_7_method_3_code, 2, (some .int), [], 1, 1, false, 99, 2, (332, 331, 74, 0)),
  (⟨"OvertureDesk$NoteCode", "start", "(J)I"⟩, prog_7_method_4_code, 2, (some .int), [], 1, 1, false, 99, 2, (338, 337, 74, 0)),
  (⟨"OvertureDesk$NoteCode", "pitch", "(J)I"⟩, prog_7_method_5_code, 2, (some .int), [], 1, 1, false, 99, 2, (335, 334, 74, 0)),
  (⟨"OvertureDesk$NoteCode", "length", "(J)I"⟩, prog_7_method_6_code, 2, (some .int), [], 1, 1, false, 99, 2, (344, 343, 74, 0)),
  (⟨"OvertureDesk$NoteCode", "force", "(J)I"⟩, prog_7_method_7_code, 2, (some .int), [], 1, 1, false, 99, 2, (388, 387, 74, 0)),
  (⟨"OvertureDesk$NoteCode", "end", "(J)I"⟩, prog_7_method_8_code, 2, (some .int), [], 1, 1, false, 99, 2, (341, 340, 74, 0)),
  (⟨"OvertureDesk$NoteCode", "withStart", "(JI)J"⟩, prog_7_method_9_code, 3, (some .long), [], 2, 1, false, 99, 2, (824, 823, 74, 0)),
  (⟨"OvertureDesk$NoteCode", "withLength", "(JI)J"⟩, prog_7_method_10_code, 3, (some .long), [], 2, 1, false, 99, 2, (821, 820, 74, 0)),
  (⟨"OvertureDesk$NoteCode", "withPitch", "(JI)J"⟩, prog_7_method_11_code, 3, (some .long), [], 2, 1, false, 99, 2, (385, 384, 74, 0)),
  (⟨"OvertureDesk$NoteCode", "withForce", "(JI)J"⟩, prog_7_method_12_code, 3, (some .long), [], 2, 1, false, 99, 2, (864, 863, 74, 0)),
  (⟨"OvertureDesk$NoteCode", "isIn", "(JIII)Z"⟩, prog_7_method_13_code, 5, (some .boolean), [], 4, 1, false, 99, 2, (585, 584, 74, 0)),
  (⟨"OvertureDesk$NoteCode", "isClash", "(JJ)Z"⟩, prog_7_method_14_code, 4, (some .boolean), [], 2, 1, false, 99, 2, (329, 328, 74, 0)),
  (⟨"OvertureDesk$NoteCode", "fact", "(JI)I"⟩, prog_7_method_15_code, 3, (some .int), [], 2, 1, false, 99, 2, (489, 488, 74, 0)),
  (⟨"OvertureDesk$EventCode", "of", "(IZIII)J"⟩, prog_2_method_2_code, 5, (some .long), [], 5, 1, false, 99, 3, (416, 415, 92, 0)),
  (⟨"OvertureDesk$EventCode", "tick", "(J)I"⟩, prog_2_method_3_code, 2, (some .int), [], 1, 1, false, 99, 3, (461, 460, 92, 0)),
  (⟨"OvertureDesk$EventCode", "isOn", "(J)Z"⟩, prog_2_method_4_code, 2, (some .boolean), [], 1, 1, false, 99, 3, (450, 449, 92, 0)),
  (⟨"OvertureDesk$EventCode", "force", "(J)I"⟩, prog_2_method_5_code, 2, (some .int), [], 1, 1, false, 99, 3, (472, 471, 92, 0)),
  (⟨"OvertureDesk$EventCode", "fact", "(JI)I"⟩, prog_2_method_6_code, 3, (some .int), [], 2, 1, false, 99, 3, (564, 563, 92, 0)),
  (⟨"OvertureDesk$History", "<init>", "()V"⟩, prog_3_method_1_code, 2, none, [], 0, 2, false, 0, 4, (242, 241, 66, 0)),
  (⟨"OvertureDesk$History", "songAt", "(I)LOvertureDesk$Song;"⟩, prog_3_method_6_code, 2, (some (.object "OvertureDesk$Song")), [], 1, 0, false, 0, 4, (727, 726, 66, 19)),
  (⟨"OvertureDesk$History", "keep", "(LOvertureDesk$Song;)Z"⟩, prog_3_method_2_code, 4, (some .boolean), [], 1, 0, false, 0, 4, (723, 721, 66, 722)),
  (⟨"OvertureDesk$History", "step", "(ILOvertureDesk$Song;)V"⟩, prog_3_method_5_code, 4, none, [], 2, 0, false, 0, 4, (1004, 1003, 66, 23)),
  (⟨"OvertureDesk$History", "stepBack", "(LOvertureDesk$Song;)V"⟩, prog_3_method_3_code, 2, none, [], 1, 0, false, 0, 4, (1000, 998, 66, 999)),
  (⟨"OvertureDesk$History", "stepAhead", "(LOvertureDesk$Song;)V"⟩, prog_3_method_4_code, 2, none, [], 1, 0, false, 0, 4, (1016, 1014, 66, 1015)),
  (⟨"OvertureDesk$Loop", "<init>", "()V"⟩, prog_4_method_1_code, 1, none, [], 0, 2, false, 1, 5, (195, 194, 65, 0)),
  (⟨"OvertureDesk$Loop", "isLike", "(LOvertureDesk$Loop;)Z"⟩, prog_4_method_3_code, 2, (some .boolean), [], 1, 0, false, 1, 5, (751, 749, 65, 750)),
  (⟨"OvertureDesk$Loop", "put", "(III)V"⟩, prog_4_method_2_code, 4, none, [], 3, 0, false, 1, 5, (776, 774, 65, 775)),
  (⟨"OvertureDesk$Marks", "putAll", "(IIII)V"⟩, prog_5_method_2_code, 5, none, [], 4, 0, false, 2, 6, (154, 153, 63, 0)),
  (⟨"OvertureDesk$Marks", "<init>", "(II)V"⟩, prog_5_method_1_code, 3, none, [], 2, 2, false, 2, 6, (149, 148, 63, 0)),
  (⟨"OvertureDesk$Marks", "placeAt", "(I)I"⟩, prog_5_method_5_code, 2, (some .int), [], 1, 0, false, 2, 6, (501, 499, 63, 500)),
  (⟨"OvertureDesk$Marks", "firstAt", "(I)I"⟩, prog_5_method_6_code, 2, (some .int), [], 1, 0, false, 2, 6, (507, 505, 63, 506)),
  (⟨"OvertureDesk$Marks", "secondAt", "(I)I"⟩, prog_5_method_7_code, 2, (some .int), [], 1, 0, false, 2, 6, (539, 537, 63, 538)),
  (⟨"OvertureDesk$Marks", "isLike", "(LOvertureDesk$Marks;)Z"⟩, prog_5_method_15_code, 3, (some .boolean), [], 1, 0, false, 2, 6, (745, 743, 63, 744))]
def aMT_3 : List aMR := [(⟨"OvertureDesk$Marks", "takeFrom", "(LOvertureDesk$Marks;)V"⟩, prog_5_method_14_code, 3, none, [], 1, 0, false, 2, 6, (772, 770, 63, 771)),
  (⟨"OvertureDesk$Marks", "move", "(II)V"⟩, prog_5_method_3_code, 3, none, [], 2, 0, false, 2, 6, (947, 946, 63, 22)),
  (⟨"OvertureDesk$Marks", "size", "()I"⟩, prog_5_method_4_code, 1, (some .int), [], 0, 0, false, 2, 6, (497, 495, 63, 496)),
  (⟨"OvertureDesk$Marks", "lastUpTo", "(I)I"⟩, prog_5_method_8_code, 4, (some .int), [], 1, 0, false, 2, 6, (555, 553, 63, 554)),
  (⟨"OvertureDesk$Marks", "beginsAt", "(I)Z"⟩, prog_5_method_9_code, 2, (some .boolean), [], 1, 0, false, 2, 6, (932, 931, 63, 21)),
  (⟨"OvertureDesk$Marks", "canDrop", "(I)Z"⟩, prog_5_method_10_code, 2, (some .boolean), [], 1, 0, false, 2, 6, (928, 926, 63, 927)),
  (⟨"OvertureDesk$Marks", "canPut", "(I)Z"⟩, prog_5_method_11_code, 2, (some .boolean), [], 1, 0, false, 2, 6, (937, 935, 63, 936)),
  (⟨"OvertureDesk$Marks", "drop", "(I)V"⟩, prog_5_method_12_code, 3, none, [], 1, 0, false, 2, 6, (942, 940, 63, 941)),
  (⟨"OvertureDesk$Marks", "put", "(III)V"⟩, prog_5_method_13_code, 6, none, [], 3, 0, false, 2, 6, (951, 949, 63, 950)),
  (⟨"OvertureDesk$MeterMap", "<init>", "()V"⟩, prog_6_method_1_code, 1, none, [], 0, 2, false, 3, 7, (181, 180, 64, 0)),
  (⟨"OvertureDesk$MeterMap", "beatLength", "(I)I"⟩, prog_6_method_2_code, 3, (some .int), [], 1, 0, false, 3, 7, (535, 534, 64, 11)),
  (⟨"OvertureDesk$MeterMap", "barLength", "(I)I"⟩, prog_6_method_3_code, 2, (some .int), [], 1, 0, false, 3, 7, (529, 528, 64, 10)),
  (⟨"OvertureDesk$MeterMap", "startOf", "(I)I"⟩, prog_6_method_4_code, 4, (some .int), [], 1, 0, false, 3, 7, (543, 542, 64, 12)),
  (⟨"OvertureDesk$MeterMap", "meterAt", "(I)I"⟩, prog_6_method_5_code, 5, (some .int), [], 1, 0, false, 3, 7, (523, 522, 64, 9)),
  (⟨"OvertureDesk$MeterMap", "barAt", "(I)I"⟩, prog_6_method_6_code, 5, (some .int), [], 1, 0, false, 3, 7, (519, 517, 64, 518)),
  (⟨"OvertureDesk$MeterMap", "beatAt", "(I)I"⟩, prog_6_method_7_code, 5, (some .int), [], 1, 0, false, 3, 7, (547, 545, 64, 546)),
  (⟨"OvertureDesk$MeterMap", "startOfBar", "(I)I"⟩, prog_6_method_8_code, 3, (some .int), [], 1, 0, false, 3, 7, (551, 549, 64, 550)),
  (⟨"OvertureDesk$NoteList", "<init>", "()V"⟩, prog_8_method_1_code, 1, none, [], 0, 2, false, 4, 8, (112, 111, 60, 0)),
  (⟨"OvertureDesk$NoteList", "codeAt", "(I)J"⟩, prog_8_method_5_code, 2, (some .long), [], 1, 0, false, 4, 8, (323, 321, 60, 322)),
  (⟨"OvertureDesk$NoteList", "isLike", "(LOvertureDesk$NoteList;)Z"⟩, prog_8_method_14_code, 3, (some .boolean), [], 1, 0, false, 4, 8, (735, 733, 60, 734)),
  (⟨"OvertureDesk$NoteList", "put", "(IJ)V"⟩, prog_8_method_6_code, 4, none, [], 2, 0, false, 4, 8, (710, 708, 60, 709)),
  (⟨"OvertureDesk$NoteList", "takeFrom", "(LOvertureDesk$NoteList;)V"⟩, prog_8_method_13_code, 3, none, [], 1, 0, false, 4, 8, (763, 761, 60, 762)),
  (⟨"OvertureDesk$NoteList", "size", "()I"⟩, prog_8_method_2_code, 1, (some .int), [], 0, 0, false, 4, 8, (303, 301, 60, 302)),
  (⟨"OvertureDesk$NoteList", "room", "()I"⟩, prog_8_method_3_code, 1, (some .int), [], 0, 0, false, 4, 8, (684, 682, 60, 683)),
  (⟨"OvertureDesk$NoteList", "has", "(I)Z"⟩, prog_8_method_4_code, 2, (some .boolean), [], 1, 0, false, 4, 8, (788, 786, 60, 787)),
  (⟨"OvertureDesk$NoteList", "sink", "(I)I"⟩, prog_8_method_11_code, 5, (some .int), [], 1, 0, false, 4, 8, (715, 714, 60, 17)),
  (⟨"OvertureDesk$NoteList", "insert", "(J)I"⟩, prog_8_method_7_code, 3, (some .int), [], 1, 0, false, 4, 8, (705, 703, 60, 704)),
  (⟨"OvertureDesk$NoteList", "drop", "(I)V"⟩, prog_8_method_8_code, 3, none, [], 1, 0, false, 4, 8, (808, 806, 60, 807)),
  (⟨"OvertureDesk$NoteList", "clear", "()V"⟩, prog_8_method_9_code, 1, none, [], 0, 0, false, 4, 8, (885, 883, 60, 884)),
  (⟨"OvertureDesk$NoteList", "sort", "()V"⟩, prog_8_method_10_code, 2, none, [], 0, 0, false, 4, 8, (850, 848, 60, 849)),
  (⟨"OvertureDesk$NoteList", "countClashes", "()I"⟩, prog_8_method_12_code, 4, (some .int), [], 0, 0, false, 4, 8, (319, 317, 60, 318)),
  (⟨"OvertureDesk$Rendering", "<init>", "()V"⟩, prog_9_method_1_code, 1, none, [], 0, 2, false, 5, 9, (268, 267, 67, 0)),
  (⟨"OvertureDesk$Rendering", "size", "()I"⟩, prog_9_method_2_code, 1, (some .int), [], 0, 0, false, 5, 9, (426, 424, 67, 425)),
  (⟨"OvertureDesk$Rendering", "codeAt", "(I)J"⟩, prog_9_method_3_code, 2, (some .long), [], 1, 0, false, 5, 9, (442, 440, 67, 441)),
  (⟨"OvertureDesk$Rendering", "addEvent", "(JIZ)V"⟩, prog_9_method_9_code, 5, none, [], 3, 0, false, 5, 9, (412, 411, 67, 6)),
  (⟨"OvertureDesk$Rendering", "addOnce", "(JII)V"⟩, prog_9_method_8_code, 6, none, [], 3, 0, false, 5, 9, (405, 404, 67, 5)),
  (⟨"OvertureDesk$Rendering", "addNote", "(JLOvertureDesk$Loop;I)V"⟩, prog_9_method_7_code, 9, none, [], 3, 0, false, 5, 9, (399, 398, 67, 4)),
  (⟨"OvertureDesk$Rendering", "addTrack", "(LOvertureDesk$Song;I)V"⟩, prog_9_method_6_code, 7, none, [], 2, 0, false, 5, 9, (371, 370, 67, 3)),
  (⟨"OvertureDesk$Rendering", "play", "(LOvertureDesk$Song;)V"⟩, prog_9_method_4_code, 3, none, [], 1, 0, false, 5, 9, (352, 350, 67, 351)),
  (⟨"OvertureDesk$Rendering", "playTrack", "(LOvertureDesk$Song;I)V"⟩, prog_9_method_5_code, 3, none, [], 2, 0, false, 5, 9, (571, 569, 67, 570))]
def aMT_4 : List aMR := [(⟨"OvertureDesk$Rendering", "merge", "(III)V"⟩, prog_9_method_11_code, 7, none, [], 3, 0, false, 5, 9, (438, 437, 67, 7)),
  (⟨"OvertureDesk$Rendering", "sort", "()V"⟩, prog_9_method_10_code, 4, none, [], 0, 0, false, 5, 9, (434, 432, 67, 433)),
  (⟨"OvertureDesk$Rendering", "countAt", "(I)I"⟩, prog_9_method_12_code, 4, (some .int), [], 1, 0, false, 5, 9, (1084, 1082, 67, 1083)),
  (⟨"OvertureDesk$Rendering", "greatestCount", "()I"⟩, prog_9_method_13_code, 4, (some .int), [], 0, 0, false, 5, 9, (447, 445, 67, 446)),
  (⟨"OvertureDesk$Rendering", "lastTick", "()I"⟩, prog_9_method_14_code, 3, (some .int), [], 0, 0, false, 5, 9, (458, 456, 67, 457)),
  (⟨"OvertureDesk$Rendering", "meanOfForces", "()D"⟩, prog_9_method_15_code, 4, (some .double), [], 0, 0, false, 5, 9, (469, 467, 67, 468)),
  (⟨"OvertureDesk$Song", "<init>", "()V"⟩, prog_10_method_1_code, 1, none, [], 0, 2, false, 6, 10, (106, 105, 59, 0)),
  (⟨"OvertureDesk$Song", "isLike", "(LOvertureDesk$Song;)Z"⟩, prog_10_method_3_code, 2, (some .boolean), [], 1, 0, false, 6, 10, (731, 729, 59, 730)),
  (⟨"OvertureDesk$Song", "takeFrom", "(LOvertureDesk$Song;)V"⟩, prog_10_method_2_code, 2, none, [], 1, 0, false, 6, 10, (759, 757, 59, 758)),
  (⟨"OvertureDesk$SpeedMap", "<init>", "()V"⟩, prog_11_method_1_code, 1, none, [], 0, 2, false, 7, 11, (143, 142, 62, 0)),
  (⟨"OvertureDesk$SpeedMap", "timeAt", "(I)I"⟩, prog_11_method_2_code, 8, (some .int), [], 1, 0, false, 7, 11, (493, 491, 62, 492)),
  (⟨"OvertureDesk$SpeedMap", "tickAt", "(I)I"⟩, prog_11_method_3_code, 5, (some .int), [], 1, 0, false, 7, 11, (513, 511, 62, 512)),
  (⟨"OvertureDesk$TrackSet", "<init>", "()V"⟩, prog_12_method_1_code, 1, none, [], 0, 2, false, 8, 12, (126, 125, 61, 0)),
  (⟨"OvertureDesk$TrackSet", "shiftOf", "(I)I"⟩, prog_12_method_3_code, 2, (some .int), [], 1, 0, false, 8, 12, (378, 376, 61, 377)),
  (⟨"OvertureDesk$TrackSet", "delayOf", "(I)I"⟩, prog_12_method_4_code, 2, (some .int), [], 1, 0, false, 8, 12, (395, 393, 61, 394)),
  (⟨"OvertureDesk$TrackSet", "isLike", "(LOvertureDesk$TrackSet;)Z"⟩, prog_12_method_9_code, 3, (some .boolean), [], 1, 0, false, 8, 12, (739, 737, 61, 738)),
  (⟨"OvertureDesk$TrackSet", "takeFrom", "(LOvertureDesk$TrackSet;)V"⟩, prog_12_method_8_code, 3, none, [], 1, 0, false, 8, 12, (767, 765, 61, 766)),
  (⟨"OvertureDesk$TrackSet", "isMarked", "(II)Z"⟩, prog_12_method_5_code, 3, (some .boolean), [], 2, 0, false, 8, 12, (360, 359, 61, 1)),
  (⟨"OvertureDesk$TrackSet", "isAnyAlone", "()Z"⟩, prog_12_method_6_code, 2, (some .boolean), [], 0, 0, false, 8, 12, (367, 366, 61, 2)),
  (⟨"OvertureDesk$TrackSet", "isHeard", "(I)Z"⟩, prog_12_method_7_code, 2, (some .boolean), [], 1, 0, false, 8, 12, (356, 354, 61, 355)),
  (⟨"OvertureDesk$TrackSet", "put", "(IZZII)V"⟩, prog_12_method_2_code, 6, none, [], 5, 0, false, 8, 12, (916, 914, 61, 915)),
  (⟨"OvertureDeskModel", "<init>", "()V"⟩, prog_14_method_1_code, 1, none, [], 0, 2, false, 10, 13, (1110, 1109, 68, 0)),
  (⟨"OvertureDeskModel", "thrown", "()I"⟩, prog_14_method_2_code, 1, (some .int), [], 0, 0, false, 10, 13, (1163, 1161, 68, 1162)),
  (⟨"OvertureDeskModel", "refuse", "(I)I"⟩, prog_14_method_3_code, 2, (some .int), [], 1, 0, false, 10, 13, (1171, 1170, 68, 24)),
  (⟨"OvertureDeskModel", "is", "(III)Z"⟩, prog_14_method_4_code, 3, (some .boolean), [], 3, 1, false, 10, 13, (1321, 1320, 68, 0)),
  (⟨"OvertureDeskModel", "isTrack", "(I)Z"⟩, prog_14_method_5_code, 1, (some .boolean), [], 1, 1, false, 10, 13, (1318, 1317, 68, 0)),
  (⟨"OvertureDeskModel", "isRange", "(III)Z"⟩, prog_14_method_6_code, 3, (some .boolean), [], 3, 1, false, 10, 13, (1647, 1646, 68, 0)),
  (⟨"OvertureDeskModel", "begin", "()V"⟩, prog_14_method_7_code, 1, none, [], 0, 0, false, 10, 13, (1315, 1314, 68, 26)),
  (⟨"OvertureDeskModel", "push", "([[II[I)I"⟩, prog_14_method_8_code, 4, (some .int), [], 3, 1, false, 10, 13, (1290, 1289, 68, 0)),
  (⟨"OvertureDeskModel", "isChange", "([I)Z"⟩, prog_14_method_9_code, 2, (some .boolean), [], 1, 0, false, 10, 13, (1182, 1181, 68, 25)),
  (⟨"OvertureDeskModel", "done", "(I)I"⟩, prog_14_method_10_code, 2, (some .int), [], 1, 0, false, 10, 13, (1332, 1331, 68, 28)),
  (⟨"OvertureDeskModel", "openGroup", "()I"⟩, prog_14_method_11_code, 1, (some .int), [], 0, 0, false, 10, 13, (1167, 1165, 68, 1166)),
  (⟨"OvertureDeskModel", "closeGroup", "()Z"⟩, prog_14_method_12_code, 1, (some .boolean), [], 0, 0, false, 10, 13, (1178, 1176, 68, 1177)),
  (⟨"OvertureDeskModel", "undo", "()I"⟩, prog_14_method_13_code, 1, (some .int), [], 0, 0, false, 10, 13, (1295, 1293, 68, 1294)),
  (⟨"OvertureDeskModel", "redo", "()I"⟩, prog_14_method_14_code, 1, (some .int), [], 0, 0, false, 10, 13, (1299, 1297, 68, 1298)),
  (⟨"OvertureDeskModel", "undos", "()I"⟩, prog_14_method_15_code, 1, (some .int), [], 0, 0, false, 10, 13, (1303, 1301, 68, 1302)),
  (⟨"OvertureDeskModel", "redos", "()I"⟩, prog_14_method_16_code, 1, (some .int), [], 0, 0, false, 10, 13, (1307, 1305, 68, 1306)),
  (⟨"OvertureDeskModel", "at", "(II)I"⟩, prog_14_method_17_code, 3, (some .int), [], 2, 0, false, 10, 13, (1617, 1616, 68, 31)),
  (⟨"OvertureDeskModel", "set", "(III)V"⟩, prog_14_method_18_code, 4, none, [], 3, 0, false, 10, 13, (1625, 1624, 68, 33)),
  (⟨"OvertureDeskModel", "isNote", "(I)Z"⟩, prog_14_method_19_code, 2, (some .boolean), [], 1, 0, false, 10, 13, (1340, 1339, 68, 29))]
def aMT_5 : List aMR := [(⟨"OvertureDeskModel", "compare", "([II[II)I"⟩, prog_14_method_20_code, 9, (some .int), [], 4, 1, true, 10, 13, (1328, 1327, 68, 0)),
  (⟨"OvertureDeskModel", "put", "([II)I"⟩, prog_14_method_21_code, 4, (some .int), [], 2, 0, true, 10, 13, (1325, 1324, 68, 27)),
  (⟨"OvertureDeskModel", "take", "(I)V"⟩, prog_14_method_22_code, 2, none, [], 1, 0, false, 10, 13, (1344, 1343, 68, 30)),
  (⟨"OvertureDeskModel", "sort", "()V"⟩, prog_14_method_23_code, 4, none, [], 0, 0, true, 10, 13, (1629, 1628, 68, 34)),
  (⟨"OvertureDeskModel", "isIn", "(IIII)Z"⟩, prog_14_method_24_code, 5, (some .boolean), [], 4, 0, false, 10, 13, (1651, 1650, 68, 35)),
  (⟨"OvertureDeskModel", "end", "(I)I"⟩, prog_14_method_25_code, 2, (some .int), [], 1, 0, false, 10, 13, (1621, 1620, 68, 32)),
  (⟨"OvertureDeskModel", "write", "(IIIII)I"⟩, prog_14_method_26_code, 7, (some .int), [], 5, 0, true, 10, 13, (1311, 1309, 68, 1310)),
  (⟨"OvertureDeskModel", "remove", "(I)I"⟩, prog_14_method_27_code, 2, (some .int), [], 1, 0, true, 10, 13, (1336, 1334, 68, 1335)),
  (⟨"OvertureDeskModel", "split", "(II)I"⟩, prog_14_method_28_code, 4, (some .int), [], 2, 0, true, 10, 13, (1613, 1611, 68, 1612)),
  (⟨"OvertureDeskModel", "transpose", "(IIII)I"⟩, prog_14_method_29_code, 7, (some .int), [], 4, 0, true, 10, 13, (1644, 1642, 68, 1643)),
  (⟨"OvertureDeskModel", "weigh", "(IIII)I"⟩, prog_14_method_30_code, 7, (some .int), [], 4, 0, true, 10, 13, (1655, 1653, 68, 1654)),
  (⟨"OvertureDeskModel", "line", "(III)I"⟩, prog_14_method_31_code, 3, (some .int), [], 3, 1, false, 10, 13, (1666, 1665, 68, 0)),
  (⟨"OvertureDeskModel", "target", "(III)I"⟩, prog_14_method_32_code, 6, (some .int), [], 3, 1, false, 10, 13, (1663, 1662, 68, 0)),
  (⟨"OvertureDeskModel", "quantise", "(IIIIII)I"⟩, prog_14_method_33_code, 11, (some .int), [], 6, 0, true, 10, 13, (1660, 1658, 68, 1659)),
  (⟨"OvertureDeskModel", "copy", "(III)I"⟩, prog_14_method_34_code, 5, (some .int), [], 3, 0, false, 10, 13, (1672, 1670, 68, 1671)),
  (⟨"OvertureDeskModel", "paste", "(I)I"⟩, prog_14_method_35_code, 5, (some .int), [], 1, 0, true, 10, 13, (1676, 1674, 68, 1675)),
  (⟨"OvertureDeskModel", "notes", "()I"⟩, prog_14_method_36_code, 1, (some .int), [], 0, 0, false, 10, 13, (1680, 1678, 68, 1679)),
  (⟨"OvertureDeskModel", "note", "(II)I"⟩, prog_14_method_37_code, 3, (some .int), [], 2, 0, false, 10, 13, (1684, 1682, 68, 1683)),
  (⟨"OvertureDeskModel", "track", "(II)I"⟩, prog_14_method_38_code, 3, (some .int), [], 2, 0, false, 10, 13, (1692, 1691, 68, 36)),
  (⟨"OvertureDeskModel", "setTrack", "(IZZII)I"⟩, prog_14_method_39_code, 8, (some .int), [], 5, 0, true, 10, 13, (1688, 1686, 68, 1687)),
  (⟨"OvertureDeskModel", "setRow", "(II[I)Z"⟩, prog_14_method_40_code, 8, (some .boolean), [], 3, 0, false, 10, 13, (1700, 1699, 68, 37)),
  (⟨"OvertureDeskModel", "setSpeed", "(II)I"⟩, prog_14_method_41_code, 3, (some .int), [], 2, 0, true, 10, 13, (1696, 1694, 68, 1695)),
  (⟨"OvertureDeskModel", "setMeter", "(III)I"⟩, prog_14_method_42_code, 4, (some .int), [], 3, 0, true, 10, 13, (1704, 1702, 68, 1703)),
  (⟨"OvertureDeskModel", "setLoop", "(III)I"⟩, prog_14_method_43_code, 6, (some .int), [], 3, 0, true, 10, 13, (1708, 1706, 68, 1707)),
  (⟨"OvertureDeskModel", "timeNow", "(I)I"⟩, prog_14_method_44_code, 7, (some .int), [], 1, 0, false, 10, 13, (1717, 1716, 68, 38)),
  (⟨"OvertureDeskModel", "timeOf", "(I)I"⟩, prog_14_method_45_code, 2, (some .int), [], 1, 0, false, 10, 13, (1712, 1710, 68, 1711)),
  (⟨"OvertureDeskModel", "tickNow", "(I)I"⟩, prog_14_method_46_code, 5, (some .int), [], 1, 0, false, 10, 13, (1727, 1726, 68, 39)),
  (⟨"OvertureDeskModel", "tickOf", "(I)I"⟩, prog_14_method_47_code, 2, (some .int), [], 1, 0, false, 10, 13, (1723, 1721, 68, 1722)),
  (⟨"OvertureDeskModel", "meterOf", "(I)I"⟩, prog_14_method_48_code, 3, (some .int), [], 1, 0, false, 10, 13, (1743, 1742, 68, 42)),
  (⟨"OvertureDeskModel", "beatLength", "(I)I"⟩, prog_14_method_49_code, 2, (some .int), [], 1, 0, false, 10, 13, (1747, 1746, 68, 43)),
  (⟨"OvertureDeskModel", "barLength", "(I)I"⟩, prog_14_method_50_code, 2, (some .int), [], 1, 0, false, 10, 13, (1739, 1738, 68, 41)),
  (⟨"OvertureDeskModel", "tickOfBarNow", "(I)I"⟩, prog_14_method_51_code, 4, (some .int), [], 1, 0, false, 10, 13, (1759, 1758, 68, 45)),
  (⟨"OvertureDeskModel", "barNow", "(I)I"⟩, prog_14_method_52_code, 4, (some .int), [], 1, 0, false, 10, 13, (1735, 1734, 68, 40)),
  (⟨"OvertureDeskModel", "barOf", "(I)I"⟩, prog_14_method_53_code, 2, (some .int), [], 1, 0, false, 10, 13, (1731, 1729, 68, 1730)),
  (⟨"OvertureDeskModel", "beatNow", "(I)I"⟩, prog_14_method_54_code, 2, (some .int), [], 1, 0, false, 10, 13, (1755, 1754, 68, 44)),
  (⟨"OvertureDeskModel", "beatOf", "(I)I"⟩, prog_14_method_55_code, 2, (some .int), [], 1, 0, false, 10, 13, (1751, 1749, 68, 1750)),
  (⟨"OvertureDeskModel", "tickOfBar", "(I)I"⟩, prog_14_method_56_code, 2, (some .int), [], 1, 0, false, 10, 13, (1763, 1761, 68, 1762)),
  (⟨"OvertureDeskModel", "isHeard", "(II)Z"⟩, prog_14_method_57_code, 5, (some .boolean), [], 2, 0, false, 10, 13, (1791, 1790, 68, 49)),
  (⟨"OvertureDeskModel", "play", "(III)V"⟩, prog_14_method_58_code, 7, none, [], 3, 0, false, 10, 13, (1795, 1794, 68, 50)),
  (⟨"OvertureDeskModel", "render", "(I)V"⟩, prog_14_method_59_code, 8, none, [], 1, 0, false, 10, 13, (1787, 1786, 68, 48))]
def aMT_6 : List aMR := [(⟨"OvertureDeskModel", "eventsNow", "()I"⟩, prog_14_method_60_code, 4, (some .int), [], 0, 0, false, 10, 13, (1783, 1782, 68, 47)),
  (⟨"OvertureDeskModel", "told", "(JI)I"⟩, prog_14_method_61_code, 3, (some .int), [], 2, 1, false, 10, 13, (1838, 1837, 68, 0)),
  (⟨"OvertureDeskModel", "chordAt", "(I)I"⟩, prog_14_method_62_code, 4, (some .int), [], 1, 0, false, 10, 13, (1767, 1765, 68, 1766)),
  (⟨"OvertureDeskModel", "clashesNow", "()I"⟩, prog_14_method_63_code, 4, (some .int), [], 0, 0, false, 10, 13, (1775, 1774, 68, 46)),
  (⟨"OvertureDeskModel", "clashes", "()I"⟩, prog_14_method_64_code, 1, (some .int), [], 0, 0, false, 10, 13, (1771, 1769, 68, 1770)),
  (⟨"OvertureDeskModel", "events", "()I"⟩, prog_14_method_65_code, 1, (some .int), [], 0, 0, false, 10, 13, (1779, 1777, 68, 1778)),
  (⟨"OvertureDeskModel", "event", "(II)I"⟩, prog_14_method_66_code, 3, (some .int), [], 2, 0, false, 10, 13, (1835, 1833, 68, 1834)),
  (⟨"OvertureDeskModel", "sounding", "(I)I"⟩, prog_14_method_67_code, 4, (some .int), [], 1, 0, false, 10, 13, (1844, 1842, 68, 1843)),
  (⟨"OvertureDeskModel", "mostNow", "()I"⟩, prog_14_method_68_code, 5, (some .int), [], 0, 0, false, 10, 13, (1852, 1851, 68, 51)),
  (⟨"OvertureDeskModel", "most", "()I"⟩, prog_14_method_69_code, 1, (some .int), [], 0, 0, false, 10, 13, (1848, 1846, 68, 1847)),
  (⟨"OvertureDeskModel", "playedToNow", "()I"⟩, prog_14_method_70_code, 2, (some .int), [], 0, 0, false, 10, 13, (1860, 1859, 68, 52)),
  (⟨"OvertureDeskModel", "playedTo", "()I"⟩, prog_14_method_71_code, 1, (some .int), [], 0, 0, false, 10, 13, (1856, 1854, 68, 1855)),
  (⟨"OvertureDeskModel", "meanForce", "()D"⟩, prog_14_method_72_code, 3, (some .double), [], 0, 0, false, 10, 13, (1864, 1862, 68, 1863)),
  (⟨"OvertureDeskModel", "moving", "(IIII)I"⟩, prog_14_method_73_code, 7, (some .int), [], 4, 0, false, 10, 13, (1872, 1871, 68, 53)),
  (⟨"OvertureDeskModel", "wouldMove", "(IIII)I"⟩, prog_14_method_74_code, 5, (some .int), [], 4, 0, false, 10, 13, (1868, 1866, 68, 1867)),
  (⟨"OvertureDeskModel", "eventsOf", "(I)I"⟩, prog_14_method_75_code, 2, (some .int), [], 1, 0, false, 10, 13, (1880, 1879, 68, 54)),
  (⟨"OvertureDeskModel", "eventsAlone", "(I)I"⟩, prog_14_method_76_code, 2, (some .int), [], 1, 0, false, 10, 13, (1876, 1874, 68, 1875)),
  (⟨"OvertureDeskModel", "bestNow", "(III)I"⟩, prog_14_method_77_code, 10, (some .int), [], 3, 0, true, 10, 13, (1888, 1887, 68, 55)),
  (⟨"OvertureDeskModel", "bestStep", "(III)I"⟩, prog_14_method_78_code, 4, (some .int), [], 3, 0, false, 10, 13, (1884, 1882, 68, 1883)),
  (⟨"OvertureDeskModel", "add", "(I)V"⟩, prog_14_method_79_code, 2, none, [], 1, 0, false, 10, 13, (1897, 1896, 68, 56)),
  (⟨"OvertureDeskModel", "digest", "()J"⟩, prog_14_method_80_code, 6, (some .long), [], 0, 0, true, 10, 13, (1892, 1890, 68, 1891)),
  (⟨"java/lang/Math", "floorMod", "(II)I"⟩, prog_24_method_50_code, 3, (some .int), [], 2, 1, false, 99, 14, (754, 753, 75, 0)),
  (⟨"java/lang/Math", "abs", "(I)I"⟩, prog_24_method_59_code, 1, (some .int), [], 1, 1, false, 99, 14, (594, 593, 75, 0)),
  (⟨"java/lang/Math", "max", "(II)I"⟩, prog_24_method_65_code, 2, (some .int), [], 2, 1, false, 99, 14, (408, 407, 75, 0)),
  (⟨"java/lang/Math", "min", "(II)I"⟩, prog_24_method_69_code, 2, (some .int), [], 2, 1, false, 99, 14, (422, 421, 75, 0)),
  (⟨"java/util/Arrays", "equals", "([I[I)Z"⟩, prog_33_method_83_code, 3, (some .boolean), [], 2, 1, false, 99, 15, (1185, 1184, 77, 0)),
  (⟨"java/util/Arrays", "rangeCheck", "(III)V"⟩, prog_33_method_30_code, 3, none, [], 3, 1, false, 99, 15, (1350, 1349, 77, 0)),
  (⟨"java/util/Arrays", "fill", "([IIII)V"⟩, prog_33_method_104_code, 5, none, [], 4, 1, false, 99, 15, (1347, 1346, 77, 0)),
  (⟨"java/util/Arrays", "checkLength", "(II)V"⟩, prog_33_method_131_code, 2, none, [], 2, 1, false, 99, 15, (1560, 1559, 77, 0)),
  (⟨"java/util/Arrays", "copyOfRangeInt", "([III)[I"⟩, prog_33_method_137_code, 5, (some (.array .int)), [], 3, 1, false, 99, 15, (1635, 1634, 77, 0)),
  (⟨"java/util/Arrays", "copyOfRange", "([III)[I"⟩, prog_33_method_136_code, 3, (some (.array .int)), [], 3, 1, false, 99, 15, (1632, 1631, 77, 0)),
  (⟨"java/util/Arrays", "copyOf", "([II)[I"⟩, prog_33_method_123_code, 3, (some (.array .int)), [], 2, 1, false, 99, 15, (1818, 1817, 77, 0)),
  (⟨"java/util/Arrays", "sort", "([JII)V"⟩, prog_33_method_5_code, 3, none, [], 3, 1, true, 99, 15, (1800, 1799, 77, 0)),
  (⟨"java/util/DualPivotQuicksort", "mixedInsertionSort", "([JIII)V"⟩, prog_34_method_14_code, 11, none, [], 4, 1, false, 99, 16, (1809, 1808, 93, 0)),
  (⟨"java/util/DualPivotQuicksort", "insertionSort", "([JII)V"⟩, prog_34_method_15_code, 7, none, [], 3, 1, false, 99, 16, (1812, 1811, 93, 0)),
  (⟨"java/util/DualPivotQuicksort", "mergeRuns", "([J[JIIZ[III)[J"⟩, prog_34_method_19_code, 18, (some (.array .long)), [], 8, 1, false, 99, 16, (1822, 1821, 93, 0)),
  (⟨"java/util/DualPivotQuicksort", "tryMergeRuns", "(Ljava/util/DualPivotQuicksort$Sorter;[JII)Z"⟩, prog_34_method_18_code, 13, (some .boolean), [], 4, 1, false, 99, 16, (1815, 1814, 93, 0)),
  (⟨"java/util/DualPivotQuicksort", "pushDown", "([JIJII)V"⟩, prog_34_method_17_code, 7, none, [], 5, 1, false, 99, 16, (1831, 1830, 93, 0)),
  (⟨"java/util/DualPivotQuicksort", "heapSort", "([JII)V"⟩, prog_34_method_16_code, 5, none, [], 3, 1, false, 99, 16, (1828, 1827, 93, 0)),
  (⟨"java/util/DualPivotQuicksort", "sort", "(Ljava/util/DualPivotQuicksort$Sorter;[JIII)V"⟩, prog_34_method_13_code, 25, none, [], 5, 1, false, 99, 16, (1806, 1805, 93, 0))]
def aMT_7 : List aMR := [(⟨"java/util/DualPivotQuicksort", "sort", "([JIII)V"⟩, prog_34_method_12_code, 7, none, [], 4, 1, false, 99, 16, (1803, 1802, 93, 0)),
  (⟨"jdk/internal/util/ArraysSupport", "mismatch", "([I[II)I"⟩, prog_37_method_19_code, 4, (some .int), [], 3, 1, false, 99, 17, (1188, 1187, 78, 0)),
  (⟨"jdk/internal/util/ArraysSupport", "vectorizedMismatch", "(Ljava/lang/Object;JLjava/lang/Object;JII)I"⟩, prog_37_method_3_code, 19, (some .int), [], 6, 1, false, 99, 17, (1195, 1194, 78, 0)),
  (⟨"jdk/internal/misc/Unsafe", "getLongUnaligned", "(Ljava/lang/Object;J)J"⟩, prog_35_method_334_code, 4, (some .long), [], 2, 0, false, 99, 18, (1203, 1201, 79, 1202)),
  (⟨"java/lang/Long", "numberOfTrailingZeros", "(J)I"⟩, prog_23_method_49_code, 3, (some .int), [], 1, 1, false, 99, 19, (1265, 1264, 82, 0)),
  (⟨"java/lang/Integer", "numberOfTrailingZeros", "(I)I"⟩, prog_22_method_48_code, 2, (some .int), [], 1, 1, false, 99, 20, (1268, 1267, 83, 0))]
def aMT : List aMR := aMT_0 ++ aMT_1 ++ aMT_2 ++ aMT_3 ++ aMT_4 ++ aMT_5 ++ aMT_6 ++ aMT_7
/-- call sites: own class, index, method, the nest's host, place -/
def aKT : List (Nat × Nat × Nat × String × Nat) := [(0, 7, 38, "", 604), (0, 17, 39, "", 781), (0, 23, 40, "", 813), (0, 27, 44, "", 828), (0, 31, 45, "", 854), (0, 34, 48, "", 868), (0, 38, 49, "", 877), (0, 42, 50, "", 889), (0, 45, 52, "", 898), (0, 48, 53, "", 906), (0, 52, 54, "", 920), (0, 55, 55, "", 957), (0, 58, 56, "", 967), (0, 61, 57, "", 976), (0, 65, 58, "", 984), (0, 69, 59, "", 992), (0, 72, 60, "", 1008), (0, 75, 64, "", 1020), (0, 78, 65, "", 1031), (0, 81, 66, "", 1039), (0, 84, 67, "", 1046), (0, 87, 68, "", 1053), (0, 90, 69, "", 1061), (0, 93, 72, "", 1068), (0, 96, 73, "", 1077), (0, 99, 78, "", 1088), (0, 102, 79, "", 1095), (0, 105, 81, "", 1102), (0, 108, 34, "", 96), (0, 111, 181, "", 1108), (0, 112, 1, "", 599), (0, 117, 206, "", 1308), (0, 118, 182, "", 1160), (0, 121, 2, "", 777), (0, 124, 207, "", 1333), (0, 125, 3, "", 810), (0, 128, 208, "", 1610), (0, 129, 4, "", 825), (0, 132, 209, "", 1641), (0, 133, 5, "", 851), (0, 135, 210, "", 1652), (0, 136, 6, "", 865), (0, 139, 213, "", 1657), (0, 140, 7, "", 874), (0, 143, 214, "", 1669), (0, 144, 8, "", 886), (0, 146, 215, "", 1673), (0, 147, 51, "", 296), (0, 150, 216, "", 1677), (0, 151, 9, "", 895), (0, 153, 217, "", 1681), (0, 154, 10, "", 903), (0, 157, 219, "", 1685), (0, 158, 11, "", 917), (0, 160, 221, "", 1693), (0, 161, 12, "", 954), (0, 163, 222, "", 1701), (0, 164, 13, "", 964), (0, 166, 223, "", 1705), (0, 167, 14, "", 973), (0, 170, 191, "", 1164), (0, 171, 15, "", 981), (0, 173, 192, "", 1175), (0, 174, 16, "", 989), (0, 176, 193, "", 1292), (0, 177, 17, "", 1005), (0, 179, 194, "", 1296), (0, 180, 61, "", 304), (0, 183, 195, "", 1300), (0, 184, 62, "", 308), (0, 187, 196, "", 1304), (0, 188, 18, "", 1017), (0, 190, 225, "", 1709), (0, 191, 19, "", 1028), (0, 193, 227, "", 1720), (0, 194, 20, "", 1036), (0, 196, 233, "", 1728), (0, 197, 21, "", 1043), (0, 199, 235, "", 1748), (0, 200, 22, "", 1050), (0, 202, 236, "", 1760), (0, 203, 23, "", 1058), (0, 205, 242, "", 1764), (0, 206, 70, "", 312), (0, 209, 244, "", 1768), (0, 210, 71, "", 345), (0, 213, 245, "", 1776), (0, 214, 24, "", 1065), (0, 216, 246, "", 1832), (0, 217, 25, "", 1074), (0, 219, 247, "", 1841), (0, 220, 74, "", 427), (0, 223, 249, "", 1845), (0, 224, 75, "", 451), (0, 227, 251, "", 1853), (0, 228, 76, "", 462), (0, 232, 252, "", 1861), (0, 233, 26, "", 1085), (0, 235, 254, "", 1865), (0, 236, 27, "", 1092), (0, 238, 256, "", 1873), (0, 239, 28, "", 1099), (0, 241, 258, "", 1881), (0, 242, 85, "", 473), (0, 246, 260, "", 1889), (1, 3, 1000, "", 99), (1, 11, 166, "OvertureDesk", 104), (1, 18, 105, "", 240), (1, 25, 137, "OvertureDesk", 263), (1, 32, 151, "OvertureDesk", 266), (1, 41, 35, "", 608), (1, 45, 36, "", 595), (1, 48, 33, "", 598), (1, 64, 143, "", 681), (1, 73, 86, "", 701), (1, 79, 146, "", 702), (1, 83, 37, "", 716), (1, 86, 144, "", 785), (1, 94, 147, "", 805), (1, 98, 142, "", 300), (1, 101, 138, "", 486), (1, 105, 88, "", 582), (1, 108, 92, "", 817), (1, 113, 94, "", 819), (1, 117, 93, "", 822), (1, 120, 42, "", 832), (1, 125, 43, "", 839), (1, 131, 97, "", 583), (1, 135, 89, "", 843), (1, 138, 95, "", 845), (1, 141, 140, "", 846), (1, 145, 149, "", 847), (1, 150, 91, "", 859), (1, 153, 264, "", 860), (1, 159, 263, "", 861), (1, 162, 96, "", 862), (1, 169, 47, "", 586), (1, 175, 148, "", 882), (1, 184, 99, "", 487), (1, 196, 173, "", 912), (1, 202, 180, "", 913), (1, 217, 125, "", 925), (1, 222, 126, "", 934), (1, 227, 127, "", 939), (1, 228, 128, "", 948), (1, 231, 122, "", 953), (1, 245, 41, "", 835), (1, 261, 113, "", 972), (1, 269, 107, "", 720), (1, 275, 109, "", 997), (1, 284, 110, "", 1013), (1, 287, 63, "", 1024), (1, 290, 170, "", 490), (1, 295, 171, "", 510), (1, 298, 134, "", 516), (1, 301, 135, "", 544), (1, 306, 136, "", 548), (1, 309, 150, "", 316), (1, 312, 158, "", 349), (1, 315, 152, "", 423), (1, 320, 161, "", 431), (1, 321, 153, "", 561), (1, 322, 104, "", 562), (1, 325, 162, "", 1081), (1, 328, 163, "", 444), (1, 331, 164, "", 455), (1, 334, 165, "", 466), (1, 338, 77, "", 578), (1, 341, 159, "", 568), (1, 345, 80, "", 572), (1, 351, 83, "", 478), (1, 355, 82, "", 482), (1, 359, 84, "", 557), (1, 368, 46, "", 589), (1, 371, 262, "", 592), (2, 9, 88, "", 336), (2, 15, 90, "", 342), (2, 18, 87, "", 330), (2, 21, 89, "", 333), (2, 24, 91, "", 386), (2, 27, 86, "", 389), (2, 31, 92, "", 339), (3, 7, 101, "", 565), (3, 13, 102, "", 566), (3, 17, 103, "", 567), (4, 3, 1000, "", 243), (4, 17, 166, "OvertureDesk", 246), (4, 22, 106, "", 724), (4, 26, 167, "", 728), (4, 30, 261, "", 752), (4, 39, 264, "", 755), (4, 45, 168, "", 756), (4, 49, 108, "", 1001), (5, 1, 1000, "", 196), (6, 3, 1000, "", 150), (6, 21, 114, "", 151), (6, 29, 29, "OvertureDesk", 155), (6, 33, 116, "", 556), (6, 37, 117, "", 746), (6, 40, 118, "", 747), (6, 43, 31, "OvertureDesk", 502), (6, 47, 123, "", 933), (6, 50, 124, "", 929), (6, 54, 125, "", 943), (6, 57, 121, "", 944), (6, 61, 126, "", 952), (7, 3, 1000, "", 182), (7, 11, 115, "", 184), (7, 20, 118, "", 536), (7, 24, 263, "", 531), (7, 30, 117, "", 530), (7, 33, 130, "", 532), (7, 36, 116, "", 525), (7, 39, 131, "", 526), (7, 42, 122, "", 524), (7, 46, 133, "", 520), (7, 49, 132, "", 540), (7, 52, 123, "", 552), (8, 3, 1000, "", 113), (8, 19, 30, "OvertureDesk", 324), (8, 23, 32, "OvertureDesk", 711), (8, 27, 143, "", 706), (8, 31, 140, "", 707), (8, 35, 145, "", 712), (8, 39, 138, "", 320), (8, 43, 263, "", 809), (8, 49, 98, "", 327), (9, 3, 1000, "", 269), (9, 22, 30, "OvertureDesk", 443), (9, 32, 179, "", 353), (9, 38, 157, "", 368), (9, 46, 142, "", 372), (9, 52, 138, "", 373), (9, 56, 89, "", 374), (9, 62, 173, "", 375), (9, 66, 87, "", 379), (9, 69, 33, "OvertureDesk", 380), (9, 73, 95, "", 383), (9, 81, 174, "", 392), (9, 84, 156, "", 396), (9, 88, 88, "", 400), (9, 91, 90, "", 401), (9, 105, 155, "", 402), (9, 109, 264, "", 420), (9, 115, 263, "", 406), (9, 118, 154, "", 409), (9, 122, 91, "", 413), (9, 125, 100, "", 414), (9, 131, 32, "OvertureDesk", 417), (9, 135, 160, "", 435), (9, 139, 153, "", 439), (9, 140, 101, "", 459), (9, 143, 102, "", 448), (9, 147, 103, "", 470), (10, 1, 1000, "", 107), (10, 9, 137, "OvertureDesk", 110), (10, 18, 172, "OvertureDesk", 124), (10, 25, 169, "OvertureDesk", 141), (10, 32, 129, "OvertureDesk", 179), (10, 39, 111, "OvertureDesk", 193), (10, 44, 141, "", 760), (10, 48, 176, "", 764), (10, 55, 120, "", 769), (10, 71, 113, "", 773), (10, 75, 139, "", 732), (10, 79, 175, "", 736), (10, 82, 119, "", 742), (10, 85, 112, "", 748), (11, 3, 1000, "", 144), (11, 11, 115, "", 147), (11, 20, 122, "", 494), (11, 24, 116, "", 498), (11, 28, 264, "", 503), (11, 34, 117, "", 504), (11, 40, 170, "", 515), (12, 3, 1000, "", 127), (12, 21, 29, "OvertureDesk", 768), (12, 25, 31, "OvertureDesk", 361), (12, 29, 177, "", 357), (12, 33, 178, "", 364), (12, 37, 173, "", 740), (12, 41, 174, "", 741), (13, 3, 1000, "", 1111), (13, 41, 184, "", 1319), (13, 45, 1001, "", 1172), (13, 51, 264, "", 1291), (13, 57, 265, "", 1183), (13, 66, 188, "", 1288), (13, 77, 189, "", 1179), (13, 81, 183, "", 1168), (13, 85, 200, "", 1326), (13, 89, 267, "", 1345), (13, 93, 270, "", 1630), (13, 97, 201, "", 1322), (13, 101, 197, "", 1614), (13, 104, 187, "", 1312), (13, 107, 185, "", 1316), (13, 111, 190, "", 1329), (13, 114, 199, "", 1337), (13, 117, 202, "", 1341), (13, 121, 205, "", 1618), (13, 124, 198, "", 1622), (13, 128, 203, "", 1626), (13, 131, 186, "", 1645), (13, 134, 204, "", 1648), (13, 138, 263, "", 1656), (13, 141, 211, "", 1664), (13, 145, 262, "", 1667), (13, 148, 212, "", 1661), (13, 154, 218, "", 1689), (13, 157, 220, "", 1697), (13, 167, 224, "", 1714), (13, 170, 226, "", 1724), (13, 173, 228, "", 1740), (13, 176, 229, "", 1744), (13, 179, 230, "", 1736), (13, 182, 232, "", 1732), (13, 185, 231, "", 1756), (13, 188, 234, "", 1752), (13, 194, 237, "", 1788), (13, 198, 238, "", 1792), (13, 201, 239, "", 1784), (13, 208, 272, "", 1798), (13, 215, 243, "", 1772), (13, 219, 240, "", 1780), (13, 222, 241, "", 1836), (13, 226, 248, "", 1849), (13, 229, 250, "", 1857), (13, 232, 253, "", 1869), (13, 236, 255, "", 1877), (13, 239, 257, "", 1885), (13, 250, 259, "", 1894), (15, 13, 266, "", 1348), (15, 19, 280, "", 1801), (15, 150, 1001, "", 1423), (15, 254, 281, "", 1186), (15, 304, 264, "", 1422), (15, 343, 268, "", 1558), (15, 351, 269, "", 1633), (16, 53, 271, "", 1816), (16, 99, 279, "", 1804), (16, 102, 273, "", 1807), (16, 105, 274, "", 1810), (16, 108, 276, "", 1813), (16, 111, 278, "", 1826), (16, 113, 277, "", 1829), (16, 118, 275, "", 1820), (17, 11, 285, "", 1287), (17, 30, 283, "", 1200), (17, 49, 284, "", 1263), (17, 122, 282, "", 1193), (17, 194, 263, "", 1406), (18, 27, 1002, "", 1205), (19, 311, 285, "", 1266)]
/-- fields: own class, index, class, field, kind, place -/
def aFT : List (Nat × Nat × Nat × Nat × Nat × Nat) := [(1, 12, 9, 0, 3, 280), (1, 19, 9, 1, 3, 281), (1, 26, 9, 2, 3, 282), (1, 33, 9, 3, 3, 283), (1, 37, 9, 4, 1, 284), (1, 61, 6, 0, 3, 215), (1, 192, 6, 1, 3, 219), (1, 207, 6, 2, 3, 221), (1, 211, 7, 0, 3, 173), (1, 236, 6, 3, 3, 223), (1, 240, 3, 0, 3, 187), (1, 251, 6, 4, 3, 226), (1, 255, 1, 2, 0, 206), (1, 264, 0, 2, 0, 250), (1, 279, 0, 3, 0, 252), (4, 11, 0, 0, 3, 247), (4, 18, 0, 1, 0, 248), (4, 36, 0, 2, 0, 249), (4, 42, 0, 3, 0, 251), (5, 7, 1, 0, 0, 197), (5, 13, 1, 1, 0, 200), (5, 16, 1, 2, 0, 203), (6, 9, 2, 0, 3, 158), (6, 15, 2, 1, 3, 159), (6, 18, 2, 2, 3, 160), (6, 25, 2, 3, 0, 161), (7, 14, 3, 0, 3, 185), (8, 9, 4, 0, 3, 114), (8, 15, 4, 1, 0, 115), (9, 9, 5, 0, 3, 270), (9, 15, 5, 1, 3, 271), (9, 18, 5, 2, 0, 272), (9, 26, 6, 1, 3, 218), (9, 42, 6, 0, 3, 216), (9, 77, 6, 4, 3, 225), (9, 94, 1, 1, 0, 202), (9, 99, 1, 0, 0, 199), (9, 102, 1, 2, 0, 205), (10, 10, 6, 0, 3, 214), (10, 19, 6, 1, 3, 217), (10, 26, 6, 2, 3, 220), (10, 33, 6, 3, 3, 222), (10, 40, 6, 4, 3, 224), (10, 51, 7, 0, 3, 172), (10, 60, 3, 0, 3, 186), (10, 61, 1, 0, 0, 198), (10, 65, 1, 1, 0, 201), (10, 68, 1, 2, 0, 204), (11, 14, 7, 0, 3, 171), (12, 9, 8, 0, 3, 128), (12, 15, 8, 1, 3, 129), (12, 18, 8, 2, 3, 130), (13, 9, 10, 1, 3, 1115), (13, 13, 10, 2, 3, 1116), (13, 18, 10, 3, 3, 1117), (13, 21, 10, 4, 3, 1118), (13, 24, 10, 8, 3, 1122), (13, 27, 10, 10, 3, 1124), (13, 30, 10, 11, 3, 1125), (13, 33, 10, 13, 3, 1127), (13, 37, 10, 0, 0, 1114), (13, 63, 10, 5, 0, 1119), (13, 70, 10, 6, 0, 1120), (13, 73, 10, 7, 1, 1121), (13, 151, 10, 9, 0, 1123), (13, 191, 10, 12, 0, 1126), (13, 242, 10, 14, 2, 1128)]
/-- new: own class, index, class, places -/
def aNT : List (Nat × Nat × Nat × Nat × Nat × Nat) := [(0, 8, 9, 94, 95, 58), (0, 109, 10, 1106, 1107, 68), (1, 9, 6, 102, 103, 59), (1, 16, 0, 238, 239, 66), (1, 23, 4, 262, 109, 60), (1, 30, 5, 264, 265, 67), (4, 9, 6, 244, 103, 59), (7, 9, 2, 183, 146, 63), (10, 7, 4, 108, 109, 60), (10, 16, 8, 122, 123, 61), (10, 23, 7, 139, 140, 62), (10, 30, 3, 177, 178, 64), (10, 37, 1, 191, 192, 65), (11, 9, 2, 145, 146, 63)]
/-- names of classes: own class, index, class, place -/
def aCT : List (Nat × Nat × String × Nat) := [(0, 8, "OvertureDesk", 94), (0, 13, "java/lang/IllegalArgumentException", 602), (0, 15, "java/lang/IllegalStateException", 603), (0, 21, "java/lang/IndexOutOfBoundsException", 780), (0, 109, "OvertureDeskModel", 1106), (1, 9, "OvertureDesk$Song", 102), (1, 16, "OvertureDesk$History", 238), (1, 23, "OvertureDesk$NoteList", 262), (1, 30, "OvertureDesk$Rendering", 264), (1, 52, "java/lang/IllegalArgumentException", 611), (1, 68, "java/lang/IllegalStateException", 685), (1, 89, "java/lang/IndexOutOfBoundsException", 789), (4, 9, "OvertureDesk$Song", 244), (7, 9, "OvertureDesk$Marks", 183), (10, 7, "OvertureDesk$NoteList", 108), (10, 16, "OvertureDesk$TrackSet", 122), (10, 23, "OvertureDesk$SpeedMap", 139), (10, 30, "OvertureDesk$MeterMap", 177), (10, 37, "OvertureDesk$Loop", 191), (11, 9, "OvertureDesk$Marks", 145), (13, 16, "[[I", 1112), (15, 43, "java/lang/IllegalArgumentException", 1351), (15, 45, "java/lang/StringBuilder", 1352), (15, 68, "java/lang/ArrayIndexOutOfBoundsException", 1587), (15, 311, "[B", 1421), (15, 317, "[I", 1640), (16, 116, "[J", 1819)]
def aIT : List (Nat × Nat × Int32 × Nat) := [(1, 358, 1000000, 509), (1, 374, 99999, 1027), (11, 39, 100000, 514), (13, 163, 2147483647, 1718), (13, 166, 99999, 1713), (13, 253, 1000000, 1899), (17, 200, 2147483639, 1407), (18, 374, 65535, 1279), (20, 264, 65536, 1260)]
def aLT : List (Nat × Nat × Int64 × Nat) := [(1, 349, 2671, 477), (1, 362, 31, 485), (11, 37, 62500, 508), (13, 164, 62500, 1719), (13, 204, 128, 1796), (13, 206, 2, 1797), (13, 211, 63, 1839), (13, 213, 127, 1840), (13, 246, 31, 1898), (13, 248, 2671, 1893), (18, 203, 2, 1231), (18, 205, 4, 1214), (18, 349, 3, 1209), (18, 696, 7, 1204), (18, 702, 6, 1232), (18, 707, 5, 1244), (18, 808, 255, 1251), (18, 810, 65535, 1239), (18, 812, 4294967295, 1221)]
/-- static fields: own class, index, value, place, the field -/
def aGT : List (Nat × Nat × Value × Nat × String × String × String) := [(1, 364, .ref 1, 576, "OvertureDesk", "STEPS_TO_TRY", "[I"), (17, 20, .int 3, 1196, "jdk/internal/util/ArraysSupport", "LOG2_ARRAY_LONG_INDEX_SCALE", "I"), (17, 26, .ref 2, 1198, "jdk/internal/util/ArraysSupport", "U", "Ljdk/internal/misc/Unsafe;"), (17, 36, .int 0, 1252, "jdk/internal/util/ArraysSupport", "BIG_ENDIAN", "Z"), (17, 46, .int 3, 1261, "jdk/internal/util/ArraysSupport", "LOG2_BYTE_BIT_SIZE", "I"), (17, 51, .int 2, 1191, "jdk/internal/util/ArraysSupport", "LOG2_ARRAY_INT_INDEX_SCALE", "I"), (17, 144, .int 16, 1189, "jdk/internal/misc/Unsafe", "ARRAY_INT_BASE_OFFSET", "I")]
def aAT : List (Nat × Nat × String × Nat) := [(4, 9, "OvertureDesk$Song", 244)]
def aUT : List (Nat × Nat × String × Nat) := [(13, 16, "[[I", 1112)]
/-- throws: method, place, class, indices of class, text, constructor, wide, the text -/
def aXT : List (Nat × Nat × String × Nat × Nat × Nat × Bool × String) := [(38, 25, "java/lang/IllegalArgumentException", 52, 54, 56, false, "no such track, tick or length"),
  (38, 57, "java/lang/IllegalArgumentException", 52, 59, 56, false, "no such pitch or force"),
  (38, 81, "java/lang/IllegalStateException", 68, 70, 72, false, "no room for a note"),
  (39, 14, "java/lang/IndexOutOfBoundsException", 89, 91, 93, false, "no note at this place"),
  (40, 14, "java/lang/IndexOutOfBoundsException", 89, 91, 93, false, "no note at this place"),
  (40, 67, "java/lang/IllegalArgumentException", 52, 111, 56, false, "the note can not be split at this tick"),
  (40, 91, "java/lang/IllegalStateException", 68, 70, 72, false, "no room for a note"),
  (44, 21, "java/lang/IllegalArgumentException", 52, 123, 56, false, "no such range or interval"),
  (44, 43, "java/lang/IllegalStateException", 68, 129, 72, false, "a pitch would not be 0 to 127"),
  (45, 21, "java/lang/IllegalArgumentException", 52, 148, 56, false, "no such range or percents"),
  (48, 21, "java/lang/IllegalArgumentException", 52, 165, 56, false, "no such range or step"),
  (48, 53, "java/lang/IllegalArgumentException", 52, 167, 56, false, "no such swing or strength"),
  (49, 9, "java/lang/IllegalArgumentException", 52, 173, 56, false, "no such range"),
  (50, 7, "java/lang/IllegalArgumentException", 52, 178, 56, false, "no such tick"),
  (50, 74, "java/lang/IllegalStateException", 68, 180, 72, false, "no room for the notes"),
  (52, 14, "java/lang/IndexOutOfBoundsException", 89, 91, 93, false, "no note at this place"),
  (52, 33, "java/lang/IllegalArgumentException", 52, 182, 56, false, "a note tells 0 to 4"),
  (53, 7, "java/lang/IndexOutOfBoundsException", 89, 188, 93, false, "no such track"),
  (53, 41, "java/lang/IllegalArgumentException", 52, 190, 56, false, "no such shift or delay"),
  (54, 24, "java/lang/IllegalArgumentException", 52, 205, 56, false, "no such tick or speed"),
  (54, 68, "java/lang/IllegalStateException", 68, 225, 72, false, "the speeds can not be changed so"),
  (55, 20, "java/lang/IllegalArgumentException", 52, 232, 56, false, "no such bar or count of beats"),
  (55, 56, "java/lang/IllegalArgumentException", 52, 234, 56, false, "no such beat"),
  (55, 103, "java/lang/IllegalStateException", 68, 243, 72, false, "the meters can not be changed so"),
  (56, 18, "java/lang/IllegalArgumentException", 52, 249, 56, false, "no such stretch or times"),
  (57, 7, "java/lang/IllegalStateException", 68, 262, 72, true, "a group is open"),
  (58, 7, "java/lang/IllegalStateException", 68, 267, 72, true, "no group is open"),
  (59, 18, "java/lang/IllegalStateException", 68, 273, 72, true, "nothing can be taken back"),
  (60, 18, "java/lang/IllegalStateException", 68, 282, 72, true, "nothing can be done again"),
  (64, 7, "java/lang/IllegalArgumentException", 52, 178, 56, false, "no such tick"),
  (65, 4, "java/lang/IllegalArgumentException", 52, 293, 56, true, "no such time"),
  (66, 7, "java/lang/IllegalArgumentException", 52, 178, 56, false, "no such tick"),
  (67, 7, "java/lang/IllegalArgumentException", 52, 178, 56, false, "no such tick"),
  (68, 11, "java/lang/IllegalArgumentException", 52, 304, 56, true, "no such bar"),
  (69, 7, "java/lang/IllegalArgumentException", 52, 178, 56, false, "no such tick"),
  (72, 26, "java/lang/IndexOutOfBoundsException", 89, 316, 93, true, "no such event"),
  (72, 46, "java/lang/IllegalArgumentException", 52, 318, 56, true, "an event tells 0 to 3"),
  (73, 7, "java/lang/IllegalArgumentException", 52, 178, 56, false, "no such tick"),
  (78, 21, "java/lang/IllegalArgumentException", 52, 165, 56, false, "no such range or step"),
  (79, 7, "java/lang/IndexOutOfBoundsException", 89, 188, 93, false, "no such track"),
  (81, 9, "java/lang/IllegalArgumentException", 52, 173, 56, false, "no such range")]
