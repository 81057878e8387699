/-! ===== tables, by program out of the claim (gen/mk01.py) ===== -/
def aT0 : u_T := fun k => match k with
  | 0 => ("OvertureDesk$History", "songs", "[LOvertureDesk$Song;", true)
  | 1 => ("OvertureDesk$History", "now", "I", false)
  | 2 => ("OvertureDesk$History", "behind", "I", false)
  | _ => ("OvertureDesk$History", "ahead", "I", false)
def aT1 : u_T := fun k => match k with
  | 0 => ("OvertureDesk$Loop", "from", "I", false)
  | 1 => ("OvertureDesk$Loop", "to", "I", false)
  | _ => ("OvertureDesk$Loop", "times", "I", false)
def aT2 : u_T := fun k => match k with
  | 0 => ("OvertureDesk$Marks", "places", "[I", true)
  | 1 => ("OvertureDesk$Marks", "firsts", "[I", true)
  | 2 => ("OvertureDesk$Marks", "seconds", "[I", true)
  | _ => ("OvertureDesk$Marks", "count", "I", false)
def aT3 : u_T := fun k => match k with
  | _ => ("OvertureDesk$MeterMap", "marks", "LOvertureDesk$Marks;", true)
def aT4 : u_T := fun k => match k with
  | 0 => ("OvertureDesk$NoteList", "codes", "[J", true)
  | _ => ("OvertureDesk$NoteList", "count", "I", false)
def aT5 : u_T := fun k => match k with
  | 0 => ("OvertureDesk$Rendering", "codes", "[J", true)
  | 1 => ("OvertureDesk$Rendering", "spare", "[J", true)
  | _ => ("OvertureDesk$Rendering", "count", "I", false)
def aT6 : u_T := fun k => match k with
  | 0 => ("OvertureDesk$Song", "notes", "LOvertureDesk$NoteList;", true)
  | 1 => ("OvertureDesk$Song", "tracks", "LOvertureDesk$TrackSet;", true)
  | 2 => ("OvertureDesk$Song", "speeds", "LOvertureDesk$SpeedMap;", true)
  | 3 => ("OvertureDesk$Song", "meters", "LOvertureDesk$MeterMap;", true)
  | _ => ("OvertureDesk$Song", "loop", "LOvertureDesk$Loop;", true)
def aT7 : u_T := fun k => match k with
  | _ => ("OvertureDesk$SpeedMap", "marks", "LOvertureDesk$Marks;", true)
def aT8 : u_T := fun k => match k with
  | 0 => ("OvertureDesk$TrackSet", "marks", "[I", true)
  | 1 => ("OvertureDesk$TrackSet", "shifts", "[I", true)
  | _ => ("OvertureDesk$TrackSet", "delays", "[I", true)
def aT9 : u_T := fun k => match k with
  | 0 => ("OvertureDesk", "song", "LOvertureDesk$Song;", true)
  | 1 => ("OvertureDesk", "history", "LOvertureDesk$History;", true)
  | 2 => ("OvertureDesk", "clipboard", "LOvertureDesk$NoteList;", true)
  | 3 => ("OvertureDesk", "rendering", "LOvertureDesk$Rendering;", true)
  | _ => ("OvertureDesk", "isGroupOpen", "Z", false)
def aT10 : u_T := fun k => match k with
  | 0 => ("OvertureDeskModel", "thrown", "I", false)
  | 1 => ("OvertureDeskModel", "all", "[I", false)
  | 2 => ("OvertureDeskModel", "before", "[I", true)
  | 3 => ("OvertureDeskModel", "undone", "[[I", true)
  | 4 => ("OvertureDeskModel", "redone", "[[I", true)
  | 5 => ("OvertureDeskModel", "undos", "I", false)
  | 6 => ("OvertureDeskModel", "redos", "I", false)
  | 7 => ("OvertureDeskModel", "isOpen", "Z", false)
  | 8 => ("OvertureDeskModel", "opened", "[I", true)
  | 9 => ("OvertureDeskModel", "clips", "I", false)
  | 10 => ("OvertureDeskModel", "clip", "[I", true)
  | 11 => ("OvertureDeskModel", "played", "[[I", true)
  | 12 => ("OvertureDeskModel", "plays", "I", false)
  | 13 => ("OvertureDeskModel", "rows", "[J", true)
  | _ => ("OvertureDeskModel", "sum", "J", false)
def aT11 : u_T := fun _ => ("", "", "", false)
abbrev aCl : List vw_C := [("OvertureDesk$History", aT0, 4), ("OvertureDesk$Loop", aT1, 3), ("OvertureDesk$Marks", aT2, 4), ("OvertureDesk$MeterMap", aT3, 1), ("OvertureDesk$NoteList", aT4, 2), ("OvertureDesk$Rendering", aT5, 3), ("OvertureDesk$Song", aT6, 5), ("OvertureDesk$SpeedMap", aT7, 1), ("OvertureDesk$TrackSet", aT8, 3), ("OvertureDesk", aT9, 5), ("OvertureDeskModel", aT10, 15)]
/-- the kinds of the fields, by class -/
def aFK : List (List Nat) := [[3, 0, 0, 0], [0, 0, 0], [3, 3, 3, 0], [3], [3, 0], [3, 3, 0], [3, 3, 3, 3, 3], [3], [3, 3, 3], [3, 3, 3, 3, 1], [0, 3, 3, 3, 3, 0, 0, 1, 3, 0, 3, 3, 0, 3, 2], []]
def aON : List String := ["OvertureDeskLaw", "OvertureDesk", "OvertureDesk$NoteCode", "OvertureDesk$EventCode", "OvertureDesk$History", "OvertureDesk$Loop", "OvertureDesk$Marks", "OvertureDesk$MeterMap", "OvertureDesk$NoteList", "OvertureDesk$Rendering", "OvertureDesk$Song", "OvertureDesk$SpeedMap", "OvertureDesk$TrackSet", "OvertureDeskModel", "java/lang/Math", "java/util/Arrays", "java/util/DualPivotQuicksort", "jdk/internal/util/ArraysSupport", "jdk/internal/misc/Unsafe", "java/lang/Long", "java/lang/Integer"]
/-- a method: name, bytes, locals, answer, handlers, parameters, kind (0 by receiver, 1 static, 2 constructor), its cells die with it, class of the receiver, own class, places of its words -/
abbrev aMR : Type := MethodName × ByteArray × Nat × Option FieldType × List (Nat × Nat × Nat × Nat) × Nat × Nat × Bool × Nat × Nat × (Nat × Nat × Nat × Nat)
def aMT_0 : List aMR := [(⟨"OvertureDeskLaw", "law", "([I)Z"⟩, code, 9, (some .boolean), [], 1, 1, false, 99, 0, (0, 0, 1000, 0)),
  (⟨"OvertureDeskLaw", "write", "(LOvertureDesk;IIIII[J)I"⟩, method_3_code, 8, (some .int), [(0, 16, 19, 13), (0, 16, 23, 15)], 7, 1, false, 99, 0, (3064, 3063, 1000, 0)),
  (⟨"OvertureDeskLaw", "remove", "(LOvertureDesk;I[J)I"⟩, method_4_code, 4, (some .int), [(0, 9, 12, 21)], 3, 1, false, 99, 0, (4002, 4001, 1000, 0)),
  (⟨"OvertureDeskLaw", "split", "(LOvertureDesk;II[J)I"⟩, method_5_code, 5, (some .int), [(0, 10, 13, 21), (0, 10, 17, 13), (0, 10, 21, 15)], 4, 1, false, 99, 0, (4035, 4034, 1000, 0)),
  (⟨"OvertureDeskLaw", "transpose", "(LOvertureDesk;IIII[J)I"⟩, method_6_code, 7, (some .int), [(0, 14, 17, 13), (0, 14, 21, 15)], 6, 1, false, 99, 0, (4050, 4049, 1000, 0)),
  (⟨"OvertureDeskLaw", "weigh", "(LOvertureDesk;IIII[J)I"⟩, method_7_code, 7, (some .int), [(0, 14, 17, 13)], 6, 1, false, 99, 0, (4076, 4075, 1000, 0)),
  (⟨"OvertureDeskLaw", "quantise", "(LOvertureDesk;IIIIII[J)I"⟩, method_8_code, 9, (some .int), [(0, 18, 21, 13)], 8, 1, false, 99, 0, (4090, 4089, 1000, 0)),
  (⟨"OvertureDeskLaw", "copy", "(LOvertureDesk;III[J)I"⟩, method_9_code, 6, (some .int), [(0, 12, 15, 13)], 5, 1, false, 99, 0, (4099, 4098, 1000, 0)),
  (⟨"OvertureDeskLaw", "paste", "(LOvertureDesk;I[J)I"⟩, method_10_code, 4, (some .int), [(0, 9, 12, 13), (0, 9, 15, 15)], 3, 1, false, 99, 0, (4111, 4110, 1000, 0)),
  (⟨"OvertureDeskLaw", "note", "(LOvertureDesk;II[J)I"⟩, method_11_code, 5, (some .int), [(0, 10, 13, 21), (0, 10, 17, 13)], 4, 1, false, 99, 0, (4120, 4119, 1000, 0)),
  (⟨"OvertureDeskLaw", "setTrack", "(LOvertureDesk;IZZII[J)I"⟩, method_12_code, 8, (some .int), [(0, 16, 19, 21), (0, 16, 23, 13)], 7, 1, false, 99, 0, (4128, 4127, 1000, 0)),
  (⟨"OvertureDeskLaw", "setSpeed", "(LOvertureDesk;II[J)I"⟩, method_13_code, 5, (some .int), [(0, 10, 13, 13), (0, 10, 17, 15)], 4, 1, false, 99, 0, (4142, 4141, 1000, 0)),
  (⟨"OvertureDeskLaw", "setMeter", "(LOvertureDesk;III[J)I"⟩, method_14_code, 6, (some .int), [(0, 12, 15, 13), (0, 12, 19, 15)], 5, 1, false, 99, 0, (4179, 4178, 1000, 0)),
  (⟨"OvertureDeskLaw", "setLoop", "(LOvertureDesk;III[J)I"⟩, method_15_code, 6, (some .int), [(0, 12, 15, 13)], 5, 1, false, 99, 0, (4189, 4188, 1000, 0)),
  (⟨"OvertureDeskLaw", "openGroup", "(LOvertureDesk;[J)I"⟩, method_16_code, 3, (some .int), [(0, 8, 11, 15)], 2, 1, false, 99, 0, (4198, 4197, 1000, 0)),
  (⟨"OvertureDeskLaw", "closeGroup", "(LOvertureDesk;[J)I"⟩, method_17_code, 3, (some .int), [(0, 15, 18, 15)], 2, 1, false, 99, 0, (4206, 4205, 1000, 0)),
  (⟨"OvertureDeskLaw", "undo", "(LOvertureDesk;[J)I"⟩, method_18_code, 3, (some .int), [(0, 8, 11, 15)], 2, 1, false, 99, 0, (4214, 4213, 1000, 0)),
  (⟨"OvertureDeskLaw", "redo", "(LOvertureDesk;[J)I"⟩, method_19_code, 3, (some .int), [(0, 8, 11, 15)], 2, 1, false, 99, 0, (4230, 4229, 1000, 0)),
  (⟨"OvertureDeskLaw", "timeOf", "(LOvertureDesk;I[J)I"⟩, method_20_code, 4, (some .int), [(0, 9, 12, 13)], 3, 1, false, 99, 0, (5002, 5001, 1000, 0)),
  (⟨"OvertureDeskLaw", "tickOf", "(LOvertureDesk;I[J)I"⟩, method_21_code, 4, (some .int), [(0, 9, 12, 13)], 3, 1, false, 99, 0, (5013, 5012, 1000, 0)),
  (⟨"OvertureDeskLaw", "barOf", "(LOvertureDesk;I[J)I"⟩, method_22_code, 4, (some .int), [(0, 9, 12, 13)], 3, 1, false, 99, 0, (5021, 5020, 1000, 0)),
  (⟨"OvertureDeskLaw", "beatOf", "(LOvertureDesk;I[J)I"⟩, method_23_code, 4, (some .int), [(0, 9, 12, 13)], 3, 1, false, 99, 0, (5028, 5027, 1000, 0)),
  (⟨"OvertureDeskLaw", "tickOfBar", "(LOvertureDesk;I[J)I"⟩, method_24_code, 4, (some .int), [(0, 9, 12, 13)], 3, 1, false, 99, 0, (5035, 5034, 1000, 0)),
  (⟨"OvertureDeskLaw", "chordAt", "(LOvertureDesk;I[J)I"⟩, method_25_code, 4, (some .int), [(0, 9, 12, 13)], 3, 1, false, 99, 0, (5043, 5042, 1000, 0)),
  (⟨"OvertureDeskLaw", "event", "(LOvertureDesk;II[J)I"⟩, method_26_code, 5, (some .int), [(0, 10, 13, 21), (0, 10, 17, 13)], 4, 1, false, 99, 0, (5050, 5049, 1000, 0)),
  (⟨"OvertureDeskLaw", "sounding", "(LOvertureDesk;I[J)I"⟩, method_27_code, 4, (some .int), [(0, 9, 12, 13)], 3, 1, false, 99, 0, (5059, 5058, 1000, 0)),
  (⟨"OvertureDeskLaw", "wouldMove", "(LOvertureDesk;IIII[J)I"⟩, method_28_code, 7, (some .int), [(0, 14, 17, 13)], 6, 1, false, 99, 0, (5070, 5069, 1000, 0)),
  (⟨"OvertureDeskLaw", "eventsAlone", "(LOvertureDesk;I[J)I"⟩, method_29_code, 4, (some .int), [(0, 9, 12, 21)], 3, 1, false, 99, 0, (5077, 5076, 1000, 0)),
  (⟨"OvertureDeskLaw", "bestStep", "(LOvertureDesk;III[J)I"⟩, method_30_code, 6, (some .int), [(0, 12, 15, 13)], 5, 1, false, 99, 0, (5084, 5083, 1000, 0)),
  (⟨"OvertureDesk", "putInt", "([III)V"⟩, prog_1_method_55_code, 3, none, [], 3, 1, false, 9, 1, (1100, 1099, 1001, 0)),
  (⟨"OvertureDesk", "longAt", "([JI)J"⟩, prog_1_method_56_code, 2, (some .long), [], 2, 1, false, 9, 1, (2029, 2028, 1001, 0)),
  (⟨"OvertureDesk", "intAt", "([II)I"⟩, prog_1_method_54_code, 2, (some .int), [], 2, 1, false, 9, 1, (2066, 2065, 1001, 0)),
  (⟨"OvertureDesk", "putLong", "([JIJ)V"⟩, prog_1_method_57_code, 4, none, [], 3, 1, false, 9, 1, (2122, 2121, 1001, 0)),
  (⟨"OvertureDesk", "isWithin", "(III)Z"⟩, prog_1_method_48_code, 3, (some .boolean), [], 3, 1, false, 9, 1, (2085, 2084, 1001, 0)),
  (⟨"OvertureDesk", "<init>", "()V"⟩, prog_1_method_1_code, 1, none, [], 0, 2, false, 9, 1, (1041, 1040, 1001, 0)),
  (⟨"OvertureDesk", "isTrack", "(I)Z"⟩, prog_1_method_49_code, 1, (some .boolean), [], 1, 1, false, 9, 1, (3073, 3072, 1001, 0)),
  (⟨"OvertureDesk", "isTick", "(I)Z"⟩, prog_1_method_50_code, 1, (some .boolean), [], 1, 1, false, 9, 1, (3060, 3059, 1001, 0)),
  (⟨"OvertureDesk", "settle", "()V"⟩, prog_1_method_42_code, 1, none, [], 0, 0, false, 9, 1, (3182, 3181, 1001, 18)),
  (⟨"OvertureDesk", "write", "(IIIII)I"⟩, prog_1_method_2_code, 7, (some .int), [], 5, 0, false, 9, 1, (3070, 3068, 1001, 3069)),
  (⟨"OvertureDesk", "remove", "(I)I"⟩, prog_1_method_3_code, 2, (some .int), [], 1, 0, false, 9, 1, (4007, 4005, 1001, 4006))]
def aMT_1 : List aMR := [(⟨"OvertureDesk", "split", "(II)I"⟩, prog_1_method_4_code, 7, (some .int), [], 2, 0, false, 9, 1, (4039, 4037, 1001, 4038)),
  (⟨"OvertureDesk", "isStretch", "(II)Z"⟩, prog_1_method_52_code, 2, (some .boolean), [], 2, 1, false, 9, 1, (4060, 4059, 1001, 0)),
  (⟨"OvertureDesk", "isRange", "(III)Z"⟩, prog_1_method_53_code, 3, (some .boolean), [], 3, 1, false, 9, 1, (4057, 4056, 1001, 0)),
  (⟨"OvertureDesk", "canTranspose", "(IIII)Z"⟩, prog_1_method_43_code, 8, (some .boolean), [], 4, 0, false, 9, 1, (4065, 4064, 1001, 20)),
  (⟨"OvertureDesk", "transpose", "(IIII)I"⟩, prog_1_method_5_code, 9, (some .int), [], 4, 0, false, 9, 1, (4054, 4052, 1001, 4053)),
  (⟨"OvertureDesk", "weigh", "(IIII)I"⟩, prog_1_method_6_code, 10, (some .int), [], 4, 0, false, 9, 1, (4080, 4078, 1001, 4079)),
  (⟨"OvertureDesk", "nearestLine", "(III)I"⟩, prog_1_method_47_code, 10, (some .int), [], 3, 1, false, 9, 1, (3054, 3053, 1001, 0)),
  (⟨"OvertureDesk", "drawnStart", "(IIII)I"⟩, prog_1_method_46_code, 4, (some .int), [], 4, 1, false, 9, 1, (3051, 3050, 1001, 0)),
  (⟨"OvertureDesk", "quantise", "(IIIIII)I"⟩, prog_1_method_7_code, 13, (some .int), [], 6, 0, false, 9, 1, (4094, 4092, 1001, 4093)),
  (⟨"OvertureDesk", "copy", "(III)I"⟩, prog_1_method_8_code, 7, (some .int), [], 3, 0, false, 9, 1, (4103, 4101, 1001, 4102)),
  (⟨"OvertureDesk", "paste", "(I)I"⟩, prog_1_method_9_code, 7, (some .int), [], 1, 0, false, 9, 1, (4115, 4113, 1001, 4114)),
  (⟨"OvertureDesk", "notes", "()I"⟩, prog_1_method_10_code, 1, (some .int), [], 0, 0, false, 9, 1, (2002, 2000, 1001, 2001)),
  (⟨"OvertureDesk", "note", "(II)I"⟩, prog_1_method_11_code, 3, (some .int), [], 2, 0, false, 9, 1, (4124, 4122, 1001, 4123)),
  (⟨"OvertureDesk", "setTrack", "(IZZII)I"⟩, prog_1_method_12_code, 7, (some .int), [], 5, 0, false, 9, 1, (4132, 4130, 1001, 4131)),
  (⟨"OvertureDesk", "setSpeed", "(II)I"⟩, prog_1_method_13_code, 4, (some .int), [], 2, 0, false, 9, 1, (4146, 4144, 1001, 4145)),
  (⟨"OvertureDesk", "setMeter", "(III)I"⟩, prog_1_method_14_code, 5, (some .int), [], 3, 0, false, 9, 1, (4183, 4181, 1001, 4182)),
  (⟨"OvertureDesk", "setLoop", "(III)I"⟩, prog_1_method_15_code, 5, (some .int), [], 3, 0, false, 9, 1, (4193, 4191, 1001, 4192)),
  (⟨"OvertureDesk", "openGroup", "()I"⟩, prog_1_method_16_code, 1, (some .int), [], 0, 0, false, 9, 1, (4202, 4200, 1001, 4201)),
  (⟨"OvertureDesk", "closeGroup", "()Z"⟩, prog_1_method_17_code, 1, (some .boolean), [], 0, 0, false, 9, 1, (4210, 4208, 1001, 4209)),
  (⟨"OvertureDesk", "undo", "()I"⟩, prog_1_method_18_code, 1, (some .int), [], 0, 0, false, 9, 1, (4218, 4216, 1001, 4217)),
  (⟨"OvertureDesk", "redo", "()I"⟩, prog_1_method_19_code, 1, (some .int), [], 0, 0, false, 9, 1, (4234, 4232, 1001, 4233)),
  (⟨"OvertureDesk", "undos", "()I"⟩, prog_1_method_20_code, 1, (some .int), [], 0, 0, false, 9, 1, (2010, 2008, 1001, 2009)),
  (⟨"OvertureDesk", "redos", "()I"⟩, prog_1_method_21_code, 1, (some .int), [], 0, 0, false, 9, 1, (2014, 2012, 1001, 2013)),
  (⟨"OvertureDesk", "isFarTick", "(I)Z"⟩, prog_1_method_51_code, 1, (some .boolean), [], 1, 1, false, 9, 1, (5009, 5008, 1001, 0)),
  (⟨"OvertureDesk", "timeOf", "(I)I"⟩, prog_1_method_22_code, 2, (some .int), [], 1, 0, false, 9, 1, (5006, 5004, 1001, 5005)),
  (⟨"OvertureDesk", "tickOf", "(I)I"⟩, prog_1_method_23_code, 2, (some .int), [], 1, 0, false, 9, 1, (5017, 5015, 1001, 5016)),
  (⟨"OvertureDesk", "barOf", "(I)I"⟩, prog_1_method_24_code, 2, (some .int), [], 1, 0, false, 9, 1, (5025, 5023, 1001, 5024)),
  (⟨"OvertureDesk", "beatOf", "(I)I"⟩, prog_1_method_25_code, 2, (some .int), [], 1, 0, false, 9, 1, (5032, 5030, 1001, 5031)),
  (⟨"OvertureDesk", "tickOfBar", "(I)I"⟩, prog_1_method_26_code, 2, (some .int), [], 1, 0, false, 9, 1, (5039, 5037, 1001, 5038)),
  (⟨"OvertureDesk", "chordAt", "(I)I"⟩, prog_1_method_27_code, 6, (some .int), [], 1, 0, false, 9, 1, (5047, 5045, 1001, 5046)),
  (⟨"OvertureDesk", "clashes", "()I"⟩, prog_1_method_28_code, 1, (some .int), [], 0, 0, false, 9, 1, (2018, 2016, 1001, 2017)),
  (⟨"OvertureDesk", "events", "()I"⟩, prog_1_method_29_code, 1, (some .int), [], 0, 0, false, 9, 1, (2051, 2049, 1001, 2050)),
  (⟨"OvertureDesk", "event", "(II)I"⟩, prog_1_method_30_code, 3, (some .int), [], 2, 0, false, 9, 1, (5054, 5052, 1001, 5053)),
  (⟨"OvertureDesk", "sounding", "(I)I"⟩, prog_1_method_31_code, 2, (some .int), [], 1, 0, false, 9, 1, (5063, 5061, 1001, 5062)),
  (⟨"OvertureDesk", "most", "()I"⟩, prog_1_method_32_code, 1, (some .int), [], 0, 0, false, 9, 1, (2133, 2131, 1001, 2132)),
  (⟨"OvertureDesk", "playedTo", "()I"⟩, prog_1_method_33_code, 1, (some .int), [], 0, 0, false, 9, 1, (2157, 2155, 1001, 2156)),
  (⟨"OvertureDesk", "meanForce", "()D"⟩, prog_1_method_34_code, 1, (some .double), [], 0, 0, false, 9, 1, (2168, 2166, 1001, 2167)),
  (⟨"OvertureDesk", "countOffGrid", "(IIII)I"⟩, prog_1_method_44_code, 10, (some .int), [], 4, 0, false, 9, 1, (3044, 3043, 1001, 15)),
  (⟨"OvertureDesk", "wouldMove", "(IIII)I"⟩, prog_1_method_35_code, 5, (some .int), [], 4, 0, false, 9, 1, (5074, 5072, 1001, 5073)),
  (⟨"OvertureDesk", "eventsAlone", "(I)I"⟩, prog_1_method_36_code, 2, (some .int), [], 1, 0, false, 9, 1, (5081, 5079, 1001, 5080))]
def aMT_2 : List aMR := [(⟨"OvertureDesk", "fittingStep", "(III)I"⟩, prog_1_method_45_code, 8, (some .int), [], 3, 0, false, 9, 1, (3038, 3037, 1001, 14)),
  (⟨"OvertureDesk", "bestStep", "(III)I"⟩, prog_1_method_37_code, 4, (some .int), [], 3, 0, false, 9, 1, (5088, 5086, 1001, 5087)),
  (⟨"OvertureDesk", "add", "(JI)J"⟩, prog_1_method_39_code, 3, (some .long), [], 2, 1, false, 9, 1, (2187, 2186, 1001, 0)),
  (⟨"OvertureDesk", "addNotes", "(J)J"⟩, prog_1_method_40_code, 7, (some .long), [], 1, 0, false, 9, 1, (2184, 2183, 1001, 8)),
  (⟨"OvertureDesk", "addEvents", "(J)J"⟩, prog_1_method_41_code, 7, (some .long), [], 1, 0, false, 9, 1, (3023, 3022, 1001, 13)),
  (⟨"OvertureDesk", "digest", "()J"⟩, prog_1_method_38_code, 4, (some .long), [], 0, 0, false, 9, 1, (2179, 2177, 1001, 2178)),
  (⟨"OvertureDesk$NoteCode", "of", "(IIIII)J"⟩, prog_7_method_2_code, 5, (some .long), [], 5, 1, false, 99, 2, (2094, 2093, 1017, 0)),
  (⟨"OvertureDesk$NoteCode", "track", "(J)I"⟩, prog_7_method_3_code, 2, (some .int), [], 1, 1, false, 99, 2, (2035, 2034, 1017, 0)),
  (⟨"OvertureDesk$NoteCode", "start", "(J)I"⟩, prog_7_method_4_code, 2, (some .int), [], 1, 1, false, 99, 2, (2041, 2040, 1017, 0)),
  (⟨"OvertureDesk$NoteCode", "pitch", "(J)I"⟩, prog_7_method_5_code, 2, (some .int), [], 1, 1, false, 99, 2, (2038, 2037, 1017, 0)),
  (⟨"OvertureDesk$NoteCode", "length", "(J)I"⟩, prog_7_method_6_code, 2, (some .int), [], 1, 1, false, 99, 2, (2047, 2046, 1017, 0)),
  (⟨"OvertureDesk$NoteCode", "force", "(J)I"⟩, prog_7_method_7_code, 2, (some .int), [], 1, 1, false, 99, 2, (2091, 2090, 1017, 0)),
  (⟨"OvertureDesk$NoteCode", "end", "(J)I"⟩, prog_7_method_8_code, 2, (some .int), [], 1, 1, false, 99, 2, (2044, 2043, 1017, 0)),
  (⟨"OvertureDesk$NoteCode", "withStart", "(JI)J"⟩, prog_7_method_9_code, 3, (some .long), [], 2, 1, false, 99, 2, (4047, 4046, 1017, 0)),
  (⟨"OvertureDesk$NoteCode", "withLength", "(JI)J"⟩, prog_7_method_10_code, 3, (some .long), [], 2, 1, false, 99, 2, (4044, 4043, 1017, 0)),
  (⟨"OvertureDesk$NoteCode", "withPitch", "(JI)J"⟩, prog_7_method_11_code, 3, (some .long), [], 2, 1, false, 99, 2, (2088, 2087, 1017, 0)),
  (⟨"OvertureDesk$NoteCode", "withForce", "(JI)J"⟩, prog_7_method_12_code, 3, (some .long), [], 2, 1, false, 99, 2, (4087, 4086, 1017, 0)),
  (⟨"OvertureDesk$NoteCode", "isIn", "(JIII)Z"⟩, prog_7_method_13_code, 5, (some .boolean), [], 4, 1, false, 99, 2, (3048, 3047, 1017, 0)),
  (⟨"OvertureDesk$NoteCode", "isClash", "(JJ)Z"⟩, prog_7_method_14_code, 4, (some .boolean), [], 2, 1, false, 99, 2, (2032, 2031, 1017, 0)),
  (⟨"OvertureDesk$NoteCode", "fact", "(JI)I"⟩, prog_7_method_15_code, 3, (some .int), [], 2, 1, false, 99, 2, (2192, 2191, 1017, 0)),
  (⟨"OvertureDesk$EventCode", "of", "(IZIII)J"⟩, prog_2_method_2_code, 5, (some .long), [], 5, 1, false, 99, 3, (2119, 2118, 1035, 0)),
  (⟨"OvertureDesk$EventCode", "tick", "(J)I"⟩, prog_2_method_3_code, 2, (some .int), [], 1, 1, false, 99, 3, (2164, 2163, 1035, 0)),
  (⟨"OvertureDesk$EventCode", "isOn", "(J)Z"⟩, prog_2_method_4_code, 2, (some .boolean), [], 1, 1, false, 99, 3, (2153, 2152, 1035, 0)),
  (⟨"OvertureDesk$EventCode", "force", "(J)I"⟩, prog_2_method_5_code, 2, (some .int), [], 1, 1, false, 99, 3, (2175, 2174, 1035, 0)),
  (⟨"OvertureDesk$EventCode", "fact", "(JI)I"⟩, prog_2_method_6_code, 3, (some .int), [], 2, 1, false, 99, 3, (3027, 3026, 1035, 0)),
  (⟨"OvertureDesk$History", "<init>", "()V"⟩, prog_3_method_1_code, 2, none, [], 0, 2, false, 0, 4, (1185, 1184, 1009, 0)),
  (⟨"OvertureDesk$History", "songAt", "(I)LOvertureDesk$Song;"⟩, prog_3_method_6_code, 2, (some (.object "OvertureDesk$Song")), [], 1, 0, false, 0, 4, (3190, 3189, 1009, 19)),
  (⟨"OvertureDesk$History", "keep", "(LOvertureDesk$Song;)Z"⟩, prog_3_method_2_code, 4, (some .boolean), [], 1, 0, false, 0, 4, (3186, 3184, 1009, 3185)),
  (⟨"OvertureDesk$History", "step", "(ILOvertureDesk$Song;)V"⟩, prog_3_method_5_code, 4, none, [], 2, 0, false, 0, 4, (4227, 4226, 1009, 23)),
  (⟨"OvertureDesk$History", "stepBack", "(LOvertureDesk$Song;)V"⟩, prog_3_method_3_code, 2, none, [], 1, 0, false, 0, 4, (4223, 4221, 1009, 4222)),
  (⟨"OvertureDesk$History", "stepAhead", "(LOvertureDesk$Song;)V"⟩, prog_3_method_4_code, 2, none, [], 1, 0, false, 0, 4, (4239, 4237, 1009, 4238)),
  (⟨"OvertureDesk$Loop", "<init>", "()V"⟩, prog_4_method_1_code, 1, none, [], 0, 2, false, 1, 5, (1138, 1137, 1008, 0)),
  (⟨"OvertureDesk$Loop", "isLike", "(LOvertureDesk$Loop;)Z"⟩, prog_4_method_3_code, 2, (some .boolean), [], 1, 0, false, 1, 5, (3214, 3212, 1008, 3213)),
  (⟨"OvertureDesk$Loop", "put", "(III)V"⟩, prog_4_method_2_code, 4, none, [], 3, 0, false, 1, 5, (3239, 3237, 1008, 3238)),
  (⟨"OvertureDesk$Marks", "putAll", "(IIII)V"⟩, prog_5_method_2_code, 5, none, [], 4, 0, false, 2, 6, (1097, 1096, 1006, 0)),
  (⟨"OvertureDesk$Marks", "<init>", "(II)V"⟩, prog_5_method_1_code, 3, none, [], 2, 2, false, 2, 6, (1092, 1091, 1006, 0)),
  (⟨"OvertureDesk$Marks", "placeAt", "(I)I"⟩, prog_5_method_5_code, 2, (some .int), [], 1, 0, false, 2, 6, (2204, 2202, 1006, 2203)),
  (⟨"OvertureDesk$Marks", "firstAt", "(I)I"⟩, prog_5_method_6_code, 2, (some .int), [], 1, 0, false, 2, 6, (2210, 2208, 1006, 2209)),
  (⟨"OvertureDesk$Marks", "secondAt", "(I)I"⟩, prog_5_method_7_code, 2, (some .int), [], 1, 0, false, 2, 6, (3002, 3000, 1006, 3001)),
  (⟨"OvertureDesk$Marks", "isLike", "(LOvertureDesk$Marks;)Z"⟩, prog_5_method_15_code, 3, (some .boolean), [], 1, 0, false, 2, 6, (3208, 3206, 1006, 3207))]
def aMT_3 : List aMR := [(⟨"OvertureDesk$Marks", "takeFrom", "(LOvertureDesk$Marks;)V"⟩, prog_5_method_14_code, 3, none, [], 1, 0, false, 2, 6, (3235, 3233, 1006, 3234)),
  (⟨"OvertureDesk$Marks", "move", "(II)V"⟩, prog_5_method_3_code, 3, none, [], 2, 0, false, 2, 6, (4170, 4169, 1006, 22)),
  (⟨"OvertureDesk$Marks", "size", "()I"⟩, prog_5_method_4_code, 1, (some .int), [], 0, 0, false, 2, 6, (2200, 2198, 1006, 2199)),
  (⟨"OvertureDesk$Marks", "lastUpTo", "(I)I"⟩, prog_5_method_8_code, 4, (some .int), [], 1, 0, false, 2, 6, (3018, 3016, 1006, 3017)),
  (⟨"OvertureDesk$Marks", "beginsAt", "(I)Z"⟩, prog_5_method_9_code, 2, (some .boolean), [], 1, 0, false, 2, 6, (4155, 4154, 1006, 21)),
  (⟨"OvertureDesk$Marks", "canDrop", "(I)Z"⟩, prog_5_method_10_code, 2, (some .boolean), [], 1, 0, false, 2, 6, (4151, 4149, 1006, 4150)),
  (⟨"OvertureDesk$Marks", "canPut", "(I)Z"⟩, prog_5_method_11_code, 2, (some .boolean), [], 1, 0, false, 2, 6, (4160, 4158, 1006, 4159)),
  (⟨"OvertureDesk$Marks", "drop", "(I)V"⟩, prog_5_method_12_code, 3, none, [], 1, 0, false, 2, 6, (4165, 4163, 1006, 4164)),
  (⟨"OvertureDesk$Marks", "put", "(III)V"⟩, prog_5_method_13_code, 6, none, [], 3, 0, false, 2, 6, (4174, 4172, 1006, 4173)),
  (⟨"OvertureDesk$MeterMap", "<init>", "()V"⟩, prog_6_method_1_code, 1, none, [], 0, 2, false, 3, 7, (1124, 1123, 1007, 0)),
  (⟨"OvertureDesk$MeterMap", "beatLength", "(I)I"⟩, prog_6_method_2_code, 3, (some .int), [], 1, 0, false, 3, 7, (2238, 2237, 1007, 11)),
  (⟨"OvertureDesk$MeterMap", "barLength", "(I)I"⟩, prog_6_method_3_code, 2, (some .int), [], 1, 0, false, 3, 7, (2232, 2231, 1007, 10)),
  (⟨"OvertureDesk$MeterMap", "startOf", "(I)I"⟩, prog_6_method_4_code, 4, (some .int), [], 1, 0, false, 3, 7, (3006, 3005, 1007, 12)),
  (⟨"OvertureDesk$MeterMap", "meterAt", "(I)I"⟩, prog_6_method_5_code, 5, (some .int), [], 1, 0, false, 3, 7, (2226, 2225, 1007, 9)),
  (⟨"OvertureDesk$MeterMap", "barAt", "(I)I"⟩, prog_6_method_6_code, 5, (some .int), [], 1, 0, false, 3, 7, (2222, 2220, 1007, 2221)),
  (⟨"OvertureDesk$MeterMap", "beatAt", "(I)I"⟩, prog_6_method_7_code, 5, (some .int), [], 1, 0, false, 3, 7, (3010, 3008, 1007, 3009)),
  (⟨"OvertureDesk$MeterMap", "startOfBar", "(I)I"⟩, prog_6_method_8_code, 3, (some .int), [], 1, 0, false, 3, 7, (3014, 3012, 1007, 3013)),
  (⟨"OvertureDesk$NoteList", "<init>", "()V"⟩, prog_8_method_1_code, 1, none, [], 0, 2, false, 4, 8, (1055, 1054, 1003, 0)),
  (⟨"OvertureDesk$NoteList", "codeAt", "(I)J"⟩, prog_8_method_5_code, 2, (some .long), [], 1, 0, false, 4, 8, (2026, 2024, 1003, 2025)),
  (⟨"OvertureDesk$NoteList", "isLike", "(LOvertureDesk$NoteList;)Z"⟩, prog_8_method_14_code, 3, (some .boolean), [], 1, 0, false, 4, 8, (3198, 3196, 1003, 3197)),
  (⟨"OvertureDesk$NoteList", "put", "(IJ)V"⟩, prog_8_method_6_code, 4, none, [], 2, 0, false, 4, 8, (3173, 3171, 1003, 3172)),
  (⟨"OvertureDesk$NoteList", "takeFrom", "(LOvertureDesk$NoteList;)V"⟩, prog_8_method_13_code, 3, none, [], 1, 0, false, 4, 8, (3226, 3224, 1003, 3225)),
  (⟨"OvertureDesk$NoteList", "size", "()I"⟩, prog_8_method_2_code, 1, (some .int), [], 0, 0, false, 4, 8, (2006, 2004, 1003, 2005)),
  (⟨"OvertureDesk$NoteList", "room", "()I"⟩, prog_8_method_3_code, 1, (some .int), [], 0, 0, false, 4, 8, (3147, 3145, 1003, 3146)),
  (⟨"OvertureDesk$NoteList", "has", "(I)Z"⟩, prog_8_method_4_code, 2, (some .boolean), [], 1, 0, false, 4, 8, (4011, 4009, 1003, 4010)),
  (⟨"OvertureDesk$NoteList", "sink", "(I)I"⟩, prog_8_method_11_code, 5, (some .int), [], 1, 0, false, 4, 8, (3178, 3177, 1003, 17)),
  (⟨"OvertureDesk$NoteList", "insert", "(J)I"⟩, prog_8_method_7_code, 3, (some .int), [], 1, 0, false, 4, 8, (3168, 3166, 1003, 3167)),
  (⟨"OvertureDesk$NoteList", "drop", "(I)V"⟩, prog_8_method_8_code, 3, none, [], 1, 0, false, 4, 8, (4031, 4029, 1003, 4030)),
  (⟨"OvertureDesk$NoteList", "clear", "()V"⟩, prog_8_method_9_code, 1, none, [], 0, 0, false, 4, 8, (4108, 4106, 1003, 4107)),
  (⟨"OvertureDesk$NoteList", "sort", "()V"⟩, prog_8_method_10_code, 2, none, [], 0, 0, false, 4, 8, (4073, 4071, 1003, 4072)),
  (⟨"OvertureDesk$NoteList", "countClashes", "()I"⟩, prog_8_method_12_code, 4, (some .int), [], 0, 0, false, 4, 8, (2022, 2020, 1003, 2021)),
  (⟨"OvertureDesk$Rendering", "<init>", "()V"⟩, prog_9_method_1_code, 1, none, [], 0, 2, false, 5, 9, (1211, 1210, 1010, 0)),
  (⟨"OvertureDesk$Rendering", "size", "()I"⟩, prog_9_method_2_code, 1, (some .int), [], 0, 0, false, 5, 9, (2129, 2127, 1010, 2128)),
  (⟨"OvertureDesk$Rendering", "codeAt", "(I)J"⟩, prog_9_method_3_code, 2, (some .long), [], 1, 0, false, 5, 9, (2145, 2143, 1010, 2144)),
  (⟨"OvertureDesk$Rendering", "addEvent", "(JIZ)V"⟩, prog_9_method_9_code, 5, none, [], 3, 0, false, 5, 9, (2115, 2114, 1010, 6)),
  (⟨"OvertureDesk$Rendering", "addOnce", "(JII)V"⟩, prog_9_method_8_code, 6, none, [], 3, 0, false, 5, 9, (2108, 2107, 1010, 5)),
  (⟨"OvertureDesk$Rendering", "addNote", "(JLOvertureDesk$Loop;I)V"⟩, prog_9_method_7_code, 9, none, [], 3, 0, false, 5, 9, (2102, 2101, 1010, 4)),
  (⟨"OvertureDesk$Rendering", "addTrack", "(LOvertureDesk$Song;I)V"⟩, prog_9_method_6_code, 7, none, [], 2, 0, false, 5, 9, (2074, 2073, 1010, 3)),
  (⟨"OvertureDesk$Rendering", "play", "(LOvertureDesk$Song;)V"⟩, prog_9_method_4_code, 3, none, [], 1, 0, false, 5, 9, (2055, 2053, 1010, 2054)),
  (⟨"OvertureDesk$Rendering", "playTrack", "(LOvertureDesk$Song;I)V"⟩, prog_9_method_5_code, 3, none, [], 2, 0, false, 5, 9, (3034, 3032, 1010, 3033))]
def aMT_4 : List aMR := [(⟨"OvertureDesk$Rendering", "merge", "(III)V"⟩, prog_9_method_11_code, 7, none, [], 3, 0, false, 5, 9, (2141, 2140, 1010, 7)),
  (⟨"OvertureDesk$Rendering", "sort", "()V"⟩, prog_9_method_10_code, 4, none, [], 0, 0, false, 5, 9, (2137, 2135, 1010, 2136)),
  (⟨"OvertureDesk$Rendering", "countAt", "(I)I"⟩, prog_9_method_12_code, 4, (some .int), [], 1, 0, false, 5, 9, (5067, 5065, 1010, 5066)),
  (⟨"OvertureDesk$Rendering", "greatestCount", "()I"⟩, prog_9_method_13_code, 4, (some .int), [], 0, 0, false, 5, 9, (2150, 2148, 1010, 2149)),
  (⟨"OvertureDesk$Rendering", "lastTick", "()I"⟩, prog_9_method_14_code, 3, (some .int), [], 0, 0, false, 5, 9, (2161, 2159, 1010, 2160)),
  (⟨"OvertureDesk$Rendering", "meanOfForces", "()D"⟩, prog_9_method_15_code, 4, (some .double), [], 0, 0, false, 5, 9, (2172, 2170, 1010, 2171)),
  (⟨"OvertureDesk$Song", "<init>", "()V"⟩, prog_10_method_1_code, 1, none, [], 0, 2, false, 6, 10, (1049, 1048, 1002, 0)),
  (⟨"OvertureDesk$Song", "isLike", "(LOvertureDesk$Song;)Z"⟩, prog_10_method_3_code, 2, (some .boolean), [], 1, 0, false, 6, 10, (3194, 3192, 1002, 3193)),
  (⟨"OvertureDesk$Song", "takeFrom", "(LOvertureDesk$Song;)V"⟩, prog_10_method_2_code, 2, none, [], 1, 0, false, 6, 10, (3222, 3220, 1002, 3221)),
  (⟨"OvertureDesk$SpeedMap", "<init>", "()V"⟩, prog_11_method_1_code, 1, none, [], 0, 2, false, 7, 11, (1086, 1085, 1005, 0)),
  (⟨"OvertureDesk$SpeedMap", "timeAt", "(I)I"⟩, prog_11_method_2_code, 8, (some .int), [], 1, 0, false, 7, 11, (2196, 2194, 1005, 2195)),
  (⟨"OvertureDesk$SpeedMap", "tickAt", "(I)I"⟩, prog_11_method_3_code, 5, (some .int), [], 1, 0, false, 7, 11, (2216, 2214, 1005, 2215)),
  (⟨"OvertureDesk$TrackSet", "<init>", "()V"⟩, prog_12_method_1_code, 1, none, [], 0, 2, false, 8, 12, (1069, 1068, 1004, 0)),
  (⟨"OvertureDesk$TrackSet", "shiftOf", "(I)I"⟩, prog_12_method_3_code, 2, (some .int), [], 1, 0, false, 8, 12, (2081, 2079, 1004, 2080)),
  (⟨"OvertureDesk$TrackSet", "delayOf", "(I)I"⟩, prog_12_method_4_code, 2, (some .int), [], 1, 0, false, 8, 12, (2098, 2096, 1004, 2097)),
  (⟨"OvertureDesk$TrackSet", "isLike", "(LOvertureDesk$TrackSet;)Z"⟩, prog_12_method_9_code, 3, (some .boolean), [], 1, 0, false, 8, 12, (3202, 3200, 1004, 3201)),
  (⟨"OvertureDesk$TrackSet", "takeFrom", "(LOvertureDesk$TrackSet;)V"⟩, prog_12_method_8_code, 3, none, [], 1, 0, false, 8, 12, (3230, 3228, 1004, 3229)),
  (⟨"OvertureDesk$TrackSet", "isMarked", "(II)Z"⟩, prog_12_method_5_code, 3, (some .boolean), [], 2, 0, false, 8, 12, (2063, 2062, 1004, 1)),
  (⟨"OvertureDesk$TrackSet", "isAnyAlone", "()Z"⟩, prog_12_method_6_code, 2, (some .boolean), [], 0, 0, false, 8, 12, (2070, 2069, 1004, 2)),
  (⟨"OvertureDesk$TrackSet", "isHeard", "(I)Z"⟩, prog_12_method_7_code, 2, (some .boolean), [], 1, 0, false, 8, 12, (2059, 2057, 1004, 2058)),
  (⟨"OvertureDesk$TrackSet", "put", "(IZZII)V"⟩, prog_12_method_2_code, 6, none, [], 5, 0, false, 8, 12, (4139, 4137, 1004, 4138)),
  (⟨"OvertureDeskModel", "<init>", "()V"⟩, prog_14_method_1_code, 1, none, [], 0, 2, false, 10, 13, (5093, 5092, 1011, 0)),
  (⟨"OvertureDeskModel", "thrown", "()I"⟩, prog_14_method_2_code, 1, (some .int), [], 0, 0, false, 10, 13, (5146, 5144, 1011, 5145)),
  (⟨"OvertureDeskModel", "refuse", "(I)I"⟩, prog_14_method_3_code, 2, (some .int), [], 1, 0, false, 10, 13, (5154, 5153, 1011, 24)),
  (⟨"OvertureDeskModel", "is", "(III)Z"⟩, prog_14_method_4_code, 3, (some .boolean), [], 3, 1, false, 10, 13, (6064, 6063, 1011, 0)),
  (⟨"OvertureDeskModel", "isTrack", "(I)Z"⟩, prog_14_method_5_code, 1, (some .boolean), [], 1, 1, false, 10, 13, (6061, 6060, 1011, 0)),
  (⟨"OvertureDeskModel", "isRange", "(III)Z"⟩, prog_14_method_6_code, 3, (some .boolean), [], 3, 1, false, 10, 13, (7150, 7149, 1011, 0)),
  (⟨"OvertureDeskModel", "begin", "()V"⟩, prog_14_method_7_code, 1, none, [], 0, 0, false, 10, 13, (6058, 6057, 1011, 26)),
  (⟨"OvertureDeskModel", "push", "([[II[I)I"⟩, prog_14_method_8_code, 4, (some .int), [], 3, 1, false, 10, 13, (6033, 6032, 1011, 0)),
  (⟨"OvertureDeskModel", "isChange", "([I)Z"⟩, prog_14_method_9_code, 2, (some .boolean), [], 1, 0, false, 10, 13, (5165, 5164, 1011, 25)),
  (⟨"OvertureDeskModel", "done", "(I)I"⟩, prog_14_method_10_code, 2, (some .int), [], 1, 0, false, 10, 13, (6075, 6074, 1011, 28)),
  (⟨"OvertureDeskModel", "openGroup", "()I"⟩, prog_14_method_11_code, 1, (some .int), [], 0, 0, false, 10, 13, (5150, 5148, 1011, 5149)),
  (⟨"OvertureDeskModel", "closeGroup", "()Z"⟩, prog_14_method_12_code, 1, (some .boolean), [], 0, 0, false, 10, 13, (5161, 5159, 1011, 5160)),
  (⟨"OvertureDeskModel", "undo", "()I"⟩, prog_14_method_13_code, 1, (some .int), [], 0, 0, false, 10, 13, (6038, 6036, 1011, 6037)),
  (⟨"OvertureDeskModel", "redo", "()I"⟩, prog_14_method_14_code, 1, (some .int), [], 0, 0, false, 10, 13, (6042, 6040, 1011, 6041)),
  (⟨"OvertureDeskModel", "undos", "()I"⟩, prog_14_method_15_code, 1, (some .int), [], 0, 0, false, 10, 13, (6046, 6044, 1011, 6045)),
  (⟨"OvertureDeskModel", "redos", "()I"⟩, prog_14_method_16_code, 1, (some .int), [], 0, 0, false, 10, 13, (6050, 6048, 1011, 6049)),
  (⟨"OvertureDeskModel", "at", "(II)I"⟩, prog_14_method_17_code, 3, (some .int), [], 2, 0, false, 10, 13, (7120, 7119, 1011, 31)),
  (⟨"OvertureDeskModel", "set", "(III)V"⟩, prog_14_method_18_code, 4, none, [], 3, 0, false, 10, 13, (7128, 7127, 1011, 33)),
  (⟨"OvertureDeskModel", "isNote", "(I)Z"⟩, prog_14_method_19_code, 2, (some .boolean), [], 1, 0, false, 10, 13, (6083, 6082, 1011, 29))]
def aMT_5 : List aMR := [(⟨"OvertureDeskModel", "compare", "([II[II)I"⟩, prog_14_method_20_code, 9, (some .int), [], 4, 1, true, 10, 13, (6071, 6070, 1011, 0)),
  (⟨"OvertureDeskModel", "put", "([II)I"⟩, prog_14_method_21_code, 4, (some .int), [], 2, 0, true, 10, 13, (6068, 6067, 1011, 27)),
  (⟨"OvertureDeskModel", "take", "(I)V"⟩, prog_14_method_22_code, 2, none, [], 1, 0, false, 10, 13, (6087, 6086, 1011, 30)),
  (⟨"OvertureDeskModel", "sort", "()V"⟩, prog_14_method_23_code, 4, none, [], 0, 0, true, 10, 13, (7132, 7131, 1011, 34)),
  (⟨"OvertureDeskModel", "isIn", "(IIII)Z"⟩, prog_14_method_24_code, 5, (some .boolean), [], 4, 0, false, 10, 13, (7154, 7153, 1011, 35)),
  (⟨"OvertureDeskModel", "end", "(I)I"⟩, prog_14_method_25_code, 2, (some .int), [], 1, 0, false, 10, 13, (7124, 7123, 1011, 32)),
  (⟨"OvertureDeskModel", "write", "(IIIII)I"⟩, prog_14_method_26_code, 7, (some .int), [], 5, 0, true, 10, 13, (6054, 6052, 1011, 6053)),
  (⟨"OvertureDeskModel", "remove", "(I)I"⟩, prog_14_method_27_code, 2, (some .int), [], 1, 0, true, 10, 13, (6079, 6077, 1011, 6078)),
  (⟨"OvertureDeskModel", "split", "(II)I"⟩, prog_14_method_28_code, 4, (some .int), [], 2, 0, true, 10, 13, (7116, 7114, 1011, 7115)),
  (⟨"OvertureDeskModel", "transpose", "(IIII)I"⟩, prog_14_method_29_code, 7, (some .int), [], 4, 0, true, 10, 13, (7147, 7145, 1011, 7146)),
  (⟨"OvertureDeskModel", "weigh", "(IIII)I"⟩, prog_14_method_30_code, 7, (some .int), [], 4, 0, true, 10, 13, (7158, 7156, 1011, 7157)),
  (⟨"OvertureDeskModel", "line", "(III)I"⟩, prog_14_method_31_code, 3, (some .int), [], 3, 1, false, 10, 13, (7169, 7168, 1011, 0)),
  (⟨"OvertureDeskModel", "target", "(III)I"⟩, prog_14_method_32_code, 6, (some .int), [], 3, 1, false, 10, 13, (7166, 7165, 1011, 0)),
  (⟨"OvertureDeskModel", "quantise", "(IIIIII)I"⟩, prog_14_method_33_code, 11, (some .int), [], 6, 0, true, 10, 13, (7163, 7161, 1011, 7162)),
  (⟨"OvertureDeskModel", "copy", "(III)I"⟩, prog_14_method_34_code, 5, (some .int), [], 3, 0, false, 10, 13, (7175, 7173, 1011, 7174)),
  (⟨"OvertureDeskModel", "paste", "(I)I"⟩, prog_14_method_35_code, 5, (some .int), [], 1, 0, true, 10, 13, (7179, 7177, 1011, 7178)),
  (⟨"OvertureDeskModel", "notes", "()I"⟩, prog_14_method_36_code, 1, (some .int), [], 0, 0, false, 10, 13, (7183, 7181, 1011, 7182)),
  (⟨"OvertureDeskModel", "note", "(II)I"⟩, prog_14_method_37_code, 3, (some .int), [], 2, 0, false, 10, 13, (7187, 7185, 1011, 7186)),
  (⟨"OvertureDeskModel", "track", "(II)I"⟩, prog_14_method_38_code, 3, (some .int), [], 2, 0, false, 10, 13, (7195, 7194, 1011, 36)),
  (⟨"OvertureDeskModel", "setTrack", "(IZZII)I"⟩, prog_14_method_39_code, 8, (some .int), [], 5, 0, true, 10, 13, (7191, 7189, 1011, 7190)),
  (⟨"OvertureDeskModel", "setRow", "(II[I)Z"⟩, prog_14_method_40_code, 8, (some .boolean), [], 3, 0, false, 10, 13, (7203, 7202, 1011, 37)),
  (⟨"OvertureDeskModel", "setSpeed", "(II)I"⟩, prog_14_method_41_code, 3, (some .int), [], 2, 0, true, 10, 13, (7199, 7197, 1011, 7198)),
  (⟨"OvertureDeskModel", "setMeter", "(III)I"⟩, prog_14_method_42_code, 4, (some .int), [], 3, 0, true, 10, 13, (7207, 7205, 1011, 7206)),
  (⟨"OvertureDeskModel", "setLoop", "(III)I"⟩, prog_14_method_43_code, 6, (some .int), [], 3, 0, true, 10, 13, (7211, 7209, 1011, 7210)),
  (⟨"OvertureDeskModel", "timeNow", "(I)I"⟩, prog_14_method_44_code, 7, (some .int), [], 1, 0, false, 10, 13, (7220, 7219, 1011, 38)),
  (⟨"OvertureDeskModel", "timeOf", "(I)I"⟩, prog_14_method_45_code, 2, (some .int), [], 1, 0, false, 10, 13, (7215, 7213, 1011, 7214)),
  (⟨"OvertureDeskModel", "tickNow", "(I)I"⟩, prog_14_method_46_code, 5, (some .int), [], 1, 0, false, 10, 13, (7230, 7229, 1011, 39)),
  (⟨"OvertureDeskModel", "tickOf", "(I)I"⟩, prog_14_method_47_code, 2, (some .int), [], 1, 0, false, 10, 13, (7226, 7224, 1011, 7225)),
  (⟨"OvertureDeskModel", "meterOf", "(I)I"⟩, prog_14_method_48_code, 3, (some .int), [], 1, 0, false, 10, 13, (8006, 8005, 1011, 42)),
  (⟨"OvertureDeskModel", "beatLength", "(I)I"⟩, prog_14_method_49_code, 2, (some .int), [], 1, 0, false, 10, 13, (8010, 8009, 1011, 43)),
  (⟨"OvertureDeskModel", "barLength", "(I)I"⟩, prog_14_method_50_code, 2, (some .int), [], 1, 0, false, 10, 13, (8002, 8001, 1011, 41)),
  (⟨"OvertureDeskModel", "tickOfBarNow", "(I)I"⟩, prog_14_method_51_code, 4, (some .int), [], 1, 0, false, 10, 13, (8022, 8021, 1011, 45)),
  (⟨"OvertureDeskModel", "barNow", "(I)I"⟩, prog_14_method_52_code, 4, (some .int), [], 1, 0, false, 10, 13, (7238, 7237, 1011, 40)),
  (⟨"OvertureDeskModel", "barOf", "(I)I"⟩, prog_14_method_53_code, 2, (some .int), [], 1, 0, false, 10, 13, (7234, 7232, 1011, 7233)),
  (⟨"OvertureDeskModel", "beatNow", "(I)I"⟩, prog_14_method_54_code, 2, (some .int), [], 1, 0, false, 10, 13, (8018, 8017, 1011, 44)),
  (⟨"OvertureDeskModel", "beatOf", "(I)I"⟩, prog_14_method_55_code, 2, (some .int), [], 1, 0, false, 10, 13, (8014, 8012, 1011, 8013)),
  (⟨"OvertureDeskModel", "tickOfBar", "(I)I"⟩, prog_14_method_56_code, 2, (some .int), [], 1, 0, false, 10, 13, (8026, 8024, 1011, 8025)),
  (⟨"OvertureDeskModel", "isHeard", "(II)Z"⟩, prog_14_method_57_code, 5, (some .boolean), [], 2, 0, false, 10, 13, (8054, 8053, 1011, 49)),
  (⟨"OvertureDeskModel", "play", "(III)V"⟩, prog_14_method_58_code, 7, none, [], 3, 0, false, 10, 13, (8058, 8057, 1011, 50)),
  (⟨"OvertureDeskModel", "render", "(I)V"⟩, prog_14_method_59_code, 8, none, [], 1, 0, false, 10, 13, (8050, 8049, 1011, 48))]
def aMT_6 : List aMR := [(⟨"OvertureDeskModel", "eventsNow", "()I"⟩, prog_14_method_60_code, 4, (some .int), [], 0, 0, false, 10, 13, (8046, 8045, 1011, 47)),
  (⟨"OvertureDeskModel", "told", "(JI)I"⟩, prog_14_method_61_code, 3, (some .int), [], 2, 1, false, 10, 13, (8101, 8100, 1011, 0)),
  (⟨"OvertureDeskModel", "chordAt", "(I)I"⟩, prog_14_method_62_code, 4, (some .int), [], 1, 0, false, 10, 13, (8030, 8028, 1011, 8029)),
  (⟨"OvertureDeskModel", "clashesNow", "()I"⟩, prog_14_method_63_code, 4, (some .int), [], 0, 0, false, 10, 13, (8038, 8037, 1011, 46)),
  (⟨"OvertureDeskModel", "clashes", "()I"⟩, prog_14_method_64_code, 1, (some .int), [], 0, 0, false, 10, 13, (8034, 8032, 1011, 8033)),
  (⟨"OvertureDeskModel", "events", "()I"⟩, prog_14_method_65_code, 1, (some .int), [], 0, 0, false, 10, 13, (8042, 8040, 1011, 8041)),
  (⟨"OvertureDeskModel", "event", "(II)I"⟩, prog_14_method_66_code, 3, (some .int), [], 2, 0, false, 10, 13, (8098, 8096, 1011, 8097)),
  (⟨"OvertureDeskModel", "sounding", "(I)I"⟩, prog_14_method_67_code, 4, (some .int), [], 1, 0, false, 10, 13, (8107, 8105, 1011, 8106)),
  (⟨"OvertureDeskModel", "mostNow", "()I"⟩, prog_14_method_68_code, 5, (some .int), [], 0, 0, false, 10, 13, (8115, 8114, 1011, 51)),
  (⟨"OvertureDeskModel", "most", "()I"⟩, prog_14_method_69_code, 1, (some .int), [], 0, 0, false, 10, 13, (8111, 8109, 1011, 8110)),
  (⟨"OvertureDeskModel", "playedToNow", "()I"⟩, prog_14_method_70_code, 2, (some .int), [], 0, 0, false, 10, 13, (8123, 8122, 1011, 52)),
  (⟨"OvertureDeskModel", "playedTo", "()I"⟩, prog_14_method_71_code, 1, (some .int), [], 0, 0, false, 10, 13, (8119, 8117, 1011, 8118)),
  (⟨"OvertureDeskModel", "meanForce", "()D"⟩, prog_14_method_72_code, 3, (some .double), [], 0, 0, false, 10, 13, (8127, 8125, 1011, 8126)),
  (⟨"OvertureDeskModel", "moving", "(IIII)I"⟩, prog_14_method_73_code, 7, (some .int), [], 4, 0, false, 10, 13, (8135, 8134, 1011, 53)),
  (⟨"OvertureDeskModel", "wouldMove", "(IIII)I"⟩, prog_14_method_74_code, 5, (some .int), [], 4, 0, false, 10, 13, (8131, 8129, 1011, 8130)),
  (⟨"OvertureDeskModel", "eventsOf", "(I)I"⟩, prog_14_method_75_code, 2, (some .int), [], 1, 0, false, 10, 13, (8143, 8142, 1011, 54)),
  (⟨"OvertureDeskModel", "eventsAlone", "(I)I"⟩, prog_14_method_76_code, 2, (some .int), [], 1, 0, false, 10, 13, (8139, 8137, 1011, 8138)),
  (⟨"OvertureDeskModel", "bestNow", "(III)I"⟩, prog_14_method_77_code, 10, (some .int), [], 3, 0, true, 10, 13, (8151, 8150, 1011, 55)),
  (⟨"OvertureDeskModel", "bestStep", "(III)I"⟩, prog_14_method_78_code, 4, (some .int), [], 3, 0, false, 10, 13, (8147, 8145, 1011, 8146)),
  (⟨"OvertureDeskModel", "add", "(I)V"⟩, prog_14_method_79_code, 2, none, [], 1, 0, false, 10, 13, (8160, 8159, 1011, 56)),
  (⟨"OvertureDeskModel", "digest", "()J"⟩, prog_14_method_80_code, 6, (some .long), [], 0, 0, true, 10, 13, (8155, 8153, 1011, 8154)),
  (⟨"java/lang/Math", "floorMod", "(II)I"⟩, prog_24_method_50_code, 3, (some .int), [], 2, 1, false, 99, 14, (3217, 3216, 1018, 0)),
  (⟨"java/lang/Math", "abs", "(I)I"⟩, prog_24_method_59_code, 1, (some .int), [], 1, 1, false, 99, 14, (3057, 3056, 1018, 0)),
  (⟨"java/lang/Math", "max", "(II)I"⟩, prog_24_method_65_code, 2, (some .int), [], 2, 1, false, 99, 14, (2111, 2110, 1018, 0)),
  (⟨"java/lang/Math", "min", "(II)I"⟩, prog_24_method_69_code, 2, (some .int), [], 2, 1, false, 99, 14, (2125, 2124, 1018, 0)),
  (⟨"java/util/Arrays", "equals", "([I[I)Z"⟩, prog_33_method_83_code, 3, (some .boolean), [], 2, 1, false, 99, 15, (5168, 5167, 1020, 0)),
  (⟨"java/util/Arrays", "rangeCheck", "(III)V"⟩, prog_33_method_30_code, 3, none, [], 3, 1, false, 99, 15, (6093, 6092, 1020, 0)),
  (⟨"java/util/Arrays", "fill", "([IIII)V"⟩, prog_33_method_104_code, 5, none, [], 4, 1, false, 99, 15, (6090, 6089, 1020, 0)),
  (⟨"java/util/Arrays", "checkLength", "(II)V"⟩, prog_33_method_131_code, 2, none, [], 2, 1, false, 99, 15, (7063, 7062, 1020, 0)),
  (⟨"java/util/Arrays", "copyOfRangeInt", "([III)[I"⟩, prog_33_method_137_code, 5, (some (.array .int)), [], 3, 1, false, 99, 15, (7138, 7137, 1020, 0)),
  (⟨"java/util/Arrays", "copyOfRange", "([III)[I"⟩, prog_33_method_136_code, 3, (some (.array .int)), [], 3, 1, false, 99, 15, (7135, 7134, 1020, 0)),
  (⟨"java/util/Arrays", "copyOf", "([II)[I"⟩, prog_33_method_123_code, 3, (some (.array .int)), [], 2, 1, false, 99, 15, (8081, 8080, 1020, 0)),
  (⟨"java/util/Arrays", "sort", "([JII)V"⟩, prog_33_method_5_code, 3, none, [], 3, 1, true, 99, 15, (8063, 8062, 1020, 0)),
  (⟨"java/util/DualPivotQuicksort", "mixedInsertionSort", "([JIII)V"⟩, prog_34_method_14_code, 11, none, [], 4, 1, false, 99, 16, (8072, 8071, 1036, 0)),
  (⟨"java/util/DualPivotQuicksort", "insertionSort", "([JII)V"⟩, prog_34_method_15_code, 7, none, [], 3, 1, false, 99, 16, (8075, 8074, 1036, 0)),
  (⟨"java/util/DualPivotQuicksort", "mergeRuns", "([J[JIIZ[III)[J"⟩, prog_34_method_19_code, 18, (some (.array .long)), [], 8, 1, false, 99, 16, (8085, 8084, 1036, 0)),
  (⟨"java/util/DualPivotQuicksort", "tryMergeRuns", "(Ljava/util/DualPivotQuicksort$Sorter;[JII)Z"⟩, prog_34_method_18_code, 13, (some .boolean), [], 4, 1, false, 99, 16, (8078, 8077, 1036, 0)),
  (⟨"java/util/DualPivotQuicksort", "pushDown", "([JIJII)V"⟩, prog_34_method_17_code, 7, none, [], 5, 1, false, 99, 16, (8094, 8093, 1036, 0)),
  (⟨"java/util/DualPivotQuicksort", "heapSort", "([JII)V"⟩, prog_34_method_16_code, 5, none, [], 3, 1, false, 99, 16, (8091, 8090, 1036, 0)),
  (⟨"java/util/DualPivotQuicksort", "sort", "(Ljava/util/DualPivotQuicksort$Sorter;[JIII)V"⟩, prog_34_method_13_code, 25, none, [], 5, 1, false, 99, 16, (8069, 8068, 1036, 0))]
def aMT_7 : List aMR := [(⟨"java/util/DualPivotQuicksort", "sort", "([JIII)V"⟩, prog_34_method_12_code, 7, none, [], 4, 1, false, 99, 16, (8066, 8065, 1036, 0)),
  (⟨"jdk/internal/util/ArraysSupport", "mismatch", "([I[II)I"⟩, prog_37_method_19_code, 4, (some .int), [], 3, 1, false, 99, 17, (5171, 5170, 1021, 0)),
  (⟨"jdk/internal/util/ArraysSupport", "vectorizedMismatch", "(Ljava/lang/Object;JLjava/lang/Object;JII)I"⟩, prog_37_method_3_code, 19, (some .int), [], 6, 1, false, 99, 17, (5178, 5177, 1021, 0)),
  (⟨"jdk/internal/misc/Unsafe", "getLongUnaligned", "(Ljava/lang/Object;J)J"⟩, prog_35_method_334_code, 4, (some .long), [], 2, 0, false, 11, 18, (5186, 5184, 1022, 5185)),
  (⟨"java/lang/Long", "numberOfTrailingZeros", "(J)I"⟩, prog_23_method_49_code, 3, (some .int), [], 1, 1, false, 99, 19, (6008, 6007, 1025, 0)),
  (⟨"java/lang/Integer", "numberOfTrailingZeros", "(I)I"⟩, prog_22_method_48_code, 2, (some .int), [], 1, 1, false, 99, 20, (6011, 6010, 1026, 0)),
  (⟨"java/util/DualPivotQuicksort", "mergeParts", "(Ljava/util/DualPivotQuicksort$Merger;[JI[JII[JII)V"⟩, prog_34_method_20_code, 15, none, [], 9, 1, false, 99, 16, (8088, 8087, 1036, 0))]
def aMT : List aMR := aMT_0 ++ aMT_1 ++ aMT_2 ++ aMT_3 ++ aMT_4 ++ aMT_5 ++ aMT_6 ++ aMT_7
/-- call sites: own class, index, method, the nest's host, place -/
def aKT : List (Nat × Nat × Nat × String × Nat) := [(0, 7, 38, "", 3067), (0, 17, 39, "", 4004), (0, 23, 40, "", 4036), (0, 27, 44, "", 4051), (0, 31, 45, "", 4077), (0, 34, 48, "", 4091), (0, 38, 49, "", 4100), (0, 42, 50, "", 4112), (0, 45, 52, "", 4121), (0, 48, 53, "", 4129), (0, 52, 54, "", 4143), (0, 55, 55, "", 4180), (0, 58, 56, "", 4190), (0, 61, 57, "", 4199), (0, 65, 58, "", 4207), (0, 69, 59, "", 4215), (0, 72, 60, "", 4231), (0, 75, 64, "", 5003), (0, 78, 65, "", 5014), (0, 81, 66, "", 5022), (0, 84, 67, "", 5029), (0, 87, 68, "", 5036), (0, 90, 69, "", 5044), (0, 93, 72, "", 5051), (0, 96, 73, "", 5060), (0, 99, 78, "", 5071), (0, 102, 79, "", 5078), (0, 105, 81, "", 5085), (0, 108, 34, "", 1039), (0, 111, 181, "", 5091), (0, 112, 1, "", 3062), (0, 117, 206, "", 6051), (0, 118, 182, "", 5143), (0, 121, 2, "", 4000), (0, 124, 207, "", 6076), (0, 125, 3, "", 4033), (0, 128, 208, "", 7113), (0, 129, 4, "", 4048), (0, 132, 209, "", 7144), (0, 133, 5, "", 4074), (0, 135, 210, "", 7155), (0, 136, 6, "", 4088), (0, 139, 213, "", 7160), (0, 140, 7, "", 4097), (0, 143, 214, "", 7172), (0, 144, 8, "", 4109), (0, 146, 215, "", 7176), (0, 147, 51, "", 1239), (0, 150, 216, "", 7180), (0, 151, 9, "", 4118), (0, 153, 217, "", 7184), (0, 154, 10, "", 4126), (0, 157, 219, "", 7188), (0, 158, 11, "", 4140), (0, 160, 221, "", 7196), (0, 161, 12, "", 4177), (0, 163, 222, "", 7204), (0, 164, 13, "", 4187), (0, 166, 223, "", 7208), (0, 167, 14, "", 4196), (0, 170, 191, "", 5147), (0, 171, 15, "", 4204), (0, 173, 192, "", 5158), (0, 174, 16, "", 4212), (0, 176, 193, "", 6035), (0, 177, 17, "", 4228), (0, 179, 194, "", 6039), (0, 180, 61, "", 2007), (0, 183, 195, "", 6043), (0, 184, 62, "", 2011), (0, 187, 196, "", 6047), (0, 188, 18, "", 5000), (0, 190, 225, "", 7212), (0, 191, 19, "", 5011), (0, 193, 227, "", 7223), (0, 194, 20, "", 5019), (0, 196, 233, "", 7231), (0, 197, 21, "", 5026), (0, 199, 235, "", 8011), (0, 200, 22, "", 5033), (0, 202, 236, "", 8023), (0, 203, 23, "", 5041), (0, 205, 242, "", 8027), (0, 206, 70, "", 2015), (0, 209, 244, "", 8031), (0, 210, 71, "", 2048), (0, 213, 245, "", 8039), (0, 214, 24, "", 5048), (0, 216, 246, "", 8095), (0, 217, 25, "", 5057), (0, 219, 247, "", 8104), (0, 220, 74, "", 2130), (0, 223, 249, "", 8108), (0, 224, 75, "", 2154), (0, 227, 251, "", 8116), (0, 228, 76, "", 2165), (0, 232, 252, "", 8124), (0, 233, 26, "", 5068), (0, 235, 254, "", 8128), (0, 236, 27, "", 5075), (0, 238, 256, "", 8136), (0, 239, 28, "", 5082), (0, 241, 258, "", 8144), (0, 242, 85, "", 2176), (0, 246, 260, "", 8152), (1, 3, 1000, "", 1042), (1, 11, 166, "OvertureDesk", 1047), (1, 18, 105, "", 1183), (1, 25, 137, "OvertureDesk", 1206), (1, 32, 151, "OvertureDesk", 1209), (1, 41, 35, "", 3071), (1, 45, 36, "", 3058), (1, 48, 33, "", 3061), (1, 64, 143, "", 3144), (1, 73, 86, "", 3164), (1, 79, 146, "", 3165), (1, 83, 37, "", 3179), (1, 86, 144, "", 4008), (1, 94, 147, "", 4028), (1, 98, 142, "", 2003), (1, 101, 138, "", 2189), (1, 105, 88, "", 3045), (1, 108, 92, "", 4040), (1, 113, 94, "", 4042), (1, 117, 93, "", 4045), (1, 120, 42, "", 4055), (1, 125, 43, "", 4062), (1, 131, 97, "", 3046), (1, 135, 89, "", 4066), (1, 138, 95, "", 4068), (1, 141, 140, "", 4069), (1, 145, 149, "", 4070), (1, 150, 91, "", 4082), (1, 153, 264, "", 4083), (1, 159, 263, "", 4084), (1, 162, 96, "", 4085), (1, 169, 47, "", 3049), (1, 175, 148, "", 4105), (1, 184, 99, "", 2190), (1, 196, 173, "", 4135), (1, 202, 180, "", 4136), (1, 217, 125, "", 4148), (1, 222, 126, "", 4157), (1, 227, 127, "", 4162), (1, 228, 128, "", 4171), (1, 231, 122, "", 4176), (1, 245, 41, "", 4058), (1, 261, 113, "", 4195), (1, 269, 107, "", 3183), (1, 275, 109, "", 4220), (1, 284, 110, "", 4236), (1, 287, 63, "", 5007), (1, 290, 170, "", 2193), (1, 295, 171, "", 2213), (1, 298, 134, "", 2219), (1, 301, 135, "", 3007), (1, 306, 136, "", 3011), (1, 309, 150, "", 2019), (1, 312, 158, "", 2052), (1, 315, 152, "", 2126), (1, 320, 161, "", 2134), (1, 321, 153, "", 3024), (1, 322, 104, "", 3025), (1, 325, 162, "", 5064), (1, 328, 163, "", 2147), (1, 331, 164, "", 2158), (1, 334, 165, "", 2169), (1, 338, 77, "", 3041), (1, 341, 159, "", 3031), (1, 345, 80, "", 3035), (1, 351, 83, "", 2181), (1, 355, 82, "", 2185), (1, 359, 84, "", 3020), (1, 368, 46, "", 3052), (1, 371, 262, "", 3055), (2, 9, 88, "", 2039), (2, 15, 90, "", 2045), (2, 18, 87, "", 2033), (2, 21, 89, "", 2036), (2, 24, 91, "", 2089), (2, 27, 86, "", 2092), (2, 31, 92, "", 2042), (3, 7, 101, "", 3028), (3, 13, 102, "", 3029), (3, 17, 103, "", 3030), (4, 3, 1000, "", 1186), (4, 17, 166, "OvertureDesk", 1189), (4, 22, 106, "", 3187), (4, 26, 167, "", 3191), (4, 30, 261, "", 3215), (4, 39, 264, "", 3218), (4, 45, 168, "", 3219), (4, 49, 108, "", 4224), (5, 1, 1000, "", 1139), (6, 3, 1000, "", 1093), (6, 21, 114, "", 1094), (6, 29, 29, "OvertureDesk", 1098), (6, 33, 116, "", 3019), (6, 37, 117, "", 3209), (6, 40, 118, "", 3210), (6, 43, 31, "OvertureDesk", 2205), (6, 47, 123, "", 4156), (6, 50, 124, "", 4152), (6, 54, 125, "", 4166), (6, 57, 121, "", 4167), (6, 61, 126, "", 4175), (7, 3, 1000, "", 1125), (7, 11, 115, "", 1127), (7, 20, 118, "", 2239), (7, 24, 263, "", 2234), (7, 30, 117, "", 2233), (7, 33, 130, "", 2235), (7, 36, 116, "", 2228), (7, 39, 131, "", 2229), (7, 42, 122, "", 2227), (7, 46, 133, "", 2223), (7, 49, 132, "", 3003), (7, 52, 123, "", 3015), (8, 3, 1000, "", 1056), (8, 19, 30, "OvertureDesk", 2027), (8, 23, 32, "OvertureDesk", 3174), (8, 27, 143, "", 3169), (8, 31, 140, "", 3170), (8, 35, 145, "", 3175), (8, 39, 138, "", 2023), (8, 43, 263, "", 4032), (8, 49, 98, "", 2030), (9, 3, 1000, "", 1212), (9, 22, 30, "OvertureDesk", 2146), (9, 32, 179, "", 2056), (9, 38, 157, "", 2071), (9, 46, 142, "", 2075), (9, 52, 138, "", 2076), (9, 56, 89, "", 2077), (9, 62, 173, "", 2078), (9, 66, 87, "", 2082), (9, 69, 33, "OvertureDesk", 2083), (9, 73, 95, "", 2086), (9, 81, 174, "", 2095), (9, 84, 156, "", 2099), (9, 88, 88, "", 2103), (9, 91, 90, "", 2104), (9, 105, 155, "", 2105), (9, 109, 264, "", 2123), (9, 115, 263, "", 2109), (9, 118, 154, "", 2112), (9, 122, 91, "", 2116), (9, 125, 100, "", 2117), (9, 131, 32, "OvertureDesk", 2120), (9, 135, 160, "", 2138), (9, 139, 153, "", 2142), (9, 140, 101, "", 2162), (9, 143, 102, "", 2151), (9, 147, 103, "", 2173), (10, 1, 1000, "", 1050), (10, 9, 137, "OvertureDesk", 1053), (10, 18, 172, "OvertureDesk", 1067), (10, 25, 169, "OvertureDesk", 1084), (10, 32, 129, "OvertureDesk", 1122), (10, 39, 111, "OvertureDesk", 1136), (10, 44, 141, "", 3223), (10, 48, 176, "", 3227), (10, 55, 120, "", 3232), (10, 71, 113, "", 3236), (10, 75, 139, "", 3195), (10, 79, 175, "", 3199), (10, 82, 119, "", 3205), (10, 85, 112, "", 3211), (11, 3, 1000, "", 1087), (11, 11, 115, "", 1090), (11, 20, 122, "", 2197), (11, 24, 116, "", 2201), (11, 28, 264, "", 2206), (11, 34, 117, "", 2207), (11, 40, 170, "", 2218), (12, 3, 1000, "", 1070), (12, 21, 29, "OvertureDesk", 3231), (12, 25, 31, "OvertureDesk", 2064), (12, 29, 177, "", 2060), (12, 33, 178, "", 2067), (12, 37, 173, "", 3203), (12, 41, 174, "", 3204), (13, 3, 1000, "", 5094), (13, 41, 184, "", 6062), (13, 45, 1001, "", 5155), (13, 51, 264, "", 6034), (13, 57, 265, "", 5166), (13, 66, 188, "", 6031), (13, 77, 189, "", 5162), (13, 81, 183, "", 5151), (13, 85, 200, "", 6069), (13, 89, 267, "", 6088), (13, 93, 270, "", 7133), (13, 97, 201, "", 6065), (13, 101, 197, "", 7117), (13, 104, 187, "", 6055), (13, 107, 185, "", 6059), (13, 111, 190, "", 6072), (13, 114, 199, "", 6080), (13, 117, 202, "", 6084), (13, 121, 205, "", 7121), (13, 124, 198, "", 7125), (13, 128, 203, "", 7129), (13, 131, 186, "", 7148), (13, 134, 204, "", 7151), (13, 138, 263, "", 7159), (13, 141, 211, "", 7167), (13, 145, 262, "", 7170), (13, 148, 212, "", 7164), (13, 154, 218, "", 7192), (13, 157, 220, "", 7200), (13, 167, 224, "", 7217), (13, 170, 226, "", 7227), (13, 173, 228, "", 8003), (13, 176, 229, "", 8007), (13, 179, 230, "", 7239), (13, 182, 232, "", 7235), (13, 185, 231, "", 8019), (13, 188, 234, "", 8015), (13, 194, 237, "", 8051), (13, 198, 238, "", 8055), (13, 201, 239, "", 8047), (13, 208, 272, "", 8061), (13, 215, 243, "", 8035), (13, 219, 240, "", 8043), (13, 222, 241, "", 8099), (13, 226, 248, "", 8112), (13, 229, 250, "", 8120), (13, 232, 253, "", 8132), (13, 236, 255, "", 8140), (13, 239, 257, "", 8148), (13, 250, 259, "", 8157), (15, 13, 266, "", 6091), (15, 19, 280, "", 8064), (15, 150, 1001, "", 6166), (15, 254, 281, "", 5169), (15, 304, 264, "", 6165), (15, 343, 268, "", 7061), (15, 351, 269, "", 7136), (16, 53, 271, "", 8079), (16, 99, 279, "", 8067), (16, 102, 273, "", 8070), (16, 105, 274, "", 8073), (16, 108, 276, "", 8076), (16, 111, 278, "", 8089), (16, 113, 277, "", 8092), (16, 118, 275, "", 8083), (16, 121, 286, "", 8086), (17, 11, 285, "", 6030), (17, 30, 283, "", 5183), (17, 49, 284, "", 6006), (17, 122, 282, "", 5176), (17, 194, 263, "", 6149), (18, 27, 1002, "", 5188), (19, 311, 285, "", 6009)]
/-- fields: own class, index, class, field, kind, place -/
def aFT : List (Nat × Nat × Nat × Nat × Nat × Nat) := [(1, 12, 9, 0, 3, 1223), (1, 19, 9, 1, 3, 1224), (1, 26, 9, 2, 3, 1225), (1, 33, 9, 3, 3, 1226), (1, 37, 9, 4, 1, 1227), (1, 61, 6, 0, 3, 1158), (1, 192, 6, 1, 3, 1162), (1, 207, 6, 2, 3, 1164), (1, 211, 7, 0, 3, 1116), (1, 236, 6, 3, 3, 1166), (1, 240, 3, 0, 3, 1130), (1, 251, 6, 4, 3, 1169), (1, 255, 1, 2, 0, 1149), (1, 264, 0, 2, 0, 1193), (1, 279, 0, 3, 0, 1195), (4, 11, 0, 0, 3, 1190), (4, 18, 0, 1, 0, 1191), (4, 36, 0, 2, 0, 1192), (4, 42, 0, 3, 0, 1194), (5, 7, 1, 0, 0, 1140), (5, 13, 1, 1, 0, 1143), (5, 16, 1, 2, 0, 1146), (6, 9, 2, 0, 3, 1101), (6, 15, 2, 1, 3, 1102), (6, 18, 2, 2, 3, 1103), (6, 25, 2, 3, 0, 1104), (7, 14, 3, 0, 3, 1128), (8, 9, 4, 0, 3, 1057), (8, 15, 4, 1, 0, 1058), (9, 9, 5, 0, 3, 1213), (9, 15, 5, 1, 3, 1214), (9, 18, 5, 2, 0, 1215), (9, 26, 6, 1, 3, 1161), (9, 42, 6, 0, 3, 1159), (9, 77, 6, 4, 3, 1168), (9, 94, 1, 1, 0, 1145), (9, 99, 1, 0, 0, 1142), (9, 102, 1, 2, 0, 1148), (10, 10, 6, 0, 3, 1157), (10, 19, 6, 1, 3, 1160), (10, 26, 6, 2, 3, 1163), (10, 33, 6, 3, 3, 1165), (10, 40, 6, 4, 3, 1167), (10, 51, 7, 0, 3, 1115), (10, 60, 3, 0, 3, 1129), (10, 61, 1, 0, 0, 1141), (10, 65, 1, 1, 0, 1144), (10, 68, 1, 2, 0, 1147), (11, 14, 7, 0, 3, 1114), (12, 9, 8, 0, 3, 1071), (12, 15, 8, 1, 3, 1072), (12, 18, 8, 2, 3, 1073), (13, 9, 10, 1, 3, 5098), (13, 13, 10, 2, 3, 5099), (13, 18, 10, 3, 3, 5100), (13, 21, 10, 4, 3, 5101), (13, 24, 10, 8, 3, 5105), (13, 27, 10, 10, 3, 5107), (13, 30, 10, 11, 3, 5108), (13, 33, 10, 13, 3, 5110), (13, 37, 10, 0, 0, 5097), (13, 63, 10, 5, 0, 5102), (13, 70, 10, 6, 0, 5103), (13, 73, 10, 7, 1, 5104), (13, 151, 10, 9, 0, 5106), (13, 191, 10, 12, 0, 5109), (13, 242, 10, 14, 2, 5111)]
/-- new: own class, index, class, places -/
def aNT : List (Nat × Nat × Nat × Nat × Nat × Nat) := [(0, 8, 9, 1037, 1038, 1001), (0, 109, 10, 5089, 5090, 1011), (1, 9, 6, 1045, 1046, 1002), (1, 16, 0, 1181, 1182, 1009), (1, 23, 4, 1205, 1052, 1003), (1, 30, 5, 1207, 1208, 1010), (4, 9, 6, 1187, 1046, 1002), (7, 9, 2, 1126, 1089, 1006), (10, 7, 4, 1051, 1052, 1003), (10, 16, 8, 1065, 1066, 1004), (10, 23, 7, 1082, 1083, 1005), (10, 30, 3, 1120, 1121, 1007), (10, 37, 1, 1134, 1135, 1008), (11, 9, 2, 1088, 1089, 1006)]
/-- names of classes: own class, index, class, place -/
def aCT : List (Nat × Nat × String × Nat) := [(0, 13, "java/lang/IllegalArgumentException", 3065), (0, 15, "java/lang/IllegalStateException", 3066), (0, 21, "java/lang/IndexOutOfBoundsException", 4003)]
def aIT : List (Nat × Nat × Int32 × Nat) := [(1, 358, 1000000, 2212), (1, 374, 99999, 5010), (11, 39, 100000, 2217), (13, 163, 2147483647, 7221), (13, 166, 99999, 7216), (13, 253, 1000000, 8162), (17, 200, 2147483639, 6150), (18, 374, 65535, 6022), (20, 264, 65536, 6003)]
def aLT : List (Nat × Nat × Int64 × Nat) := [(1, 349, 2671, 2180), (1, 362, 31, 2188), (11, 37, 62500, 2211), (13, 164, 62500, 7222), (13, 204, 128, 8059), (13, 206, 2, 8060), (13, 211, 63, 8102), (13, 213, 127, 8103), (13, 246, 31, 8161), (13, 248, 2671, 8156), (18, 203, 2, 5214), (18, 205, 4, 5197), (18, 349, 3, 5192), (18, 696, 7, 5187), (18, 702, 6, 5215), (18, 707, 5, 5227), (18, 808, 255, 5234), (18, 810, 65535, 5222), (18, 812, 4294967295, 5204)]
/-- static fields: own class, index, value, place, the field -/
def aGT : List (Nat × Nat × Value × Nat × String × String × String) := [(1, 364, .ref 1, 3039, "OvertureDesk", "STEPS_TO_TRY", "[I"), (17, 20, .int 3, 5179, "jdk/internal/util/ArraysSupport", "LOG2_ARRAY_LONG_INDEX_SCALE", "I"), (17, 26, .ref 2, 5181, "jdk/internal/util/ArraysSupport", "U", "Ljdk/internal/misc/Unsafe;"), (17, 36, .int 0, 5235, "jdk/internal/util/ArraysSupport", "BIG_ENDIAN", "Z"), (17, 46, .int 3, 6004, "jdk/internal/util/ArraysSupport", "LOG2_BYTE_BIT_SIZE", "I"), (17, 51, .int 2, 5174, "jdk/internal/util/ArraysSupport", "LOG2_ARRAY_INT_INDEX_SCALE", "I"), (17, 144, .int 16, 5172, "jdk/internal/misc/Unsafe", "ARRAY_INT_BASE_OFFSET", "I")]
def aAT : List (Nat × Nat × String × Nat) := [(4, 9, "OvertureDesk$Song", 1187)]
def aUT : List (Nat × Nat × String × Nat) := [(13, 16, "[[I", 5095)]
/-- throws: method, place, class, indices of class, text, constructor, wide, the text -/
def aXT : List (Nat × Nat × String × Nat × Nat × Nat × Bool × String) := [(38, 25, "java/lang/IllegalArgumentException", 52, 54, 56, false, "no such track, tick or length"),
  (38, 57, "java/lang/IllegalArgumentException", 52, 59, 56, false, "no such pitch or force"),
  (38, 81, "java/lang/IllegalStateException", 68, 70, 72, false, "no room for a note"),
  (39, 14, "java/lang/IndexOutOfBoundsException", 89, 91, 93, false, "no note at this place"),
  (40, 14, "java/lang/IndexOutOfBoundsException", 89, 91, 93, false, "no note at this place"),
  (40, 67, "java/lang/IllegalArgumentException", 52, 111, 56, false, "the note can not be split at this tick"),
  (40, 91, "java/lang/IllegalStateException", 68, 70, 72, false, "no room for a note"),
  (44, 21, "java/lang/IllegalArgumentException", 52, 123, 56, false, "no such range or interval"),
  (44, 43, "java/lang/IllegalStateException", 68, 129, 72, false, "a pitch would not be 0 to 127"),
  (45, 21, "java/lang/IllegalArgumentException", 52, 148, 56, false, "no such range or percents"),
  (48, 21, "java/lang/IllegalArgumentException", 52, 165, 56, false, "no such range or step"),
  (48, 53, "java/lang/IllegalArgumentException", 52, 167, 56, false, "no such swing or strength"),
  (49, 9, "java/lang/IllegalArgumentException", 52, 173, 56, false, "no such range"),
  (50, 7, "java/lang/IllegalArgumentException", 52, 178, 56, false, "no such tick"),
  (50, 74, "java/lang/IllegalStateException", 68, 180, 72, false, "no room for the notes"),
  (52, 14, "java/lang/IndexOutOfBoundsException", 89, 91, 93, false, "no note at this place"),
  (52, 33, "java/lang/IllegalArgumentException", 52, 182, 56, false, "a note tells 0 to 4"),
  (53, 7, "java/lang/IndexOutOfBoundsException", 89, 188, 93, false, "no such track"),
  (53, 41, "java/lang/IllegalArgumentException", 52, 190, 56, false, "no such shift or delay"),
  (54, 24, "java/lang/IllegalArgumentException", 52, 205, 56, false, "no such tick or speed"),
  (54, 68, "java/lang/IllegalStateException", 68, 225, 72, false, "the speeds can not be changed so"),
  (55, 20, "java/lang/IllegalArgumentException", 52, 232, 56, false, "no such bar or count of beats"),
  (55, 56, "java/lang/IllegalArgumentException", 52, 234, 56, false, "no such beat"),
  (55, 103, "java/lang/IllegalStateException", 68, 243, 72, false, "the meters can not be changed so"),
  (56, 18, "java/lang/IllegalArgumentException", 52, 249, 56, false, "no such stretch or times"),
  (57, 7, "java/lang/IllegalStateException", 68, 262, 72, true, "a group is open"),
  (58, 7, "java/lang/IllegalStateException", 68, 267, 72, true, "no group is open"),
  (59, 18, "java/lang/IllegalStateException", 68, 273, 72, true, "nothing can be taken back"),
  (60, 18, "java/lang/IllegalStateException", 68, 282, 72, true, "nothing can be done again"),
  (64, 7, "java/lang/IllegalArgumentException", 52, 178, 56, false, "no such tick"),
  (65, 4, "java/lang/IllegalArgumentException", 52, 293, 56, true, "no such time"),
  (66, 7, "java/lang/IllegalArgumentException", 52, 178, 56, false, "no such tick"),
  (67, 7, "java/lang/IllegalArgumentException", 52, 178, 56, false, "no such tick"),
  (68, 11, "java/lang/IllegalArgumentException", 52, 304, 56, true, "no such bar"),
  (69, 7, "java/lang/IllegalArgumentException", 52, 178, 56, false, "no such tick"),
  (72, 26, "java/lang/IndexOutOfBoundsException", 89, 316, 93, true, "no such event"),
  (72, 46, "java/lang/IllegalArgumentException", 52, 318, 56, true, "an event tells 0 to 3"),
  (73, 7, "java/lang/IllegalArgumentException", 52, 178, 56, false, "no such tick"),
  (78, 21, "java/lang/IllegalArgumentException", 52, 165, 56, false, "no such range or step"),
  (79, 7, "java/lang/IndexOutOfBoundsException", 89, 188, 93, false, "no such track"),
  (81, 9, "java/lang/IllegalArgumentException", 52, 173, 56, false, "no such range")]
