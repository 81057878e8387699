/-! ===== tables, by program out of the claim (gen/mk01.py) ===== -/
def aT0 : u_T := fun k => match k with
  | 0 => ("OvertureDesk$History", "songs", "[LOvertureDesk$Song;", true)
  | 1 => ("OvertureDesk$History", "now", "I", false)
  | 2 => ("OvertureDesk$History", "behind", "I", false)
  | _ => ("OvertureDesk$History", "ahead", "I", false)
def aT1 : u_T := fun k => match k with
  | 0 => ("OvertureDesk$Loop", "from", "I", false)
  | 1 => ("OvertureDesk$Loop", "to", "I", false)
  | _ => ("OvertureDesk$Loop", "times", "I", false)
def aT2 : u_T := fun k => match k with
  | 0 => ("OvertureDesk$Marks", "places", "[I", true)
  | 1 => ("OvertureDesk$Marks", "firsts", "[I", true)
  | 2 => ("OvertureDesk$Marks", "seconds", "[I", true)
  | _ => ("OvertureDesk$Marks", "count", "I", false)
def aT3 : u_T := fun k => match k with
  | _ => ("OvertureDesk$MeterMap", "marks", "LOvertureDesk$Marks;", true)
def aT4 : u_T := fun k => match k with
  | 0 => ("OvertureDesk$NoteList", "codes", "[J", true)
  | _ => ("OvertureDesk$NoteList", "count", "I", false)
def aT5 : u_T := fun k => match k with
  | 0 => ("OvertureDesk$Rendering", "codes", "[J", true)
  | 1 => ("OvertureDesk$Rendering", "spare", "[J", true)
  | _ => ("OvertureDesk$Rendering", "count", "I", false)
def aT6 : u_T := fun k => match k with
  | 0 => ("OvertureDesk$Song", "notes", "LOvertureDesk$NoteList;", true)
  | 1 => ("OvertureDesk$Song", "tracks", "LOvertureDesk$TrackSet;", true)
  | 2 => ("OvertureDesk$Song", "speeds", "LOvertureDesk$SpeedMap;", true)
  | 3 => ("OvertureDesk$Song", "meters", "LOvertureDesk$MeterMap;", true)
  | _ => ("OvertureDesk$Song", "loop", "LOvertureDesk$Loop;", true)
def aT7 : u_T := fun k => match k with
  | _ => ("OvertureDesk$SpeedMap", "marks", "LOvertureDesk$Marks;", true)
def aT8 : u_T := fun k => match k with
  | 0 => ("OvertureDesk$TrackSet", "marks", "[I", true)
  | 1 => ("OvertureDesk$TrackSet", "shifts", "[I", true)
  | _ => ("OvertureDesk$TrackSet", "delays", "[I", true)
def aT9 : u_T := fun k => match k with
  | 0 => ("OvertureDesk", "song", "LOvertureDesk$Song;", true)
  | 1 => ("OvertureDesk", "history", "LOvertureDesk$History;", true)
  | 2 => ("OvertureDesk", "clipboard", "LOvertureDesk$NoteList;", true)
  | 3 => ("OvertureDesk", "rendering", "LOvertureDesk$Rendering;", true)
  | _ => ("OvertureDesk", "isGroupOpen", "Z", false)
def aT10 : u_T := fun k => match k with
  | 0 => ("OvertureDesk$Loop", "from", "I", false)
  | 1 => ("OvertureDesk$Loop", "to", "I", false)
  | _ => ("OvertureDesk$Loop", "times", "I", false)
def aT11 : u_T := fun _ => ("", "", "", false)
abbrev aCl : List vw_C := [("OvertureDesk$History", aT0, 4), ("OvertureDesk$Loop", aT1, 3), ("OvertureDesk$Marks", aT2, 4), ("OvertureDesk$MeterMap", aT3, 1), ("OvertureDesk$NoteList", aT4, 2), ("OvertureDesk$Rendering", aT5, 3), ("OvertureDesk$Song", aT6, 5), ("OvertureDesk$SpeedMap", aT7, 1), ("OvertureDesk$TrackSet", aT8, 3), ("OvertureDesk", aT9, 5), ("OvertureDesk$Loop", aT10, 3)]
/-- the kinds of the fields, by class -/
def aFK : List (List Nat) := [[3, 0, 0, 0], [0, 0, 0], [3, 3, 3, 0], [3], [3, 0], [3, 3, 0], [3, 3, 3, 3, 3], [3], [3, 3, 3], [3, 3, 3, 3, 1], [0, 0, 0], []]
def aON : List String := ["OvertureDeskLaw", "OvertureDesk", "OvertureDesk$NoteCode", "OvertureDesk$EventCode", "OvertureDesk$History", "OvertureDesk$Loop", "OvertureDesk$Marks", "OvertureDesk$MeterMap", "OvertureDesk$NoteList", "OvertureDesk$Rendering", "OvertureDesk$Song", "OvertureDesk$SpeedMap", "OvertureDesk$TrackSet", "OvertureDeskModel", "java/lang/Math"]
/-- a method: name, bytes, locals, answer, handlers, parameters, kind (0 by receiver, 1 static, 2 constructor), its cells die with it, class of the receiver, own class, places of its words -/
abbrev aMR : Type := MethodName × ByteArray × Nat × Option FieldType × List (Nat × Nat × Nat × Nat) × Nat × Nat × Bool × Nat × Nat × (Nat × Nat × Nat × Nat)
def aMT_0 : List aMR := [(⟨"OvertureDeskLaw", "law", "([I)Z"⟩, code, 6, (some .boolean), [], 1, 1, false, 99, 0, (0, 0, 1000, 0)),
  (⟨"OvertureDeskLaw", "act", "(LOvertureDesk;I)Z"⟩, method_6_code, 9, (some .boolean), [(35, 192, 711, 127), (193, 210, 711, 127), (211, 238, 711, 127), (239, 269, 711, 127), (270, 299, 711, 127), (300, 367, 711, 127), (368, 396, 711, 127), (397, 424, 711, 127), (425, 547, 711, 127), (548, 592, 711, 127), (593, 656, 711, 127), (657, 702, 711, 127), (703, 708, 711, 127), (35, 192, 735, 129), (193, 210, 735, 129), (211, 238, 735, 129), (239, 269, 735, 129), (270, 299, 735, 129), (300, 367, 735, 129), (368, 396, 735, 129), (397, 424, 735, 129), (425, 547, 735, 129), (548, 592, 735, 129), (593, 656, 735, 129), (657, 702, 735, 129), (703, 708, 735, 129), (35, 192, 759, 65), (193, 210, 759, 65), (211, 238, 759, 65), (239, 269, 759, 65), (270, 299, 759, 65), (300, 367, 759, 65), (368, 396, 759, 65), (397, 424, 759, 65), (425, 547, 759, 65), (548, 592, 759, 65), (593, 656, 759, 65), (657, 702, 759, 65), (703, 708, 759, 65)], 2, 1, false, 99, 0, (3187, 3186, 1000, 0)),
  (⟨"OvertureDeskLaw", "below", "(II)I"⟩, method_2_code, 2, (some .int), [], 2, 1, false, 99, 0, (3196, 3195, 1000, 0)),
  (⟨"OvertureDeskLaw", "cell", "([II)I"⟩, method_3_code, 2, (some .int), [], 2, 1, false, 99, 0, (3144, 3143, 1000, 0)),
  (⟨"OvertureDeskLaw", "isFree", "(LOvertureDesk;)Z"⟩, method_5_code, 2, (some .boolean), [(0, 17, 18, 65)], 1, 1, false, 99, 0, (3148, 3147, 1000, 0)),
  (⟨"OvertureDeskLaw", "areNotesRight", "(LOvertureDesk;)Z"⟩, method_7_code, 4, (some .boolean), [], 1, 1, false, 99, 0, (4175, 4174, 1000, 0)),
  (⟨"OvertureDeskLaw", "arePlayedRight", "(LOvertureDesk;)Z"⟩, method_8_code, 6, (some .boolean), [], 1, 1, false, 99, 0, (4187, 4186, 1000, 0)),
  (⟨"OvertureDeskLaw", "areTimesRight", "(LOvertureDesk;I)Z"⟩, method_9_code, 5, (some .boolean), [], 2, 1, false, 99, 0, (4225, 4224, 1000, 0)),
  (⟨"OvertureDeskLaw", "below", "(II)I"⟩, method_2_code, 2, (some .int), [], 2, 1, false, 99, 0, (3196, 3195, 1000, 0)),
  (⟨"OvertureDeskLaw", "below", "(II)I"⟩, method_2_code, 2, (some .int), [], 2, 1, false, 99, 0, (3196, 3195, 1000, 0)),
  (⟨"OvertureDeskLaw", "below", "(II)I"⟩, method_2_code, 2, (some .int), [], 2, 1, false, 99, 0, (3196, 3195, 1000, 0)),
  (⟨"OvertureDeskLaw", "below", "(II)I"⟩, method_2_code, 2, (some .int), [], 2, 1, false, 99, 0, (3196, 3195, 1000, 0)),
  (⟨"OvertureDeskLaw", "below", "(II)I"⟩, method_2_code, 2, (some .int), [], 2, 1, false, 99, 0, (3196, 3195, 1000, 0)),
  (⟨"OvertureDeskLaw", "below", "(II)I"⟩, method_2_code, 2, (some .int), [], 2, 1, false, 99, 0, (3196, 3195, 1000, 0)),
  (⟨"OvertureDeskLaw", "below", "(II)I"⟩, method_2_code, 2, (some .int), [], 2, 1, false, 99, 0, (3196, 3195, 1000, 0)),
  (⟨"OvertureDeskLaw", "below", "(II)I"⟩, method_2_code, 2, (some .int), [], 2, 1, false, 99, 0, (3196, 3195, 1000, 0)),
  (⟨"OvertureDeskLaw", "below", "(II)I"⟩, method_2_code, 2, (some .int), [], 2, 1, false, 99, 0, (3196, 3195, 1000, 0)),
  (⟨"OvertureDeskLaw", "below", "(II)I"⟩, method_2_code, 2, (some .int), [], 2, 1, false, 99, 0, (3196, 3195, 1000, 0)),
  (⟨"OvertureDeskLaw", "below", "(II)I"⟩, method_2_code, 2, (some .int), [], 2, 1, false, 99, 0, (3196, 3195, 1000, 0)),
  (⟨"OvertureDeskLaw", "below", "(II)I"⟩, method_2_code, 2, (some .int), [], 2, 1, false, 99, 0, (3196, 3195, 1000, 0)),
  (⟨"OvertureDeskLaw", "below", "(II)I"⟩, method_2_code, 2, (some .int), [], 2, 1, false, 99, 0, (3196, 3195, 1000, 0)),
  (⟨"OvertureDeskLaw", "below", "(II)I"⟩, method_2_code, 2, (some .int), [], 2, 1, false, 99, 0, (3196, 3195, 1000, 0)),
  (⟨"OvertureDeskLaw", "below", "(II)I"⟩, method_2_code, 2, (some .int), [], 2, 1, false, 99, 0, (3196, 3195, 1000, 0)),
  (⟨"OvertureDeskLaw", "below", "(II)I"⟩, method_2_code, 2, (some .int), [], 2, 1, false, 99, 0, (3196, 3195, 1000, 0)),
  (⟨"OvertureDeskLaw", "below", "(II)I"⟩, method_2_code, 2, (some .int), [], 2, 1, false, 99, 0, (3196, 3195, 1000, 0)),
  (⟨"OvertureDeskLaw", "below", "(II)I"⟩, method_2_code, 2, (some .int), [], 2, 1, false, 99, 0, (3196, 3195, 1000, 0)),
  (⟨"OvertureDeskLaw", "below", "(II)I"⟩, method_2_code, 2, (some .int), [], 2, 1, false, 99, 0, (3196, 3195, 1000, 0)),
  (⟨"OvertureDeskLaw", "below", "(II)I"⟩, method_2_code, 2, (some .int), [], 2, 1, false, 99, 0, (3196, 3195, 1000, 0)),
  (⟨"OvertureDeskLaw", "below", "(II)I"⟩, method_2_code, 2, (some .int), [], 2, 1, false, 99, 0, (3196, 3195, 1000, 0)),
  (⟨"OvertureDesk", "putInt", "([III)V"⟩, prog_1_method_55_code, 3, none, [], 3, 1, false, 9, 1, (1083, 1082, 1001, 0)),
  (⟨"OvertureDesk", "longAt", "([JI)J"⟩, prog_1_method_56_code, 2, (some .long), [], 2, 1, false, 9, 1, (2083, 2082, 1001, 0)),
  (⟨"OvertureDesk", "intAt", "([II)I"⟩, prog_1_method_54_code, 2, (some .int), [], 2, 1, false, 9, 1, (2097, 2096, 1001, 0)),
  (⟨"OvertureDesk", "putLong", "([JIJ)V"⟩, prog_1_method_57_code, 4, none, [], 3, 1, false, 9, 1, (2090, 2089, 1001, 0)),
  (⟨"OvertureDesk", "isWithin", "(III)Z"⟩, prog_1_method_48_code, 3, (some .boolean), [], 3, 1, false, 9, 1, (3038, 3037, 1001, 0)),
  (⟨"OvertureDesk", "<init>", "()V"⟩, prog_1_method_1_code, 1, none, [], 0, 2, false, 9, 1, (1024, 1023, 1001, 0)),
  (⟨"OvertureDesk", "isTrack", "(I)Z"⟩, prog_1_method_49_code, 1, (some .boolean), [], 1, 1, false, 9, 1, (3205, 3204, 1001, 0)),
  (⟨"OvertureDesk", "isTick", "(I)Z"⟩, prog_1_method_50_code, 1, (some .boolean), [], 1, 1, false, 9, 1, (3140, 3139, 1001, 0)),
  (⟨"OvertureDesk", "settle", "()V"⟩, prog_1_method_42_code, 1, none, [], 0, 0, false, 9, 1, (4001, 4000, 1001, 20)),
  (⟨"OvertureDesk", "write", "(IIIII)I"⟩, prog_1_method_2_code, 7, (some .int), [], 5, 0, false, 9, 1, (3202, 3200, 1001, 3201)),
  (⟨"OvertureDesk", "remove", "(I)I"⟩, prog_1_method_3_code, 2, (some .int), [], 1, 0, false, 9, 1, (4005, 4003, 1001, 4004))]
def aMT_1 : List aMR := [(⟨"OvertureDesk", "split", "(II)I"⟩, prog_1_method_4_code, 7, (some .int), [], 2, 0, false, 9, 1, (4034, 4032, 1001, 4033)),
  (⟨"OvertureDesk", "isStretch", "(II)Z"⟩, prog_1_method_52_code, 2, (some .boolean), [], 2, 1, false, 9, 1, (4052, 4051, 1001, 0)),
  (⟨"OvertureDesk", "isRange", "(III)Z"⟩, prog_1_method_53_code, 3, (some .boolean), [], 3, 1, false, 9, 1, (4049, 4048, 1001, 0)),
  (⟨"OvertureDesk", "canTranspose", "(IIII)Z"⟩, prog_1_method_43_code, 8, (some .boolean), [], 4, 0, false, 9, 1, (4057, 4056, 1001, 21)),
  (⟨"OvertureDesk", "transpose", "(IIII)I"⟩, prog_1_method_5_code, 9, (some .int), [], 4, 0, false, 9, 1, (4046, 4044, 1001, 4045)),
  (⟨"OvertureDesk", "weigh", "(IIII)I"⟩, prog_1_method_6_code, 10, (some .int), [], 4, 0, false, 9, 1, (4069, 4067, 1001, 4068)),
  (⟨"OvertureDesk", "nearestLine", "(III)I"⟩, prog_1_method_47_code, 10, (some .int), [], 3, 1, false, 9, 1, (3134, 3133, 1001, 0)),
  (⟨"OvertureDesk", "drawnStart", "(IIII)I"⟩, prog_1_method_46_code, 4, (some .int), [], 4, 1, false, 9, 1, (3131, 3130, 1001, 0)),
  (⟨"OvertureDesk", "quantise", "(IIIIII)I"⟩, prog_1_method_7_code, 13, (some .int), [], 6, 0, false, 9, 1, (4085, 4083, 1001, 4084)),
  (⟨"OvertureDesk", "copy", "(III)I"⟩, prog_1_method_8_code, 7, (some .int), [], 3, 0, false, 9, 1, (4090, 4088, 1001, 4089)),
  (⟨"OvertureDesk", "paste", "(I)I"⟩, prog_1_method_9_code, 7, (some .int), [], 1, 0, false, 9, 1, (4099, 4097, 1001, 4098)),
  (⟨"OvertureDesk", "notes", "()I"⟩, prog_1_method_10_code, 1, (some .int), [], 0, 0, false, 9, 1, (3193, 3191, 1001, 3192)),
  (⟨"OvertureDesk", "note", "(II)I"⟩, prog_1_method_11_code, 3, (some .int), [], 2, 0, false, 9, 1, (4179, 4177, 1001, 4178)),
  (⟨"OvertureDesk", "setTrack", "(IZZII)I"⟩, prog_1_method_12_code, 7, (some .int), [], 5, 0, false, 9, 1, (4105, 4103, 1001, 4104)),
  (⟨"OvertureDesk", "setSpeed", "(II)I"⟩, prog_1_method_13_code, 4, (some .int), [], 2, 0, false, 9, 1, (4116, 4114, 1001, 4115)),
  (⟨"OvertureDesk", "setMeter", "(III)I"⟩, prog_1_method_14_code, 5, (some .int), [], 3, 0, false, 9, 1, (4158, 4156, 1001, 4157)),
  (⟨"OvertureDesk", "setLoop", "(III)I"⟩, prog_1_method_15_code, 5, (some .int), [], 3, 0, false, 9, 1, (4170, 4168, 1001, 4169)),
  (⟨"OvertureDesk", "openGroup", "()I"⟩, prog_1_method_16_code, 1, (some .int), [], 0, 0, false, 9, 1, (3153, 3151, 1001, 3152)),
  (⟨"OvertureDesk", "closeGroup", "()Z"⟩, prog_1_method_17_code, 1, (some .boolean), [], 0, 0, false, 9, 1, (3158, 3156, 1001, 3157)),
  (⟨"OvertureDesk", "undo", "()I"⟩, prog_1_method_18_code, 1, (some .int), [], 0, 0, false, 9, 1, (1225, 1223, 1001, 1224)),
  (⟨"OvertureDesk", "redo", "()I"⟩, prog_1_method_19_code, 1, (some .int), [], 0, 0, false, 9, 1, (2131, 2129, 1001, 2130)),
  (⟨"OvertureDesk", "undos", "()I"⟩, prog_1_method_20_code, 1, (some .int), [], 0, 0, false, 9, 1, (2140, 2138, 1001, 2139)),
  (⟨"OvertureDesk", "redos", "()I"⟩, prog_1_method_21_code, 1, (some .int), [], 0, 0, false, 9, 1, (2144, 2142, 1001, 2143)),
  (⟨"OvertureDesk", "isFarTick", "(I)Z"⟩, prog_1_method_51_code, 1, (some .boolean), [], 1, 1, false, 9, 1, (4153, 4152, 1001, 0)),
  (⟨"OvertureDesk", "timeOf", "(I)I"⟩, prog_1_method_22_code, 2, (some .int), [], 1, 0, false, 9, 1, (4150, 4148, 1001, 4149)),
  (⟨"OvertureDesk", "tickOf", "(I)I"⟩, prog_1_method_23_code, 2, (some .int), [], 1, 0, false, 9, 1, (4233, 4231, 1001, 4232)),
  (⟨"OvertureDesk", "barOf", "(I)I"⟩, prog_1_method_24_code, 2, (some .int), [], 1, 0, false, 9, 1, (4229, 4227, 1001, 4228)),
  (⟨"OvertureDesk", "beatOf", "(I)I"⟩, prog_1_method_25_code, 2, (some .int), [], 1, 0, false, 9, 1, (4238, 4236, 1001, 4237)),
  (⟨"OvertureDesk", "tickOfBar", "(I)I"⟩, prog_1_method_26_code, 2, (some .int), [], 1, 0, false, 9, 1, (4165, 4163, 1001, 4164)),
  (⟨"OvertureDeskLaw", "below", "(II)I"⟩, method_2_code, 2, (some .int), [], 2, 1, false, 99, 0, (3196, 3195, 1000, 0)),
  (⟨"OvertureDesk", "clashes", "()I"⟩, prog_1_method_28_code, 1, (some .int), [], 0, 0, false, 9, 1, (4184, 4182, 1001, 4183)),
  (⟨"OvertureDesk", "events", "()I"⟩, prog_1_method_29_code, 1, (some .int), [], 0, 0, false, 9, 1, (4191, 4189, 1001, 4190)),
  (⟨"OvertureDesk", "event", "(II)I"⟩, prog_1_method_30_code, 3, (some .int), [], 2, 0, false, 9, 1, (4195, 4193, 1001, 4194)),
  (⟨"OvertureDesk", "sounding", "(I)I"⟩, prog_1_method_31_code, 2, (some .int), [], 1, 0, false, 9, 1, (4201, 4199, 1001, 4200)),
  (⟨"OvertureDesk", "most", "()I"⟩, prog_1_method_32_code, 1, (some .int), [], 0, 0, false, 9, 1, (4209, 4207, 1001, 4208)),
  (⟨"OvertureDesk", "playedTo", "()I"⟩, prog_1_method_33_code, 1, (some .int), [], 0, 0, false, 9, 1, (4213, 4211, 1001, 4212)),
  (⟨"OvertureDesk", "meanForce", "()D"⟩, prog_1_method_34_code, 1, (some .double), [], 0, 0, false, 9, 1, (4217, 4215, 1001, 4216)),
  (⟨"OvertureDesk", "countOffGrid", "(IIII)I"⟩, prog_1_method_44_code, 10, (some .int), [], 4, 0, false, 9, 1, (3124, 3123, 1001, 18)),
  (⟨"OvertureDesk", "wouldMove", "(IIII)I"⟩, prog_1_method_35_code, 5, (some .int), [], 4, 0, false, 9, 1, (4080, 4078, 1001, 4079)),
  (⟨"OvertureDeskLaw", "below", "(II)I"⟩, method_2_code, 2, (some .int), [], 2, 1, false, 99, 0, (3196, 3195, 1000, 0))]
def aMT_2 : List aMR := [(⟨"OvertureDesk", "fittingStep", "(III)I"⟩, prog_1_method_45_code, 8, (some .int), [], 3, 0, false, 9, 1, (3118, 3117, 1001, 17)),
  (⟨"OvertureDesk", "bestStep", "(III)I"⟩, prog_1_method_37_code, 4, (some .int), [], 3, 0, false, 9, 1, (5002, 5000, 1001, 5001)),
  (⟨"OvertureDesk", "add", "(JI)J"⟩, prog_1_method_39_code, 3, (some .long), [], 2, 1, false, 9, 1, (2160, 2159, 1001, 0)),
  (⟨"OvertureDesk", "addNotes", "(J)J"⟩, prog_1_method_40_code, 7, (some .long), [], 1, 0, false, 9, 1, (2153, 2152, 1001, 4)),
  (⟨"OvertureDesk", "addEvents", "(J)J"⟩, prog_1_method_41_code, 7, (some .long), [], 1, 0, false, 9, 1, (3083, 3082, 1001, 16)),
  (⟨"OvertureDesk", "digest", "()J"⟩, prog_1_method_38_code, 4, (some .long), [], 0, 0, false, 9, 1, (2148, 2146, 1001, 2147)),
  (⟨"OvertureDesk$NoteCode", "of", "(IIIII)J"⟩, prog_7_method_2_code, 5, (some .long), [], 5, 1, false, 99, 2, (3044, 3043, 1017, 0)),
  (⟨"OvertureDesk$NoteCode", "track", "(J)I"⟩, prog_7_method_3_code, 2, (some .int), [], 1, 1, false, 99, 2, (2168, 2167, 1017, 0)),
  (⟨"OvertureDesk$NoteCode", "start", "(J)I"⟩, prog_7_method_4_code, 2, (some .int), [], 1, 1, false, 99, 2, (2171, 2170, 1017, 0)),
  (⟨"OvertureDesk$NoteCode", "pitch", "(J)I"⟩, prog_7_method_5_code, 2, (some .int), [], 1, 1, false, 99, 2, (2177, 2176, 1017, 0)),
  (⟨"OvertureDesk$NoteCode", "length", "(J)I"⟩, prog_7_method_6_code, 2, (some .int), [], 1, 1, false, 99, 2, (2174, 2173, 1017, 0)),
  (⟨"OvertureDesk$NoteCode", "force", "(J)I"⟩, prog_7_method_7_code, 2, (some .int), [], 1, 1, false, 99, 2, (2180, 2179, 1017, 0)),
  (⟨"OvertureDesk$NoteCode", "end", "(J)I"⟩, prog_7_method_8_code, 2, (some .int), [], 1, 1, false, 99, 2, (3010, 3009, 1017, 0)),
  (⟨"OvertureDesk$NoteCode", "withStart", "(JI)J"⟩, prog_7_method_9_code, 3, (some .long), [], 2, 1, false, 99, 2, (4042, 4041, 1017, 0)),
  (⟨"OvertureDesk$NoteCode", "withLength", "(JI)J"⟩, prog_7_method_10_code, 3, (some .long), [], 2, 1, false, 99, 2, (4039, 4038, 1017, 0)),
  (⟨"OvertureDesk$NoteCode", "withPitch", "(JI)J"⟩, prog_7_method_11_code, 3, (some .long), [], 2, 1, false, 99, 2, (3041, 3040, 1017, 0)),
  (⟨"OvertureDesk$NoteCode", "withForce", "(JI)J"⟩, prog_7_method_12_code, 3, (some .long), [], 2, 1, false, 99, 2, (4076, 4075, 1017, 0)),
  (⟨"OvertureDesk$NoteCode", "isIn", "(JIII)Z"⟩, prog_7_method_13_code, 5, (some .boolean), [], 4, 1, false, 99, 2, (3128, 3127, 1017, 0)),
  (⟨"OvertureDesk$NoteCode", "isClash", "(JJ)Z"⟩, prog_7_method_14_code, 4, (some .boolean), [], 2, 1, false, 99, 2, (3007, 3006, 1017, 0)),
  (⟨"OvertureDesk$NoteCode", "fact", "(JI)I"⟩, prog_7_method_15_code, 3, (some .int), [], 2, 1, false, 99, 2, (2165, 2164, 1017, 0)),
  (⟨"OvertureDesk$EventCode", "of", "(IZIII)J"⟩, prog_2_method_2_code, 5, (some .long), [], 5, 1, false, 99, 3, (3064, 3063, 1019, 0)),
  (⟨"OvertureDesk$EventCode", "tick", "(J)I"⟩, prog_2_method_3_code, 2, (some .int), [], 1, 1, false, 99, 3, (3094, 3093, 1019, 0)),
  (⟨"OvertureDesk$EventCode", "isOn", "(J)Z"⟩, prog_2_method_4_code, 2, (some .boolean), [], 1, 1, false, 99, 3, (3097, 3096, 1019, 0)),
  (⟨"OvertureDesk$EventCode", "force", "(J)I"⟩, prog_2_method_5_code, 2, (some .int), [], 1, 1, false, 99, 3, (3100, 3099, 1019, 0)),
  (⟨"OvertureDesk$EventCode", "fact", "(JI)I"⟩, prog_2_method_6_code, 3, (some .int), [], 2, 1, false, 99, 3, (3091, 3090, 1019, 0)),
  (⟨"OvertureDesk$History", "<init>", "()V"⟩, prog_3_method_1_code, 2, none, [], 0, 2, false, 0, 4, (1168, 1167, 1009, 0)),
  (⟨"OvertureDesk$History", "songAt", "(I)LOvertureDesk$Song;"⟩, prog_3_method_6_code, 2, (some (.object "OvertureDesk$Song")), [], 1, 0, false, 0, 4, (2068, 2067, 1009, 3)),
  (⟨"OvertureDesk$History", "keep", "(LOvertureDesk$Song;)Z"⟩, prog_3_method_2_code, 4, (some .boolean), [], 1, 0, false, 0, 4, (3163, 3161, 1009, 3162)),
  (⟨"OvertureDesk$History", "step", "(ILOvertureDesk$Song;)V"⟩, prog_3_method_5_code, 4, none, [], 2, 0, false, 0, 4, (2061, 2060, 1009, 2)),
  (⟨"OvertureDesk$History", "stepBack", "(LOvertureDesk$Song;)V"⟩, prog_3_method_3_code, 2, none, [], 1, 0, false, 0, 4, (2057, 2055, 1009, 2056)),
  (⟨"OvertureDesk$History", "stepAhead", "(LOvertureDesk$Song;)V"⟩, prog_3_method_4_code, 2, none, [], 1, 0, false, 0, 4, (2136, 2134, 1009, 2135)),
  (⟨"OvertureDesk$Loop", "<init>", "()V"⟩, prog_4_method_1_code, 1, none, [], 0, 2, false, 1, 5, (1121, 1120, 1008, 0)),
  (⟨"OvertureDesk$Loop", "isLike", "(LOvertureDesk$Loop;)Z"⟩, prog_4_method_3_code, 2, (some .boolean), [], 1, 0, false, 1, 5, (3183, 3181, 1008, 3182)),
  (⟨"OvertureDesk$Loop", "put", "(III)V"⟩, prog_4_method_2_code, 4, none, [], 3, 0, false, 1, 5, (2127, 2125, 1008, 2126)),
  (⟨"OvertureDesk$Marks", "putAll", "(IIII)V"⟩, prog_5_method_2_code, 5, none, [], 4, 0, false, 2, 6, (1080, 1079, 1006, 0)),
  (⟨"OvertureDesk$Marks", "<init>", "(II)V"⟩, prog_5_method_1_code, 3, none, [], 2, 2, false, 2, 6, (1075, 1074, 1006, 0)),
  (⟨"OvertureDesk$Marks", "placeAt", "(I)I"⟩, prog_5_method_5_code, 2, (some .int), [], 1, 0, false, 2, 6, (2114, 2112, 1006, 2113)),
  (⟨"OvertureDesk$Marks", "firstAt", "(I)I"⟩, prog_5_method_6_code, 2, (some .int), [], 1, 0, false, 2, 6, (2119, 2117, 1006, 2118)),
  (⟨"OvertureDesk$Marks", "secondAt", "(I)I"⟩, prog_5_method_7_code, 2, (some .int), [], 1, 0, false, 2, 6, (2123, 2121, 1006, 2122)),
  (⟨"OvertureDesk$Marks", "isLike", "(LOvertureDesk$Marks;)Z"⟩, prog_5_method_15_code, 3, (some .boolean), [], 1, 0, false, 2, 6, (3179, 3177, 1006, 3178))]
def aMT_3 : List aMR := [(⟨"OvertureDesk$Marks", "takeFrom", "(LOvertureDesk$Marks;)V"⟩, prog_5_method_14_code, 3, none, [], 1, 0, false, 2, 6, (2110, 2108, 1006, 2109)),
  (⟨"OvertureDesk$Marks", "move", "(II)V"⟩, prog_5_method_3_code, 3, none, [], 2, 0, false, 2, 6, (4140, 4139, 1006, 23)),
  (⟨"OvertureDesk$Marks", "size", "()I"⟩, prog_5_method_4_code, 1, (some .int), [], 0, 0, false, 2, 6, (2188, 2186, 1006, 2187)),
  (⟨"OvertureDesk$Marks", "lastUpTo", "(I)I"⟩, prog_5_method_8_code, 4, (some .int), [], 1, 0, false, 2, 6, (3000, 2238, 1006, 2239)),
  (⟨"OvertureDesk$Marks", "beginsAt", "(I)Z"⟩, prog_5_method_9_code, 2, (some .boolean), [], 1, 0, false, 2, 6, (4125, 4124, 1006, 22)),
  (⟨"OvertureDesk$Marks", "canDrop", "(I)Z"⟩, prog_5_method_10_code, 2, (some .boolean), [], 1, 0, false, 2, 6, (4121, 4119, 1006, 4120)),
  (⟨"OvertureDesk$Marks", "canPut", "(I)Z"⟩, prog_5_method_11_code, 2, (some .boolean), [], 1, 0, false, 2, 6, (4130, 4128, 1006, 4129)),
  (⟨"OvertureDesk$Marks", "drop", "(I)V"⟩, prog_5_method_12_code, 3, none, [], 1, 0, false, 2, 6, (4135, 4133, 1006, 4134)),
  (⟨"OvertureDesk$Marks", "put", "(III)V"⟩, prog_5_method_13_code, 6, none, [], 3, 0, false, 2, 6, (4144, 4142, 1006, 4143)),
  (⟨"OvertureDesk$MeterMap", "<init>", "()V"⟩, prog_6_method_1_code, 1, none, [], 0, 2, false, 3, 7, (1107, 1106, 1007, 0)),
  (⟨"OvertureDesk$MeterMap", "beatLength", "(I)I"⟩, prog_6_method_2_code, 3, (some .int), [], 1, 0, false, 3, 7, (2223, 2222, 1007, 7)),
  (⟨"OvertureDesk$MeterMap", "barLength", "(I)I"⟩, prog_6_method_3_code, 2, (some .int), [], 1, 0, false, 3, 7, (2215, 2214, 1007, 6)),
  (⟨"OvertureDesk$MeterMap", "startOf", "(I)I"⟩, prog_6_method_4_code, 4, (some .int), [], 1, 0, false, 3, 7, (2228, 2227, 1007, 8)),
  (⟨"OvertureDesk$MeterMap", "meterAt", "(I)I"⟩, prog_6_method_5_code, 5, (some .int), [], 1, 0, false, 3, 7, (2209, 2208, 1007, 5)),
  (⟨"OvertureDesk$MeterMap", "barAt", "(I)I"⟩, prog_6_method_6_code, 5, (some .int), [], 1, 0, false, 3, 7, (2205, 2203, 1007, 2204)),
  (⟨"OvertureDesk$MeterMap", "beatAt", "(I)I"⟩, prog_6_method_7_code, 5, (some .int), [], 1, 0, false, 3, 7, (2232, 2230, 1007, 2231)),
  (⟨"OvertureDesk$MeterMap", "startOfBar", "(I)I"⟩, prog_6_method_8_code, 3, (some .int), [], 1, 0, false, 3, 7, (2236, 2234, 1007, 2235)),
  (⟨"OvertureDesk$NoteList", "<init>", "()V"⟩, prog_8_method_1_code, 1, none, [], 0, 2, false, 4, 8, (1038, 1037, 1003, 0)),
  (⟨"OvertureDesk$NoteList", "codeAt", "(I)J"⟩, prog_8_method_5_code, 2, (some .long), [], 1, 0, false, 4, 8, (2080, 2078, 1003, 2079)),
  (⟨"OvertureDesk$NoteList", "isLike", "(LOvertureDesk$NoteList;)Z"⟩, prog_8_method_14_code, 3, (some .boolean), [], 1, 0, false, 4, 8, (3171, 3169, 1003, 3170)),
  (⟨"OvertureDesk$NoteList", "put", "(IJ)V"⟩, prog_8_method_6_code, 4, none, [], 2, 0, false, 4, 8, (2087, 2085, 1003, 2086)),
  (⟨"OvertureDesk$NoteList", "takeFrom", "(LOvertureDesk$NoteList;)V"⟩, prog_8_method_13_code, 3, none, [], 1, 0, false, 4, 8, (2076, 2074, 1003, 2075)),
  (⟨"OvertureDesk$NoteList", "size", "()I"⟩, prog_8_method_2_code, 1, (some .int), [], 0, 0, false, 4, 8, (2157, 2155, 1003, 2156)),
  (⟨"OvertureDesk$NoteList", "room", "()I"⟩, prog_8_method_3_code, 1, (some .int), [], 0, 0, false, 4, 8, (3226, 3224, 1003, 3225)),
  (⟨"OvertureDesk$NoteList", "has", "(I)Z"⟩, prog_8_method_4_code, 2, (some .boolean), [], 1, 0, false, 4, 8, (4009, 4007, 1003, 4008)),
  (⟨"OvertureDesk$NoteList", "sink", "(I)I"⟩, prog_8_method_11_code, 5, (some .int), [], 1, 0, false, 4, 8, (3237, 3236, 1003, 19)),
  (⟨"OvertureDesk$NoteList", "insert", "(J)I"⟩, prog_8_method_7_code, 3, (some .int), [], 1, 0, false, 4, 8, (3232, 3230, 1003, 3231)),
  (⟨"OvertureDesk$NoteList", "drop", "(I)V"⟩, prog_8_method_8_code, 3, none, [], 1, 0, false, 4, 8, (4029, 4027, 1003, 4028)),
  (⟨"OvertureDesk$NoteList", "clear", "()V"⟩, prog_8_method_9_code, 1, none, [], 0, 0, false, 4, 8, (4095, 4093, 1003, 4094)),
  (⟨"OvertureDesk$NoteList", "sort", "()V"⟩, prog_8_method_10_code, 2, none, [], 0, 0, false, 4, 8, (4065, 4063, 1003, 4064)),
  (⟨"OvertureDesk$NoteList", "countClashes", "()I"⟩, prog_8_method_12_code, 4, (some .int), [], 0, 0, false, 4, 8, (3004, 3002, 1003, 3003)),
  (⟨"OvertureDesk$Rendering", "<init>", "()V"⟩, prog_9_method_1_code, 1, none, [], 0, 2, false, 5, 9, (1194, 1193, 1010, 0)),
  (⟨"OvertureDesk$Rendering", "size", "()I"⟩, prog_9_method_2_code, 1, (some .int), [], 0, 0, false, 5, 9, (3087, 3085, 1010, 3086)),
  (⟨"OvertureDesk$Rendering", "codeAt", "(I)J"⟩, prog_9_method_3_code, 2, (some .long), [], 1, 0, false, 5, 9, (3078, 3076, 1010, 3077)),
  (⟨"OvertureDesk$Rendering", "addEvent", "(JIZ)V"⟩, prog_9_method_9_code, 5, none, [], 3, 0, false, 5, 9, (3060, 3059, 1010, 14)),
  (⟨"OvertureDesk$Rendering", "addOnce", "(JII)V"⟩, prog_9_method_8_code, 6, none, [], 3, 0, false, 5, 9, (3055, 3054, 1010, 13)),
  (⟨"OvertureDesk$Rendering", "addNote", "(JLOvertureDesk$Loop;I)V"⟩, prog_9_method_7_code, 9, none, [], 3, 0, false, 5, 9, (3049, 3048, 1010, 12)),
  (⟨"OvertureDesk$Rendering", "addTrack", "(LOvertureDesk$Song;I)V"⟩, prog_9_method_6_code, 7, none, [], 2, 0, false, 5, 9, (3030, 3029, 1010, 11)),
  (⟨"OvertureDesk$Rendering", "play", "(LOvertureDesk$Song;)V"⟩, prog_9_method_4_code, 3, none, [], 1, 0, false, 5, 9, (3014, 3012, 1010, 3013)),
  (⟨"OvertureDesk$Rendering", "playTrack", "(LOvertureDesk$Song;I)V"⟩, prog_9_method_5_code, 3, none, [], 2, 0, false, 5, 9, (3114, 3112, 1010, 3113))]
def aMT_4 : List aMR := [(⟨"OvertureDesk$Rendering", "merge", "(III)V"⟩, prog_9_method_11_code, 7, none, [], 3, 0, false, 5, 9, (3074, 3073, 1010, 15)),
  (⟨"OvertureDesk$Rendering", "sort", "()V"⟩, prog_9_method_10_code, 4, none, [], 0, 0, false, 5, 9, (3070, 3068, 1010, 3069)),
  (⟨"OvertureDesk$Rendering", "countAt", "(I)I"⟩, prog_9_method_12_code, 4, (some .int), [], 1, 0, false, 5, 9, (4205, 4203, 1010, 4204)),
  (⟨"OvertureDesk$Rendering", "greatestCount", "()I"⟩, prog_9_method_13_code, 4, (some .int), [], 0, 0, false, 5, 9, (3104, 3102, 1010, 3103)),
  (⟨"OvertureDesk$Rendering", "lastTick", "()I"⟩, prog_9_method_14_code, 3, (some .int), [], 0, 0, false, 5, 9, (3109, 3107, 1010, 3108)),
  (⟨"OvertureDesk$Rendering", "meanOfForces", "()D"⟩, prog_9_method_15_code, 4, (some .double), [], 0, 0, false, 5, 9, (4221, 4219, 1010, 4220)),
  (⟨"OvertureDesk$Song", "<init>", "()V"⟩, prog_10_method_1_code, 1, none, [], 0, 2, false, 6, 10, (1032, 1031, 1002, 0)),
  (⟨"OvertureDesk$Song", "isLike", "(LOvertureDesk$Song;)Z"⟩, prog_10_method_3_code, 2, (some .boolean), [], 1, 0, false, 6, 10, (3167, 3165, 1002, 3166)),
  (⟨"OvertureDesk$Song", "takeFrom", "(LOvertureDesk$Song;)V"⟩, prog_10_method_2_code, 2, none, [], 1, 0, false, 6, 10, (2072, 2070, 1002, 2071)),
  (⟨"OvertureDesk$SpeedMap", "<init>", "()V"⟩, prog_11_method_1_code, 1, none, [], 0, 2, false, 7, 11, (1069, 1068, 1005, 0)),
  (⟨"OvertureDesk$SpeedMap", "timeAt", "(I)I"⟩, prog_11_method_2_code, 8, (some .int), [], 1, 0, false, 7, 11, (2184, 2182, 1005, 2183)),
  (⟨"OvertureDesk$SpeedMap", "tickAt", "(I)I"⟩, prog_11_method_3_code, 5, (some .int), [], 1, 0, false, 7, 11, (2199, 2197, 1005, 2198)),
  (⟨"OvertureDesk$TrackSet", "<init>", "()V"⟩, prog_12_method_1_code, 1, none, [], 0, 2, false, 8, 12, (1052, 1051, 1004, 0)),
  (⟨"OvertureDesk$TrackSet", "shiftOf", "(I)I"⟩, prog_12_method_3_code, 2, (some .int), [], 1, 0, false, 8, 12, (2102, 2100, 1004, 2101)),
  (⟨"OvertureDesk$TrackSet", "delayOf", "(I)I"⟩, prog_12_method_4_code, 2, (some .int), [], 1, 0, false, 8, 12, (2106, 2104, 1004, 2105)),
  (⟨"OvertureDesk$TrackSet", "isLike", "(LOvertureDesk$TrackSet;)Z"⟩, prog_12_method_9_code, 3, (some .boolean), [], 1, 0, false, 8, 12, (3175, 3173, 1004, 3174)),
  (⟨"OvertureDesk$TrackSet", "takeFrom", "(LOvertureDesk$TrackSet;)V"⟩, prog_12_method_8_code, 3, none, [], 1, 0, false, 8, 12, (2094, 2092, 1004, 2093)),
  (⟨"OvertureDesk$TrackSet", "isMarked", "(II)Z"⟩, prog_12_method_5_code, 3, (some .boolean), [], 2, 0, false, 8, 12, (3022, 3021, 1004, 9)),
  (⟨"OvertureDesk$TrackSet", "isAnyAlone", "()Z"⟩, prog_12_method_6_code, 2, (some .boolean), [], 0, 0, false, 8, 12, (3026, 3025, 1004, 10)),
  (⟨"OvertureDesk$TrackSet", "isHeard", "(I)Z"⟩, prog_12_method_7_code, 2, (some .boolean), [], 1, 0, false, 8, 12, (3018, 3016, 1004, 3017)),
  (⟨"OvertureDesk$TrackSet", "put", "(IZZII)V"⟩, prog_12_method_2_code, 6, none, [], 5, 0, false, 8, 12, (4112, 4110, 1004, 4111)),
  (⟨"OvertureDeskLaw", "below", "(II)I"⟩, method_2_code, 2, (some .int), [], 2, 1, false, 99, 0, (3196, 3195, 1000, 0)),
  (⟨"OvertureDeskLaw", "below", "(II)I"⟩, method_2_code, 2, (some .int), [], 2, 1, false, 99, 0, (3196, 3195, 1000, 0)),
  (⟨"OvertureDeskLaw", "below", "(II)I"⟩, method_2_code, 2, (some .int), [], 2, 1, false, 99, 0, (3196, 3195, 1000, 0)),
  (⟨"OvertureDeskLaw", "below", "(II)I"⟩, method_2_code, 2, (some .int), [], 2, 1, false, 99, 0, (3196, 3195, 1000, 0)),
  (⟨"OvertureDeskLaw", "below", "(II)I"⟩, method_2_code, 2, (some .int), [], 2, 1, false, 99, 0, (3196, 3195, 1000, 0)),
  (⟨"OvertureDeskLaw", "below", "(II)I"⟩, method_2_code, 2, (some .int), [], 2, 1, false, 99, 0, (3196, 3195, 1000, 0)),
  (⟨"OvertureDeskLaw", "below", "(II)I"⟩, method_2_code, 2, (some .int), [], 2, 1, false, 99, 0, (3196, 3195, 1000, 0)),
  (⟨"OvertureDeskLaw", "below", "(II)I"⟩, method_2_code, 2, (some .int), [], 2, 1, false, 99, 0, (3196, 3195, 1000, 0)),
  (⟨"OvertureDeskLaw", "below", "(II)I"⟩, method_2_code, 2, (some .int), [], 2, 1, false, 99, 0, (3196, 3195, 1000, 0)),
  (⟨"OvertureDeskLaw", "below", "(II)I"⟩, method_2_code, 2, (some .int), [], 2, 1, false, 99, 0, (3196, 3195, 1000, 0)),
  (⟨"OvertureDeskLaw", "below", "(II)I"⟩, method_2_code, 2, (some .int), [], 2, 1, false, 99, 0, (3196, 3195, 1000, 0)),
  (⟨"OvertureDeskLaw", "below", "(II)I"⟩, method_2_code, 2, (some .int), [], 2, 1, false, 99, 0, (3196, 3195, 1000, 0)),
  (⟨"OvertureDeskLaw", "below", "(II)I"⟩, method_2_code, 2, (some .int), [], 2, 1, false, 99, 0, (3196, 3195, 1000, 0)),
  (⟨"OvertureDeskLaw", "below", "(II)I"⟩, method_2_code, 2, (some .int), [], 2, 1, false, 99, 0, (3196, 3195, 1000, 0)),
  (⟨"OvertureDeskLaw", "below", "(II)I"⟩, method_2_code, 2, (some .int), [], 2, 1, false, 99, 0, (3196, 3195, 1000, 0)),
  (⟨"OvertureDeskLaw", "below", "(II)I"⟩, method_2_code, 2, (some .int), [], 2, 1, false, 99, 0, (3196, 3195, 1000, 0)),
  (⟨"OvertureDeskLaw", "below", "(II)I"⟩, method_2_code, 2, (some .int), [], 2, 1, false, 99, 0, (3196, 3195, 1000, 0)),
  (⟨"OvertureDeskLaw", "below", "(II)I"⟩, method_2_code, 2, (some .int), [], 2, 1, false, 99, 0, (3196, 3195, 1000, 0)),
  (⟨"OvertureDeskLaw", "below", "(II)I"⟩, method_2_code, 2, (some .int), [], 2, 1, false, 99, 0, (3196, 3195, 1000, 0))]
def aMT_5 : List aMR := [(⟨"OvertureDeskLaw", "below", "(II)I"⟩, method_2_code, 2, (some .int), [], 2, 1, false, 99, 0, (3196, 3195, 1000, 0)),
  (⟨"OvertureDeskLaw", "below", "(II)I"⟩, method_2_code, 2, (some .int), [], 2, 1, false, 99, 0, (3196, 3195, 1000, 0)),
  (⟨"OvertureDeskLaw", "below", "(II)I"⟩, method_2_code, 2, (some .int), [], 2, 1, false, 99, 0, (3196, 3195, 1000, 0)),
  (⟨"OvertureDeskLaw", "below", "(II)I"⟩, method_2_code, 2, (some .int), [], 2, 1, false, 99, 0, (3196, 3195, 1000, 0)),
  (⟨"OvertureDeskLaw", "below", "(II)I"⟩, method_2_code, 2, (some .int), [], 2, 1, false, 99, 0, (3196, 3195, 1000, 0)),
  (⟨"OvertureDeskLaw", "below", "(II)I"⟩, method_2_code, 2, (some .int), [], 2, 1, false, 99, 0, (3196, 3195, 1000, 0)),
  (⟨"OvertureDeskLaw", "below", "(II)I"⟩, method_2_code, 2, (some .int), [], 2, 1, false, 99, 0, (3196, 3195, 1000, 0)),
  (⟨"OvertureDeskLaw", "below", "(II)I"⟩, method_2_code, 2, (some .int), [], 2, 1, false, 99, 0, (3196, 3195, 1000, 0)),
  (⟨"OvertureDeskLaw", "below", "(II)I"⟩, method_2_code, 2, (some .int), [], 2, 1, false, 99, 0, (3196, 3195, 1000, 0)),
  (⟨"OvertureDeskLaw", "below", "(II)I"⟩, method_2_code, 2, (some .int), [], 2, 1, false, 99, 0, (3196, 3195, 1000, 0)),
  (⟨"OvertureDeskLaw", "below", "(II)I"⟩, method_2_code, 2, (some .int), [], 2, 1, false, 99, 0, (3196, 3195, 1000, 0)),
  (⟨"OvertureDeskLaw", "below", "(II)I"⟩, method_2_code, 2, (some .int), [], 2, 1, false, 99, 0, (3196, 3195, 1000, 0)),
  (⟨"OvertureDeskLaw", "below", "(II)I"⟩, method_2_code, 2, (some .int), [], 2, 1, false, 99, 0, (3196, 3195, 1000, 0)),
  (⟨"OvertureDeskLaw", "below", "(II)I"⟩, method_2_code, 2, (some .int), [], 2, 1, false, 99, 0, (3196, 3195, 1000, 0)),
  (⟨"OvertureDeskLaw", "below", "(II)I"⟩, method_2_code, 2, (some .int), [], 2, 1, false, 99, 0, (3196, 3195, 1000, 0)),
  (⟨"OvertureDeskLaw", "below", "(II)I"⟩, method_2_code, 2, (some .int), [], 2, 1, false, 99, 0, (3196, 3195, 1000, 0)),
  (⟨"OvertureDeskLaw", "below", "(II)I"⟩, method_2_code, 2, (some .int), [], 2, 1, false, 99, 0, (3196, 3195, 1000, 0)),
  (⟨"OvertureDeskLaw", "below", "(II)I"⟩, method_2_code, 2, (some .int), [], 2, 1, false, 99, 0, (3196, 3195, 1000, 0)),
  (⟨"OvertureDeskLaw", "below", "(II)I"⟩, method_2_code, 2, (some .int), [], 2, 1, false, 99, 0, (3196, 3195, 1000, 0)),
  (⟨"OvertureDeskLaw", "below", "(II)I"⟩, method_2_code, 2, (some .int), [], 2, 1, false, 99, 0, (3196, 3195, 1000, 0)),
  (⟨"OvertureDeskLaw", "below", "(II)I"⟩, method_2_code, 2, (some .int), [], 2, 1, false, 99, 0, (3196, 3195, 1000, 0)),
  (⟨"OvertureDeskLaw", "below", "(II)I"⟩, method_2_code, 2, (some .int), [], 2, 1, false, 99, 0, (3196, 3195, 1000, 0)),
  (⟨"OvertureDeskLaw", "below", "(II)I"⟩, method_2_code, 2, (some .int), [], 2, 1, false, 99, 0, (3196, 3195, 1000, 0)),
  (⟨"OvertureDeskLaw", "below", "(II)I"⟩, method_2_code, 2, (some .int), [], 2, 1, false, 99, 0, (3196, 3195, 1000, 0)),
  (⟨"OvertureDeskLaw", "below", "(II)I"⟩, method_2_code, 2, (some .int), [], 2, 1, false, 99, 0, (3196, 3195, 1000, 0)),
  (⟨"OvertureDeskLaw", "below", "(II)I"⟩, method_2_code, 2, (some .int), [], 2, 1, false, 99, 0, (3196, 3195, 1000, 0)),
  (⟨"OvertureDeskLaw", "below", "(II)I"⟩, method_2_code, 2, (some .int), [], 2, 1, false, 99, 0, (3196, 3195, 1000, 0)),
  (⟨"OvertureDeskLaw", "below", "(II)I"⟩, method_2_code, 2, (some .int), [], 2, 1, false, 99, 0, (3196, 3195, 1000, 0)),
  (⟨"OvertureDeskLaw", "below", "(II)I"⟩, method_2_code, 2, (some .int), [], 2, 1, false, 99, 0, (3196, 3195, 1000, 0)),
  (⟨"OvertureDeskLaw", "below", "(II)I"⟩, method_2_code, 2, (some .int), [], 2, 1, false, 99, 0, (3196, 3195, 1000, 0)),
  (⟨"OvertureDeskLaw", "below", "(II)I"⟩, method_2_code, 2, (some .int), [], 2, 1, false, 99, 0, (3196, 3195, 1000, 0)),
  (⟨"OvertureDeskLaw", "below", "(II)I"⟩, method_2_code, 2, (some .int), [], 2, 1, false, 99, 0, (3196, 3195, 1000, 0)),
  (⟨"OvertureDeskLaw", "below", "(II)I"⟩, method_2_code, 2, (some .int), [], 2, 1, false, 99, 0, (3196, 3195, 1000, 0)),
  (⟨"OvertureDeskLaw", "below", "(II)I"⟩, method_2_code, 2, (some .int), [], 2, 1, false, 99, 0, (3196, 3195, 1000, 0)),
  (⟨"OvertureDeskLaw", "below", "(II)I"⟩, method_2_code, 2, (some .int), [], 2, 1, false, 99, 0, (3196, 3195, 1000, 0)),
  (⟨"OvertureDeskLaw", "below", "(II)I"⟩, method_2_code, 2, (some .int), [], 2, 1, false, 99, 0, (3196, 3195, 1000, 0)),
  (⟨"OvertureDeskLaw", "below", "(II)I"⟩, method_2_code, 2, (some .int), [], 2, 1, false, 99, 0, (3196, 3195, 1000, 0)),
  (⟨"OvertureDeskLaw", "below", "(II)I"⟩, method_2_code, 2, (some .int), [], 2, 1, false, 99, 0, (3196, 3195, 1000, 0)),
  (⟨"OvertureDeskLaw", "below", "(II)I"⟩, method_2_code, 2, (some .int), [], 2, 1, false, 99, 0, (3196, 3195, 1000, 0)),
  (⟨"OvertureDeskLaw", "below", "(II)I"⟩, method_2_code, 2, (some .int), [], 2, 1, false, 99, 0, (3196, 3195, 1000, 0))]
def aMT_6 : List aMR := [(⟨"OvertureDeskLaw", "below", "(II)I"⟩, method_2_code, 2, (some .int), [], 2, 1, false, 99, 0, (3196, 3195, 1000, 0)),
  (⟨"OvertureDeskLaw", "below", "(II)I"⟩, method_2_code, 2, (some .int), [], 2, 1, false, 99, 0, (3196, 3195, 1000, 0)),
  (⟨"OvertureDeskLaw", "below", "(II)I"⟩, method_2_code, 2, (some .int), [], 2, 1, false, 99, 0, (3196, 3195, 1000, 0)),
  (⟨"OvertureDeskLaw", "below", "(II)I"⟩, method_2_code, 2, (some .int), [], 2, 1, false, 99, 0, (3196, 3195, 1000, 0)),
  (⟨"OvertureDeskLaw", "below", "(II)I"⟩, method_2_code, 2, (some .int), [], 2, 1, false, 99, 0, (3196, 3195, 1000, 0)),
  (⟨"OvertureDeskLaw", "below", "(II)I"⟩, method_2_code, 2, (some .int), [], 2, 1, false, 99, 0, (3196, 3195, 1000, 0)),
  (⟨"OvertureDeskLaw", "below", "(II)I"⟩, method_2_code, 2, (some .int), [], 2, 1, false, 99, 0, (3196, 3195, 1000, 0)),
  (⟨"OvertureDeskLaw", "below", "(II)I"⟩, method_2_code, 2, (some .int), [], 2, 1, false, 99, 0, (3196, 3195, 1000, 0)),
  (⟨"OvertureDeskLaw", "below", "(II)I"⟩, method_2_code, 2, (some .int), [], 2, 1, false, 99, 0, (3196, 3195, 1000, 0)),
  (⟨"OvertureDeskLaw", "below", "(II)I"⟩, method_2_code, 2, (some .int), [], 2, 1, false, 99, 0, (3196, 3195, 1000, 0)),
  (⟨"OvertureDeskLaw", "below", "(II)I"⟩, method_2_code, 2, (some .int), [], 2, 1, false, 99, 0, (3196, 3195, 1000, 0)),
  (⟨"OvertureDeskLaw", "below", "(II)I"⟩, method_2_code, 2, (some .int), [], 2, 1, false, 99, 0, (3196, 3195, 1000, 0)),
  (⟨"OvertureDeskLaw", "below", "(II)I"⟩, method_2_code, 2, (some .int), [], 2, 1, false, 99, 0, (3196, 3195, 1000, 0)),
  (⟨"OvertureDeskLaw", "below", "(II)I"⟩, method_2_code, 2, (some .int), [], 2, 1, false, 99, 0, (3196, 3195, 1000, 0)),
  (⟨"OvertureDeskLaw", "below", "(II)I"⟩, method_2_code, 2, (some .int), [], 2, 1, false, 99, 0, (3196, 3195, 1000, 0)),
  (⟨"OvertureDeskLaw", "below", "(II)I"⟩, method_2_code, 2, (some .int), [], 2, 1, false, 99, 0, (3196, 3195, 1000, 0)),
  (⟨"OvertureDeskLaw", "below", "(II)I"⟩, method_2_code, 2, (some .int), [], 2, 1, false, 99, 0, (3196, 3195, 1000, 0)),
  (⟨"OvertureDeskLaw", "below", "(II)I"⟩, method_2_code, 2, (some .int), [], 2, 1, false, 99, 0, (3196, 3195, 1000, 0)),
  (⟨"OvertureDeskLaw", "below", "(II)I"⟩, method_2_code, 2, (some .int), [], 2, 1, false, 99, 0, (3196, 3195, 1000, 0)),
  (⟨"OvertureDeskLaw", "below", "(II)I"⟩, method_2_code, 2, (some .int), [], 2, 1, false, 99, 0, (3196, 3195, 1000, 0)),
  (⟨"OvertureDeskLaw", "below", "(II)I"⟩, method_2_code, 2, (some .int), [], 2, 1, false, 99, 0, (3196, 3195, 1000, 0)),
  (⟨"java/lang/Math", "floorMod", "(II)I"⟩, prog_19_method_50_code, 3, (some .int), [], 2, 1, false, 99, 14, (2064, 2063, 1011, 0)),
  (⟨"java/lang/Math", "abs", "(I)I"⟩, prog_19_method_59_code, 1, (some .int), [], 1, 1, false, 99, 14, (3137, 3136, 1011, 0)),
  (⟨"java/lang/Math", "max", "(II)I"⟩, prog_19_method_65_code, 2, (some .int), [], 2, 1, false, 99, 14, (2219, 2218, 1011, 0)),
  (⟨"java/lang/Math", "min", "(II)I"⟩, prog_19_method_69_code, 2, (some .int), [], 2, 1, false, 99, 14, (2192, 2191, 1011, 0))]
def aMT : List aMR := aMT_0 ++ aMT_1 ++ aMT_2 ++ aMT_3 ++ aMT_4 ++ aMT_5 ++ aMT_6
/-- call sites: own class, index, method, the nest's host, place -/
def aKT : List (Nat × Nat × Nat × String × Nat) := [(0, 11, 34, "", 1022), (0, 12, 3, "", 3142), (0, 18, 1, "", 3185), (0, 22, 85, "", 2145), (0, 26, 5, "", 4173), (0, 30, 6, "", 4185), (0, 33, 7, "", 4223), (0, 36, 61, "", 2137), (0, 40, 4, "", 3146), (0, 43, 62, "", 2141), (0, 46, 59, "", 1222), (0, 49, 264, "", 5003), (0, 55, 60, "", 2128), (0, 58, 57, "", 3150), (0, 61, 58, "", 3155), (0, 67, 51, "", 3190), (0, 70, 2, "", 3194), (0, 73, 263, "", 3198), (0, 76, 38, "", 3199), (0, 80, 39, "", 4002), (0, 84, 40, "", 4031), (0, 87, 44, "", 4043), (0, 91, 45, "", 4066), (0, 94, 78, "", 4077), (0, 97, 48, "", 4082), (0, 101, 49, "", 4087), (0, 105, 50, "", 4096), (0, 108, 53, "", 4102), (0, 112, 54, "", 4113), (0, 115, 64, "", 4147), (0, 118, 55, "", 4155), (0, 121, 68, "", 4162), (0, 124, 56, "", 4167), (0, 131, 52, "", 4176), (0, 134, 70, "", 4181), (0, 137, 71, "", 4188), (0, 140, 72, "", 4192), (0, 143, 73, "", 4198), (0, 146, 74, "", 4206), (0, 149, 75, "", 4210), (0, 152, 76, "", 4214), (0, 156, 66, "", 4226), (0, 159, 65, "", 4230), (0, 162, 67, "", 4235), (0, 165, 81, "", 4239), (1, 3, 1000, "", 1025), (1, 11, 166, "OvertureDesk", 1030), (1, 18, 105, "", 1166), (1, 25, 137, "OvertureDesk", 1189), (1, 32, 151, "OvertureDesk", 1192), (1, 41, 35, "", 3203), (1, 45, 36, "", 3138), (1, 48, 33, "", 3141), (1, 64, 143, "", 3223), (1, 73, 86, "", 3228), (1, 79, 146, "", 3229), (1, 83, 37, "", 3238), (1, 86, 144, "", 4006), (1, 94, 147, "", 4026), (1, 98, 142, "", 2154), (1, 101, 138, "", 2162), (1, 105, 88, "", 3125), (1, 108, 92, "", 4035), (1, 113, 94, "", 4037), (1, 117, 93, "", 4040), (1, 120, 42, "", 4047), (1, 125, 43, "", 4054), (1, 131, 97, "", 3126), (1, 135, 89, "", 4058), (1, 138, 95, "", 4060), (1, 141, 140, "", 4061), (1, 145, 149, "", 4062), (1, 150, 91, "", 4071), (1, 153, 264, "", 4072), (1, 159, 263, "", 4073), (1, 162, 96, "", 4074), (1, 169, 47, "", 3129), (1, 175, 148, "", 4092), (1, 184, 99, "", 2163), (1, 196, 173, "", 4108), (1, 202, 180, "", 4109), (1, 217, 125, "", 4118), (1, 222, 126, "", 4127), (1, 227, 127, "", 4132), (1, 228, 128, "", 4141), (1, 231, 122, "", 4146), (1, 245, 41, "", 4050), (1, 261, 113, "", 4172), (1, 269, 107, "", 3160), (1, 275, 109, "", 2054), (1, 284, 110, "", 2133), (1, 287, 63, "", 4151), (1, 290, 170, "", 2181), (1, 295, 171, "", 2196), (1, 298, 134, "", 2202), (1, 301, 135, "", 2229), (1, 306, 136, "", 2233), (1, 309, 150, "", 3001), (1, 312, 158, "", 3011), (1, 315, 152, "", 3084), (1, 320, 161, "", 3067), (1, 321, 153, "", 3088), (1, 322, 104, "", 3089), (1, 325, 162, "", 4202), (1, 328, 163, "", 3101), (1, 331, 164, "", 3106), (1, 334, 165, "", 4218), (1, 338, 77, "", 3121), (1, 341, 159, "", 3111), (1, 345, 80, "", 3115), (1, 351, 83, "", 2150), (1, 355, 82, "", 2158), (1, 359, 84, "", 3080), (1, 368, 46, "", 3132), (1, 371, 262, "", 3135), (2, 9, 88, "", 2169), (2, 15, 90, "", 2172), (2, 18, 87, "", 2166), (2, 21, 89, "", 2175), (2, 24, 91, "", 2178), (2, 27, 86, "", 3042), (2, 31, 92, "", 3008), (3, 7, 101, "", 3092), (3, 13, 102, "", 3095), (3, 17, 103, "", 3098), (4, 3, 1000, "", 1169), (4, 17, 166, "OvertureDesk", 1172), (4, 22, 106, "", 2065), (4, 26, 167, "", 3164), (4, 30, 261, "", 2062), (4, 39, 264, "", 3184), (4, 45, 168, "", 2069), (4, 49, 108, "", 2058), (5, 1, 1000, "", 1122), (6, 3, 1000, "", 1076), (6, 21, 114, "", 1077), (6, 29, 29, "OvertureDesk", 1081), (6, 33, 116, "", 2111), (6, 37, 117, "", 2116), (6, 40, 118, "", 2120), (6, 43, 31, "OvertureDesk", 2115), (6, 47, 123, "", 4126), (6, 50, 124, "", 4122), (6, 54, 125, "", 4136), (6, 57, 121, "", 4137), (6, 61, 126, "", 4145), (7, 3, 1000, "", 1108), (7, 11, 115, "", 1110), (7, 20, 118, "", 2224), (7, 24, 263, "", 2217), (7, 30, 117, "", 2216), (7, 33, 130, "", 2220), (7, 36, 116, "", 2211), (7, 39, 131, "", 2212), (7, 42, 122, "", 2210), (7, 46, 133, "", 2206), (7, 49, 132, "", 2225), (7, 52, 123, "", 2237), (8, 3, 1000, "", 1039), (8, 19, 30, "OvertureDesk", 2081), (8, 23, 32, "OvertureDesk", 2088), (8, 27, 143, "", 3233), (8, 31, 140, "", 2084), (8, 35, 145, "", 3234), (8, 39, 138, "", 2077), (8, 43, 263, "", 4030), (8, 49, 98, "", 3005), (9, 3, 1000, "", 1195), (9, 22, 30, "OvertureDesk", 3079), (9, 32, 179, "", 3015), (9, 38, 157, "", 3027), (9, 46, 142, "", 3031), (9, 52, 138, "", 3032), (9, 56, 89, "", 3033), (9, 62, 173, "", 3034), (9, 66, 87, "", 3035), (9, 69, 33, "OvertureDesk", 3036), (9, 73, 95, "", 3039), (9, 81, 174, "", 3045), (9, 84, 156, "", 3046), (9, 88, 88, "", 3050), (9, 91, 90, "", 3051), (9, 105, 155, "", 3052), (9, 109, 264, "", 3066), (9, 115, 263, "", 3056), (9, 118, 154, "", 3057), (9, 122, 91, "", 3061), (9, 125, 100, "", 3062), (9, 131, 32, "OvertureDesk", 3065), (9, 135, 160, "", 3071), (9, 139, 153, "", 3075), (9, 140, 101, "", 3110), (9, 143, 102, "", 3105), (9, 147, 103, "", 4222), (10, 1, 1000, "", 1033), (10, 9, 137, "OvertureDesk", 1036), (10, 18, 172, "OvertureDesk", 1050), (10, 25, 169, "OvertureDesk", 1067), (10, 32, 129, "OvertureDesk", 1105), (10, 39, 111, "OvertureDesk", 1119), (10, 44, 141, "", 2073), (10, 48, 176, "", 2091), (10, 55, 120, "", 2107), (10, 71, 113, "", 2124), (10, 75, 139, "", 3168), (10, 79, 175, "", 3172), (10, 82, 119, "", 3176), (10, 85, 112, "", 3180), (11, 3, 1000, "", 1070), (11, 11, 115, "", 1073), (11, 20, 122, "", 2185), (11, 24, 116, "", 2189), (11, 28, 264, "", 2190), (11, 34, 117, "", 2193), (11, 40, 170, "", 2201), (12, 3, 1000, "", 1053), (12, 21, 29, "OvertureDesk", 2098), (12, 25, 31, "OvertureDesk", 2095), (12, 29, 177, "", 3019), (12, 33, 178, "", 3023), (12, 37, 173, "", 2099), (12, 41, 174, "", 2103)]
/-- fields: own class, index, class, field, kind, place -/
def aFT : List (Nat × Nat × Nat × Nat × Nat × Nat) := [(1, 12, 9, 0, 3, 1206), (1, 19, 9, 1, 3, 1207), (1, 26, 9, 2, 3, 1208), (1, 33, 9, 3, 3, 1209), (1, 37, 9, 4, 1, 1210), (1, 61, 6, 0, 3, 1141), (1, 192, 6, 1, 3, 1145), (1, 207, 6, 2, 3, 1147), (1, 211, 7, 0, 3, 1099), (1, 236, 6, 3, 3, 1149), (1, 240, 3, 0, 3, 1113), (1, 251, 6, 4, 3, 1152), (1, 255, 1, 2, 0, 1132), (1, 264, 0, 2, 0, 1176), (1, 279, 0, 3, 0, 1178), (4, 11, 0, 0, 3, 1173), (4, 18, 0, 1, 0, 1174), (4, 36, 0, 2, 0, 1175), (4, 42, 0, 3, 0, 1177), (5, 7, 1, 0, 0, 1123), (5, 13, 1, 1, 0, 1126), (5, 16, 1, 2, 0, 1129), (6, 9, 2, 0, 3, 1084), (6, 15, 2, 1, 3, 1085), (6, 18, 2, 2, 3, 1086), (6, 25, 2, 3, 0, 1087), (7, 14, 3, 0, 3, 1111), (8, 9, 4, 0, 3, 1040), (8, 15, 4, 1, 0, 1041), (9, 9, 5, 0, 3, 1196), (9, 15, 5, 1, 3, 1197), (9, 18, 5, 2, 0, 1198), (9, 26, 6, 1, 3, 1144), (9, 42, 6, 0, 3, 1142), (9, 77, 6, 4, 3, 1151), (9, 94, 1, 1, 0, 1128), (9, 99, 1, 0, 0, 1125), (9, 102, 1, 2, 0, 1131), (10, 10, 6, 0, 3, 1140), (10, 19, 6, 1, 3, 1143), (10, 26, 6, 2, 3, 1146), (10, 33, 6, 3, 3, 1148), (10, 40, 6, 4, 3, 1150), (10, 51, 7, 0, 3, 1098), (10, 60, 3, 0, 3, 1112), (10, 61, 1, 0, 0, 1124), (10, 65, 1, 1, 0, 1127), (10, 68, 1, 2, 0, 1130), (11, 14, 7, 0, 3, 1097), (12, 9, 8, 0, 3, 1054), (12, 15, 8, 1, 3, 1055), (12, 18, 8, 2, 3, 1056)]
/-- new: own class, index, class, places -/
def aNT : List (Nat × Nat × Nat × Nat × Nat × Nat) := [(0, 9, 9, 1020, 1021, 1001), (1, 9, 6, 1028, 1029, 1002), (1, 16, 0, 1164, 1165, 1009), (1, 23, 4, 1188, 1035, 1003), (1, 30, 5, 1190, 1191, 1010), (4, 9, 6, 1170, 1029, 1002), (7, 9, 2, 1109, 1072, 1006), (10, 7, 4, 1034, 1035, 1003), (10, 16, 8, 1048, 1049, 1004), (10, 23, 7, 1065, 1066, 1005), (10, 30, 3, 1103, 1104, 1007), (10, 37, 1, 1117, 1118, 1008), (11, 9, 2, 1071, 1072, 1006)]
/-- names of classes: own class, index, class, place -/
def aCT : List (Nat × Nat × String × Nat) := [(0, 65, "java/lang/IllegalStateException", 3149), (0, 127, "java/lang/IndexOutOfBoundsException", 3188), (0, 129, "java/lang/IllegalArgumentException", 3189)]
def aIT : List (Nat × Nat × Int32 × Nat) := [(0, 7, 2147483647, 3197), (0, 8, 790386105, 3145), (1, 358, 1000000, 2195), (1, 374, 99999, 4154), (11, 39, 100000, 2200)]
def aLT : List (Nat × Nat × Int64 × Nat) := [(1, 349, 2671, 2149), (1, 362, 31, 2161), (11, 37, 62500, 2194)]
/-- static fields: own class, index, value, place, the field -/
def aGT : List (Nat × Nat × Value × Nat × String × String × String) := [(1, 364, .ref 1, 3119, "OvertureDesk", "STEPS_TO_TRY", "[I")]
def aAT : List (Nat × Nat × String × Nat) := [(4, 9, "OvertureDesk$Song", 1170)]
def aUT : List (Nat × Nat × String × Nat) := []
/-- throws: method, place, class, indices of class, text, constructor, wide, the text -/
def aXT : List (Nat × Nat × String × Nat × Nat × Nat × Bool × String) := [(38, 25, "java/lang/IllegalArgumentException", 52, 54, 56, false, "no such track, tick or length"),
  (38, 57, "java/lang/IllegalArgumentException", 52, 59, 56, false, "no such pitch or force"),
  (38, 81, "java/lang/IllegalStateException", 68, 70, 72, false, "no room for a note"),
  (39, 14, "java/lang/IndexOutOfBoundsException", 89, 91, 93, false, "no note at this place"),
  (40, 14, "java/lang/IndexOutOfBoundsException", 89, 91, 93, false, "no note at this place"),
  (40, 67, "java/lang/IllegalArgumentException", 52, 111, 56, false, "the note can not be split at this tick"),
  (40, 91, "java/lang/IllegalStateException", 68, 70, 72, false, "no room for a note"),
  (44, 21, "java/lang/IllegalArgumentException", 52, 123, 56, false, "no such range or interval"),
  (44, 43, "java/lang/IllegalStateException", 68, 129, 72, false, "a pitch would not be 0 to 127"),
  (45, 21, "java/lang/IllegalArgumentException", 52, 148, 56, false, "no such range or percents"),
  (48, 21, "java/lang/IllegalArgumentException", 52, 165, 56, false, "no such range or step"),
  (48, 53, "java/lang/IllegalArgumentException", 52, 167, 56, false, "no such swing or strength"),
  (49, 9, "java/lang/IllegalArgumentException", 52, 173, 56, false, "no such range"),
  (50, 7, "java/lang/IllegalArgumentException", 52, 178, 56, false, "no such tick"),
  (50, 74, "java/lang/IllegalStateException", 68, 180, 72, false, "no room for the notes"),
  (52, 14, "java/lang/IndexOutOfBoundsException", 89, 91, 93, false, "no note at this place"),
  (52, 33, "java/lang/IllegalArgumentException", 52, 182, 56, false, "a note tells 0 to 4"),
  (53, 7, "java/lang/IndexOutOfBoundsException", 89, 188, 93, false, "no such track"),
  (53, 41, "java/lang/IllegalArgumentException", 52, 190, 56, false, "no such shift or delay"),
  (54, 24, "java/lang/IllegalArgumentException", 52, 205, 56, false, "no such tick or speed"),
  (54, 68, "java/lang/IllegalStateException", 68, 225, 72, false, "the speeds can not be changed so"),
  (55, 20, "java/lang/IllegalArgumentException", 52, 232, 56, false, "no such bar or count of beats"),
  (55, 56, "java/lang/IllegalArgumentException", 52, 234, 56, false, "no such beat"),
  (55, 103, "java/lang/IllegalStateException", 68, 243, 72, false, "the meters can not be changed so"),
  (56, 18, "java/lang/IllegalArgumentException", 52, 249, 56, false, "no such stretch or times"),
  (57, 7, "java/lang/IllegalStateException", 68, 262, 72, true, "a group is open"),
  (58, 7, "java/lang/IllegalStateException", 68, 267, 72, true, "no group is open"),
  (59, 18, "java/lang/IllegalStateException", 68, 273, 72, true, "nothing can be taken back"),
  (60, 18, "java/lang/IllegalStateException", 68, 282, 72, true, "nothing can be done again"),
  (64, 7, "java/lang/IllegalArgumentException", 52, 178, 56, false, "no such tick"),
  (65, 4, "java/lang/IllegalArgumentException", 52, 293, 56, true, "no such time"),
  (66, 7, "java/lang/IllegalArgumentException", 52, 178, 56, false, "no such tick"),
  (67, 7, "java/lang/IllegalArgumentException", 52, 178, 56, false, "no such tick"),
  (68, 11, "java/lang/IllegalArgumentException", 52, 304, 56, true, "no such bar"),
  (72, 26, "java/lang/IndexOutOfBoundsException", 89, 316, 93, true, "no such event"),
  (72, 46, "java/lang/IllegalArgumentException", 52, 318, 56, true, "an event tells 0 to 3"),
  (73, 7, "java/lang/IllegalArgumentException", 52, 178, 56, false, "no such tick"),
  (78, 21, "java/lang/IllegalArgumentException", 52, 165, 56, false, "no such range or step"),
  (81, 9, "java/lang/IllegalArgumentException", 52, 173, 56, false, "no such range")]
/-- what a method wants of frames and of words of locals -/
def aRQ : List (Nat × Nat) := [(8, 197), (7, 164), (0, 0), (0, 0), (7, 132), (7, 108), (7, 171), (7, 173), (0, 0), (0, 0), (0, 0), (0, 0), (0, 0), (0, 0), (0, 0), (0, 0), (0, 0), (0, 0), (0, 0), (0, 0), (0, 0), (0, 0), (0, 0), (0, 0), (0, 0), (0, 0), (0, 0), (0, 0), (0, 0), (0, 0), (0, 0), (0, 0), (0, 0), (0, 0), (6, 129), (1, 22), (1, 22), (5, 112), (6, 132), (6, 132), (6, 132), (2, 42), (3, 63), (2, 45), (6, 132), (6, 132), (2, 42), (3, 71), (6, 132), (6, 92), (6, 132), (1, 20), (6, 82), (6, 132), (6, 132), (6, 132), (6, 132), (6, 82), (6, 112), (6, 133), (6, 133), (0, 0), (0, 0), (1, 22), (6, 82), (6, 93), (6, 133), (6, 133), (6, 130), (0, 0), (4, 88), (6, 149), (6, 149), (6, 149), (6, 149), (6, 149), (6, 149), (4, 94), (6, 123), (0, 0), (5, 123), (6, 150), (0, 0), (2, 43), (3, 65), (6, 150), (0, 0), (0, 0), (0, 0), (0, 0), (0, 0), (0, 0), (1, 21), (1, 24), (1, 24), (1, 24), (1, 24), (1, 21), (2, 42), (1, 21), (0, 0), (0, 0), (0, 0), (0, 0), (1, 21), (5, 108), (0, 0), (4, 89), (4, 89), (5, 112), (5, 112), (1, 20), (0, 0), (0, 0), (1, 22), (2, 46), (1, 21), (1, 21), (1, 21), (2, 42), (2, 46), (2, 46), (0, 0), (2, 42), (3, 65), (4, 86), (4, 86), (5, 107), (5, 107), (3, 68), (2, 42), (3, 64), (4, 85), (4, 85), (5, 109), (5, 109), (5, 108), (1, 20), (1, 21), (2, 42), (1, 23), (2, 46), (0, 0), (0, 0), (0, 0), (2, 46), (3, 70), (2, 46), (0, 0), (3, 70), (3, 65), (1, 20), (0, 0), (1, 21), (1, 24), (2, 48), (3, 73), (4, 101), (5, 127), (5, 127), (2, 42), (3, 68), (2, 42), (2, 42), (2, 42), (2, 42), (4, 88), (3, 64), (3, 68), (3, 68), (2, 42), (3, 69), (1, 20), (1, 21), (1, 21), (2, 42), (2, 42), (1, 21), (2, 43), (3, 64), (1, 22), (0, 0), (0, 0), (0, 0), (0, 0), (0, 0), (0, 0), (0, 0), (0, 0), (0, 0), (0, 0), (0, 0), (0, 0), (0, 0), (0, 0), (0, 0), (0, 0), (0, 0), (0, 0), (0, 0), (0, 0), (0, 0), (0, 0), (0, 0), (0, 0), (0, 0), (0, 0), (0, 0), (0, 0), (0, 0), (0, 0), (0, 0), (0, 0), (0, 0), (0, 0), (0, 0), (0, 0), (0, 0), (0, 0), (0, 0), (0, 0), (0, 0), (0, 0), (0, 0), (0, 0), (0, 0), (0, 0), (0, 0), (0, 0), (0, 0), (0, 0), (0, 0), (0, 0), (0, 0), (0, 0), (0, 0), (0, 0), (0, 0), (0, 0), (0, 0), (0, 0), (0, 0), (0, 0), (0, 0), (0, 0), (0, 0), (0, 0), (0, 0), (0, 0), (0, 0), (0, 0), (0, 0), (0, 0), (0, 0), (0, 0), (0, 0), (0, 0), (0, 0), (0, 0), (0, 0), (0, 0), (0, 0), (0, 0), (0, 0), (0, 0)]
