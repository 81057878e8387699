section
-- ===== PART A: goes FIRST, ahead of the names: the tables' words, and 'selects' of the private methods out of them =====
/-- a private method of a class that the tables say can be made, by its rows of tables_1 -/
def lw_okq (q : MethodName × Nat) : Prop := (q.1.cls ≠ "java/lang/invoke/MethodHandle" ∧ q.1.cls ≠ "java/lang/invoke/VarHandle") ∧ Cond.instantiable q.1.cls q.2 ∈ tables_1 ∧ Cond.privateMethod q.1 ∈ tables_1 ∧ Cond.instanceMethod q.1 ∈ tables_1
theorem lw_p0 : lw_okq (⟨"OvertureDesk$Marks", "putAll", "(IIII)V"⟩, 4) := ⟨⟨by decide +kernel, by decide +kernel⟩, List.mem_of_getElem? (i := 72) (by decide +kernel), List.mem_of_getElem? (i := 78) (by decide +kernel), List.mem_of_getElem? (i := 79) (by decide +kernel)⟩
theorem lw_p1 : lw_okq (⟨"java/lang/Throwable", "fillInStackTrace", "(I)Ljava/lang/Throwable;"⟩, 6) := ⟨⟨by decide +kernel, by decide +kernel⟩, List.mem_of_getElem? (i := 265) (by decide +kernel), List.mem_of_getElem? (i := 263) (by decide +kernel), List.mem_of_getElem? (i := 264) (by decide +kernel)⟩
theorem lw_p2 : lw_okq (⟨"OvertureDesk$History", "step", "(ILOvertureDesk$Song;)V"⟩, 4) := ⟨⟨by decide +kernel, by decide +kernel⟩, List.mem_of_getElem? (i := 165) (by decide +kernel), List.mem_of_getElem? (i := 299) (by decide +kernel), List.mem_of_getElem? (i := 300) (by decide +kernel)⟩
theorem lw_p3 : lw_okq (⟨"OvertureDesk$History", "songAt", "(I)LOvertureDesk$Song;"⟩, 4) := ⟨⟨by decide +kernel, by decide +kernel⟩, List.mem_of_getElem? (i := 165) (by decide +kernel), List.mem_of_getElem? (i := 306) (by decide +kernel), List.mem_of_getElem? (i := 307) (by decide +kernel)⟩
theorem lw_p4 : lw_okq (⟨"OvertureDesk", "addNotes", "(J)J"⟩, 5) := ⟨⟨by decide +kernel, by decide +kernel⟩, List.mem_of_getElem? (i := 21) (by decide +kernel), List.mem_of_getElem? (i := 391) (by decide +kernel), List.mem_of_getElem? (i := 392) (by decide +kernel)⟩
theorem lw_p5 : lw_okq (⟨"OvertureDesk$MeterMap", "meterAt", "(I)I"⟩, 1) := ⟨⟨by decide +kernel, by decide +kernel⟩, List.mem_of_getElem? (i := 104) (by decide +kernel), List.mem_of_getElem? (i := 447) (by decide +kernel), List.mem_of_getElem? (i := 448) (by decide +kernel)⟩
theorem lw_p6 : lw_okq (⟨"OvertureDesk$MeterMap", "barLength", "(I)I"⟩, 1) := ⟨⟨by decide +kernel, by decide +kernel⟩, List.mem_of_getElem? (i := 104) (by decide +kernel), List.mem_of_getElem? (i := 453) (by decide +kernel), List.mem_of_getElem? (i := 454) (by decide +kernel)⟩
theorem lw_p7 : lw_okq (⟨"OvertureDesk$MeterMap", "beatLength", "(I)I"⟩, 1) := ⟨⟨by decide +kernel, by decide +kernel⟩, List.mem_of_getElem? (i := 104) (by decide +kernel), List.mem_of_getElem? (i := 461) (by decide +kernel), List.mem_of_getElem? (i := 462) (by decide +kernel)⟩
theorem lw_p8 : lw_okq (⟨"OvertureDesk$MeterMap", "startOf", "(I)I"⟩, 1) := ⟨⟨by decide +kernel, by decide +kernel⟩, List.mem_of_getElem? (i := 104) (by decide +kernel), List.mem_of_getElem? (i := 466) (by decide +kernel), List.mem_of_getElem? (i := 467) (by decide +kernel)⟩
theorem lw_p9 : lw_okq (⟨"OvertureDesk$TrackSet", "isMarked", "(II)Z"⟩, 3) := ⟨⟨by decide +kernel, by decide +kernel⟩, List.mem_of_getElem? (i := 49) (by decide +kernel), List.mem_of_getElem? (i := 500) (by decide +kernel), List.mem_of_getElem? (i := 501) (by decide +kernel)⟩
theorem lw_p10 : lw_okq (⟨"OvertureDesk$TrackSet", "isAnyAlone", "()Z"⟩, 3) := ⟨⟨by decide +kernel, by decide +kernel⟩, List.mem_of_getElem? (i := 49) (by decide +kernel), List.mem_of_getElem? (i := 504) (by decide +kernel), List.mem_of_getElem? (i := 505) (by decide +kernel)⟩
theorem lw_p11 : lw_okq (⟨"OvertureDesk$Rendering", "addTrack", "(LOvertureDesk$Song;I)V"⟩, 3) := ⟨⟨by decide +kernel, by decide +kernel⟩, List.mem_of_getElem? (i := 191) (by decide +kernel), List.mem_of_getElem? (i := 508) (by decide +kernel), List.mem_of_getElem? (i := 509) (by decide +kernel)⟩
theorem lw_p12 : lw_okq (⟨"OvertureDesk$Rendering", "addNote", "(JLOvertureDesk$Loop;I)V"⟩, 3) := ⟨⟨by decide +kernel, by decide +kernel⟩, List.mem_of_getElem? (i := 191) (by decide +kernel), List.mem_of_getElem? (i := 527) (by decide +kernel), List.mem_of_getElem? (i := 528) (by decide +kernel)⟩
theorem lw_p13 : lw_okq (⟨"OvertureDesk$Rendering", "addOnce", "(JII)V"⟩, 3) := ⟨⟨by decide +kernel, by decide +kernel⟩, List.mem_of_getElem? (i := 191) (by decide +kernel), List.mem_of_getElem? (i := 533) (by decide +kernel), List.mem_of_getElem? (i := 534) (by decide +kernel)⟩
theorem lw_p14 : lw_okq (⟨"OvertureDesk$Rendering", "addEvent", "(JIZ)V"⟩, 3) := ⟨⟨by decide +kernel, by decide +kernel⟩, List.mem_of_getElem? (i := 191) (by decide +kernel), List.mem_of_getElem? (i := 538) (by decide +kernel), List.mem_of_getElem? (i := 539) (by decide +kernel)⟩
theorem lw_p15 : lw_okq (⟨"OvertureDesk$Rendering", "merge", "(III)V"⟩, 3) := ⟨⟨by decide +kernel, by decide +kernel⟩, List.mem_of_getElem? (i := 191) (by decide +kernel), List.mem_of_getElem? (i := 552) (by decide +kernel), List.mem_of_getElem? (i := 553) (by decide +kernel)⟩
def lw_privs_1 : List (MethodName × Nat) := [(⟨"OvertureDesk$Marks", "putAll", "(IIII)V"⟩, 4), (⟨"java/lang/Throwable", "fillInStackTrace", "(I)Ljava/lang/Throwable;"⟩, 6), (⟨"OvertureDesk$History", "step", "(ILOvertureDesk$Song;)V"⟩, 4), (⟨"OvertureDesk$History", "songAt", "(I)LOvertureDesk$Song;"⟩, 4), (⟨"OvertureDesk", "addNotes", "(J)J"⟩, 5), (⟨"OvertureDesk$MeterMap", "meterAt", "(I)I"⟩, 1), (⟨"OvertureDesk$MeterMap", "barLength", "(I)I"⟩, 1), (⟨"OvertureDesk$MeterMap", "beatLength", "(I)I"⟩, 1), (⟨"OvertureDesk$MeterMap", "startOf", "(I)I"⟩, 1), (⟨"OvertureDesk$TrackSet", "isMarked", "(II)Z"⟩, 3), (⟨"OvertureDesk$TrackSet", "isAnyAlone", "()Z"⟩, 3), (⟨"OvertureDesk$Rendering", "addTrack", "(LOvertureDesk$Song;I)V"⟩, 3), (⟨"OvertureDesk$Rendering", "addNote", "(JLOvertureDesk$Loop;I)V"⟩, 3), (⟨"OvertureDesk$Rendering", "addOnce", "(JII)V"⟩, 3), (⟨"OvertureDesk$Rendering", "addEvent", "(JIZ)V"⟩, 3), (⟨"OvertureDesk$Rendering", "merge", "(III)V"⟩, 3)]
theorem lw_r1 : ∀ q ∈ lw_privs_1, lw_okq q := List.forall_mem_cons.mpr ⟨lw_p0, List.forall_mem_cons.mpr ⟨lw_p1, List.forall_mem_cons.mpr ⟨lw_p2, List.forall_mem_cons.mpr ⟨lw_p3, List.forall_mem_cons.mpr ⟨lw_p4, List.forall_mem_cons.mpr ⟨lw_p5, List.forall_mem_cons.mpr ⟨lw_p6, List.forall_mem_cons.mpr ⟨lw_p7, List.forall_mem_cons.mpr ⟨lw_p8, List.forall_mem_cons.mpr ⟨lw_p9, List.forall_mem_cons.mpr ⟨lw_p10, List.forall_mem_cons.mpr ⟨lw_p11, List.forall_mem_cons.mpr ⟨lw_p12, List.forall_mem_cons.mpr ⟨lw_p13, List.forall_mem_cons.mpr ⟨lw_p14, List.forall_mem_cons.mpr ⟨lw_p15, fun _ h => absurd h List.not_mem_nil⟩⟩⟩⟩⟩⟩⟩⟩⟩⟩⟩⟩⟩⟩⟩⟩
theorem lw_p16 : lw_okq (⟨"OvertureDesk", "addEvents", "(J)J"⟩, 5) := ⟨⟨by decide +kernel, by decide +kernel⟩, List.mem_of_getElem? (i := 21) (by decide +kernel), List.mem_of_getElem? (i := 561) (by decide +kernel), List.mem_of_getElem? (i := 562) (by decide +kernel)⟩
theorem lw_p17 : lw_okq (⟨"OvertureDesk", "fittingStep", "(III)I"⟩, 5) := ⟨⟨by decide +kernel, by decide +kernel⟩, List.mem_of_getElem? (i := 21) (by decide +kernel), List.mem_of_getElem? (i := 596) (by decide +kernel), List.mem_of_getElem? (i := 597) (by decide +kernel)⟩
theorem lw_p18 : lw_okq (⟨"OvertureDesk", "countOffGrid", "(IIII)I"⟩, 5) := ⟨⟨by decide +kernel, by decide +kernel⟩, List.mem_of_getElem? (i := 21) (by decide +kernel), List.mem_of_getElem? (i := 602) (by decide +kernel), List.mem_of_getElem? (i := 603) (by decide +kernel)⟩
theorem lw_p19 : lw_okq (⟨"OvertureDesk$NoteList", "sink", "(I)I"⟩, 2) := ⟨⟨by decide +kernel, by decide +kernel⟩, List.mem_of_getElem? (i := 35) (by decide +kernel), List.mem_of_getElem? (i := 715) (by decide +kernel), List.mem_of_getElem? (i := 716) (by decide +kernel)⟩
theorem lw_p20 : lw_okq (⟨"OvertureDesk", "settle", "()V"⟩, 5) := ⟨⟨by decide +kernel, by decide +kernel⟩, List.mem_of_getElem? (i := 21) (by decide +kernel), List.mem_of_getElem? (i := 719) (by decide +kernel), List.mem_of_getElem? (i := 720) (by decide +kernel)⟩
theorem lw_p21 : lw_okq (⟨"OvertureDesk", "canTranspose", "(IIII)Z"⟩, 5) := ⟨⟨by decide +kernel, by decide +kernel⟩, List.mem_of_getElem? (i := 21) (by decide +kernel), List.mem_of_getElem? (i := 775) (by decide +kernel), List.mem_of_getElem? (i := 776) (by decide +kernel)⟩
theorem lw_p22 : lw_okq (⟨"OvertureDesk$Marks", "beginsAt", "(I)Z"⟩, 4) := ⟨⟨by decide +kernel, by decide +kernel⟩, List.mem_of_getElem? (i := 72) (by decide +kernel), List.mem_of_getElem? (i := 843) (by decide +kernel), List.mem_of_getElem? (i := 844) (by decide +kernel)⟩
theorem lw_p23 : lw_okq (⟨"OvertureDesk$Marks", "move", "(II)V"⟩, 4) := ⟨⟨by decide +kernel, by decide +kernel⟩, List.mem_of_getElem? (i := 72) (by decide +kernel), List.mem_of_getElem? (i := 858) (by decide +kernel), List.mem_of_getElem? (i := 859) (by decide +kernel)⟩
def lw_privs_2 : List (MethodName × Nat) := [(⟨"OvertureDesk", "addEvents", "(J)J"⟩, 5), (⟨"OvertureDesk", "fittingStep", "(III)I"⟩, 5), (⟨"OvertureDesk", "countOffGrid", "(IIII)I"⟩, 5), (⟨"OvertureDesk$NoteList", "sink", "(I)I"⟩, 2), (⟨"OvertureDesk", "settle", "()V"⟩, 5), (⟨"OvertureDesk", "canTranspose", "(IIII)Z"⟩, 5), (⟨"OvertureDesk$Marks", "beginsAt", "(I)Z"⟩, 4), (⟨"OvertureDesk$Marks", "move", "(II)V"⟩, 4)]
theorem lw_r2 : ∀ q ∈ lw_privs_2, lw_okq q := List.forall_mem_cons.mpr ⟨lw_p16, List.forall_mem_cons.mpr ⟨lw_p17, List.forall_mem_cons.mpr ⟨lw_p18, List.forall_mem_cons.mpr ⟨lw_p19, List.forall_mem_cons.mpr ⟨lw_p20, List.forall_mem_cons.mpr ⟨lw_p21, List.forall_mem_cons.mpr ⟨lw_p22, List.forall_mem_cons.mpr ⟨lw_p23, fun _ h => absurd h List.not_mem_nil⟩⟩⟩⟩⟩⟩⟩⟩
def lw_privs : List (MethodName × Nat) := lw_privs_1 ++ (lw_privs_2)
def lw_tbl : List Cond := k2_sels lw_privs ++ tables_1
theorem lw_privs_ok : ∀ q ∈ lw_privs, lw_okq q := by
  show ∀ q ∈ lw_privs_1 ++ (lw_privs_2), lw_okq q
  exact List.forall_mem_append.mpr ⟨lw_r1, lw_r2⟩
/-- the streams that the claim lets the run draw from -/
abbrev lw_cs : List Choice := [Jvm.Choice.named "NaN.bits"]
theorem lw_bits : nanBits ∈ lw_cs := by first | decide | exact List.mem_cons_self | simp [lw_cs, nanBits]
end
section
/-! ===== tables, by program out of the claim (gen/mk01.py) ===== -/
def aT0 : u_T := fun k => match k with
  | 0 => ("OvertureDesk$History", "songs", "[LOvertureDesk$Song;", true)
  | 1 => ("OvertureDesk$History", "now", "I", false)
  | 2 => ("OvertureDesk$History", "behind", "I", false)
  | _ => ("OvertureDesk$History", "ahead", "I", false)
def aT1 : u_T := fun k => match k with
  | 0 => ("OvertureDesk$Loop", "from", "I", false)
  | 1 => ("OvertureDesk$Loop", "to", "I", false)
  | _ => ("OvertureDesk$Loop", "times", "I", false)
def aT2 : u_T := fun k => match k with
  | 0 => ("OvertureDesk$Marks", "places", "[I", true)
  | 1 => ("OvertureDesk$Marks", "firsts", "[I", true)
  | 2 => ("OvertureDesk$Marks", "seconds", "[I", true)
  | _ => ("OvertureDesk$Marks", "count", "I", false)
def aT3 : u_T := fun k => match k with
  | _ => ("OvertureDesk$MeterMap", "marks", "LOvertureDesk$Marks;", true)
def aT4 : u_T := fun k => match k with
  | 0 => ("OvertureDesk$NoteList", "codes", "[J", true)
  | _ => ("OvertureDesk$NoteList", "count", "I", false)
def aT5 : u_T := fun k => match k with
  | 0 => ("OvertureDesk$Rendering", "codes", "[J", true)
  | 1 => ("OvertureDesk$Rendering", "spare", "[J", true)
  | _ => ("OvertureDesk$Rendering", "count", "I", false)
def aT6 : u_T := fun k => match k with
  | 0 => ("OvertureDesk$Song", "notes", "LOvertureDesk$NoteList;", true)
  | 1 => ("OvertureDesk$Song", "tracks", "LOvertureDesk$TrackSet;", true)
  | 2 => ("OvertureDesk$Song", "speeds", "LOvertureDesk$SpeedMap;", true)
  | 3 => ("OvertureDesk$Song", "meters", "LOvertureDesk$MeterMap;", true)
  | _ => ("OvertureDesk$Song", "loop", "LOvertureDesk$Loop;", true)
def aT7 : u_T := fun k => match k with
  | _ => ("OvertureDesk$SpeedMap", "marks", "LOvertureDesk$Marks;", true)
def aT8 : u_T := fun k => match k with
  | 0 => ("OvertureDesk$TrackSet", "marks", "[I", true)
  | 1 => ("OvertureDesk$TrackSet", "shifts", "[I", true)
  | _ => ("OvertureDesk$TrackSet", "delays", "[I", true)
def aT9 : u_T := fun k => match k with
  | 0 => ("OvertureDesk", "song", "LOvertureDesk$Song;", true)
  | 1 => ("OvertureDesk", "history", "LOvertureDesk$History;", true)
  | 2 => ("OvertureDesk", "clipboard", "LOvertureDesk$NoteList;", true)
  | 3 => ("OvertureDesk", "rendering", "LOvertureDesk$Rendering;", true)
  | _ => ("OvertureDesk", "isGroupOpen", "Z", false)
def aT10 : u_T := fun k => match k with
  | 0 => ("OvertureDesk$Loop", "from", "I", false)
  | 1 => ("OvertureDesk$Loop", "to", "I", false)
  | _ => ("OvertureDesk$Loop", "times", "I", false)
def aT11 : u_T := fun _ => ("", "", "", false)
abbrev aCl : List vw_C := [("OvertureDesk$History", aT0, 4), ("OvertureDesk$Loop", aT1, 3), ("OvertureDesk$Marks", aT2, 4), ("OvertureDesk$MeterMap", aT3, 1), ("OvertureDesk$NoteList", aT4, 2), ("OvertureDesk$Rendering", aT5, 3), ("OvertureDesk$Song", aT6, 5), ("OvertureDesk$SpeedMap", aT7, 1), ("OvertureDesk$TrackSet", aT8, 3), ("OvertureDesk", aT9, 5), ("OvertureDesk$Loop", aT10, 3)]
/-- the kinds of the fields, by class -/
def aFK : List (List Nat) := [[3, 0, 0, 0], [0, 0, 0], [3, 3, 3, 0], [3], [3, 0], [3, 3, 0], [3, 3, 3, 3, 3], [3], [3, 3, 3], [3, 3, 3, 3, 1], [0, 0, 0], []]
def aON : List String := ["OvertureDeskLaw", "OvertureDesk", "OvertureDesk$NoteCode", "OvertureDesk$EventCode", "OvertureDesk$History", "OvertureDesk$Loop", "OvertureDesk$Marks", "OvertureDesk$MeterMap", "OvertureDesk$NoteList", "OvertureDesk$Rendering", "OvertureDesk$Song", "OvertureDesk$SpeedMap", "OvertureDesk$TrackSet", "OvertureDeskModel", "java/lang/Math"]
/-- a method: name, bytes, locals, answer, handlers, parameters, kind (0 by receiver, 1 static, 2 constructor), its cells die with it, class of the receiver, own class, places of its words -/
abbrev aMR : Type := MethodName × ByteArray × Nat × Option FieldType × List (Nat × Nat × Nat × Nat) × Nat × Nat × Bool × Nat × Nat × (Nat × Nat × Nat × Nat)
def aMT_0 : List aMR := [(⟨"OvertureDeskLaw", "law", "([I)Z"⟩, code, 6, (some .boolean), [], 1, 1, false, 99, 0, (0, 0, 1000, 0)),
  (⟨"OvertureDeskLaw", "act", "(LOvertureDesk;I)Z"⟩, method_6_code, 9, (some .boolean), [(35, 192, 711, 127), (193, 210, 711, 127), (211, 238, 711, 127), (239, 269, 711, 127), (270, 299, 711, 127), (300, 367, 711, 127), (368, 396, 711, 127), (397, 424, 711, 127), (425, 547, 711, 127), (548, 592, 711, 127), (593, 656, 711, 127), (657, 702, 711, 127), (703, 708, 711, 127), (35, 192, 735, 129), (193, 210, 735, 129), (211, 238, 735, 129), (239, 269, 735, 129), (270, 299, 735, 129), (300, 367, 735, 129), (368, 396, 735, 129), (397, 424, 735, 129), (425, 547, 735, 129), (548, 592, 735, 129), (593, 656, 735, 129), (657, 702, 735, 129), (703, 708, 735, 129), (35, 192, 759, 65), (193, 210, 759, 65), (211, 238, 759, 65), (239, 269, 759, 65), (270, 299, 759, 65), (300, 367, 759, 65), (368, 396, 759, 65), (397, 424, 759, 65), (425, 547, 759, 65), (548, 592, 759, 65), (593, 656, 759, 65), (657, 702, 759, 65), (703, 708, 759, 65)], 2, 1, false, 99, 0, (3187, 3186, 1000, 0)),
  (⟨"OvertureDeskLaw", "below", "(II)I"⟩, method_2_code, 2, (some .int), [], 2, 1, false, 99, 0, (3196, 3195, 1000, 0)),
  (⟨"OvertureDeskLaw", "cell", "([II)I"⟩, method_3_code, 2, (some .int), [], 2, 1, false, 99, 0, (3144, 3143, 1000, 0)),
  (⟨"OvertureDeskLaw", "isFree", "(LOvertureDesk;)Z"⟩, method_5_code, 2, (some .boolean), [(0, 17, 18, 65)], 1, 1, false, 99, 0, (3148, 3147, 1000, 0)),
  (⟨"OvertureDeskLaw", "areNotesRight", "(LOvertureDesk;)Z"⟩, method_7_code, 4, (some .boolean), [], 1, 1, false, 99, 0, (4175, 4174, 1000, 0)),
  (⟨"OvertureDeskLaw", "arePlayedRight", "(LOvertureDesk;)Z"⟩, method_8_code, 6, (some .boolean), [], 1, 1, false, 99, 0, (4187, 4186, 1000, 0)),
  (⟨"OvertureDeskLaw", "areTimesRight", "(LOvertureDesk;I)Z"⟩, method_9_code, 5, (some .boolean), [], 2, 1, false, 99, 0, (4225, 4224, 1000, 0)),
  (⟨"OvertureDeskLaw", "below", "(II)I"⟩, method_2_code, 2, (some .int), [], 2, 1, false, 99, 0, (3196, 3195, 1000, 0)),
  (⟨"OvertureDeskLaw", "below", "(II)I"⟩, method_2_code, 2, (some .int), [], 2, 1, false, 99, 0, (3196, 3195, 1000, 0)),
  (⟨"OvertureDeskLaw", "below", "(II)I"⟩, method_2_code, 2, (some .int), [], 2, 1, false, 99, 0, (3196, 3195, 1000, 0)),
  (⟨"OvertureDeskLaw", "below", "(II)I"⟩, method_2_code, 2, (some .int), [], 2, 1, false, 99, 0, (3196, 3195, 1000, 0)),
  (⟨"OvertureDeskLaw", "below", "(II)I"⟩, method_2_code, 2, (some .int), [], 2, 1, false, 99, 0, (3196, 3195, 1000, 0)),
  (⟨"OvertureDeskLaw", "below", "(II)I"⟩, method_2_code, 2, (some .int), [], 2, 1, false, 99, 0, (3196, 3195, 1000, 0)),
  (⟨"OvertureDeskLaw", "below", "(II)I"⟩, method_2_code, 2, (some .int), [], 2, 1, false, 99, 0, (3196, 3195, 1000, 0)),
  (⟨"OvertureDeskLaw", "below", "(II)I"⟩, method_2_code, 2, (some .int), [], 2, 1, false, 99, 0, (3196, 3195, 1000, 0)),
  (⟨"OvertureDeskLaw", "below", "(II)I"⟩, method_2_code, 2, (some .int), [], 2, 1, false, 99, 0, (3196, 3195, 1000, 0)),
  (⟨"OvertureDeskLaw", "below", "(II)I"⟩, method_2_code, 2, (some .int), [], 2, 1, false, 99, 0, (3196, 3195, 1000, 0)),
  (⟨"OvertureDeskLaw", "below", "(II)I"⟩, method_2_code, 2, (some .int), [], 2, 1, false, 99, 0, (3196, 3195, 1000, 0)),
  (⟨"OvertureDeskLaw", "below", "(II)I"⟩, method_2_code, 2, (some .int), [], 2, 1, false, 99, 0, (3196, 3195, 1000, 0)),
  (⟨"OvertureDeskLaw", "below", "(II)I"⟩, method_2_code, 2, (some .int), [], 2, 1, false, 99, 0, (3196, 3195, 1000, 0)),
  (⟨"OvertureDeskLaw", "below", "(II)I"⟩, method_2_code, 2, (some .int), [], 2, 1, false, 99, 0, (3196, 3195, 1000, 0)),
  (⟨"OvertureDeskLaw", "below", "(II)I"⟩, method_2_code, 2, (some .int), [], 2, 1, false, 99, 0, (3196, 3195, 1000, 0)),
  (⟨"OvertureDeskLaw", "below", "(II)I"⟩, method_2_code, 2, (some .int), [], 2, 1, false, 99, 0, (3196, 3195, 1000, 0)),
  (⟨"OvertureDeskLaw", "below", "(II)I"⟩, method_2_code, 2, (some .int), [], 2, 1, false, 99, 0, (3196, 3195, 1000, 0)),
  (⟨"OvertureDeskLaw", "below", "(II)I"⟩, method_2_code, 2, (some .int), [], 2, 1, false, 99, 0, (3196, 3195, 1000, 0)),
  (⟨"OvertureDeskLaw", "below", "(II)I"⟩, method_2_code, 2, (some .int), [], 2, 1, false, 99, 0, (3196, 3195, 1000, 0)),
  (⟨"OvertureDeskLaw", "below", "(II)I"⟩, method_2_code, 2, (some .int), [], 2, 1, false, 99, 0, (3196, 3195, 1000, 0)),
  (⟨"OvertureDeskLaw", "below", "(II)I"⟩, method_2_code, 2, (some .int), [], 2, 1, false, 99, 0, (3196, 3195, 1000, 0)),
  (⟨"OvertureDesk", "putInt", "([III)V"⟩, prog_1_method_55_code, 3, none, [], 3, 1, false, 9, 1, (1083, 1082, 1001, 0)),
  (⟨"OvertureDesk", "longAt", "([JI)J"⟩, prog_1_method_56_code, 2, (some .long), [], 2, 1, false, 9, 1, (2083, 2082, 1001, 0)),
  (⟨"OvertureDesk", "intAt", "([II)I"⟩, prog_1_method_54_code, 2, (some .int), [], 2, 1, false, 9, 1, (2097, 2096, 1001, 0)),
  (⟨"OvertureDesk", "putLong", "([JIJ)V"⟩, prog_1_method_57_code, 4, none, [], 3, 1, false, 9, 1, (2090, 2089, 1001, 0)),
  (⟨"OvertureDesk", "isWithin", "(III)Z"⟩, prog_1_method_48_code, 3, (some .boolean), [], 3, 1, false, 9, 1, (3038, 3037, 1001, 0)),
  (⟨"OvertureDesk", "<init>", "()V"⟩, prog_1_method_1_code, 1, none, [], 0, 2, false, 9, 1, (1024, 1023, 1001, 0)),
  (⟨"OvertureDesk", "isTrack", "(I)Z"⟩, prog_1_method_49_code, 1, (some .boolean), [], 1, 1, false, 9, 1, (3205, 3204, 1001, 0)),
  (⟨"OvertureDesk", "isTick", "(I)Z"⟩, prog_1_method_50_code, 1, (some .boolean), [], 1, 1, false, 9, 1, (3140, 3139, 1001, 0)),
  (⟨"OvertureDesk", "settle", "()V"⟩, prog_1_method_42_code, 1, none, [], 0, 0, false, 9, 1, (4001, 4000, 1001, 20)),
  (⟨"OvertureDesk", "write", "(IIIII)I"⟩, prog_1_method_2_code, 7, (some .int), [], 5, 0, false, 9, 1, (3202, 3200, 1001, 3201)),
  (⟨"OvertureDesk", "remove", "(I)I"⟩, prog_1_method_3_code, 2, (some .int), [], 1, 0, false, 9, 1, (4005, 4003, 1001, 4004))]
def aMT_1 : List aMR := [(⟨"OvertureDesk", "split", "(II)I"⟩, prog_1_method_4_code, 7, (some .int), [], 2, 0, false, 9, 1, (4034, 4032, 1001, 4033)),
  (⟨"OvertureDesk", "isStretch", "(II)Z"⟩, prog_1_method_52_code, 2, (some .boolean), [], 2, 1, false, 9, 1, (4052, 4051, 1001, 0)),
  (⟨"OvertureDesk", "isRange", "(III)Z"⟩, prog_1_method_53_code, 3, (some .boolean), [], 3, 1, false, 9, 1, (4049, 4048, 1001, 0)),
  (⟨"OvertureDesk", "canTranspose", "(IIII)Z"⟩, prog_1_method_43_code, 8, (some .boolean), [], 4, 0, false, 9, 1, (4057, 4056, 1001, 21)),
  (⟨"OvertureDesk", "transpose", "(IIII)I"⟩, prog_1_method_5_code, 9, (some .int), [], 4, 0, false, 9, 1, (4046, 4044, 1001, 4045)),
  (⟨"OvertureDesk", "weigh", "(IIII)I"⟩, prog_1_method_6_code, 10, (some .int), [], 4, 0, false, 9, 1, (4069, 4067, 1001, 4068)),
  (⟨"OvertureDesk", "nearestLine", "(III)I"⟩, prog_1_method_47_code, 10, (some .int), [], 3, 1, false, 9, 1, (3134, 3133, 1001, 0)),
  (⟨"OvertureDesk", "drawnStart", "(IIII)I"⟩, prog_1_method_46_code, 4, (some .int), [], 4, 1, false, 9, 1, (3131, 3130, 1001, 0)),
  (⟨"OvertureDesk", "quantise", "(IIIIII)I"⟩, prog_1_method_7_code, 13, (some .int), [], 6, 0, false, 9, 1, (4085, 4083, 1001, 4084)),
  (⟨"OvertureDesk", "copy", "(III)I"⟩, prog_1_method_8_code, 7, (some .int), [], 3, 0, false, 9, 1, (4090, 4088, 1001, 4089)),
  (⟨"OvertureDesk", "paste", "(I)I"⟩, prog_1_method_9_code, 7, (some .int), [], 1, 0, false, 9, 1, (4099, 4097, 1001, 4098)),
  (⟨"OvertureDesk", "notes", "()I"⟩, prog_1_method_10_code, 1, (some .int), [], 0, 0, false, 9, 1, (3193, 3191, 1001, 3192)),
  (⟨"OvertureDesk", "note", "(II)I"⟩, prog_1_method_11_code, 3, (some .int), [], 2, 0, false, 9, 1, (4179, 4177, 1001, 4178)),
  (⟨"OvertureDesk", "setTrack", "(IZZII)I"⟩, prog_1_method_12_code, 7, (some .int), [], 5, 0, false, 9, 1, (4105, 4103, 1001, 4104)),
  (⟨"OvertureDesk", "setSpeed", "(II)I"⟩, prog_1_method_13_code, 4, (some .int), [], 2, 0, false, 9, 1, (4116, 4114, 1001, 4115)),
  (⟨"OvertureDesk", "setMeter", "(III)I"⟩, prog_1_method_14_code, 5, (some .int), [], 3, 0, false, 9, 1, (4158, 4156, 1001, 4157)),
  (⟨"OvertureDesk", "setLoop", "(III)I"⟩, prog_1_method_15_code, 5, (some .int), [], 3, 0, false, 9, 1, (4170, 4168, 1001, 4169)),
  (⟨"OvertureDesk", "openGroup", "()I"⟩, prog_1_method_16_code, 1, (some .int), [], 0, 0, false, 9, 1, (3153, 3151, 1001, 3152)),
  (⟨"OvertureDesk", "closeGroup", "()Z"⟩, prog_1_method_17_code, 1, (some .boolean), [], 0, 0, false, 9, 1, (3158, 3156, 1001, 3157)),
  (⟨"OvertureDesk", "undo", "()I"⟩, prog_1_method_18_code, 1, (some .int), [], 0, 0, false, 9, 1, (1225, 1223, 1001, 1224)),
  (⟨"OvertureDesk", "redo", "()I"⟩, prog_1_method_19_code, 1, (some .int), [], 0, 0, false, 9, 1, (2131, 2129, 1001, 2130)),
  (⟨"OvertureDesk", "undos", "()I"⟩, prog_1_method_20_code, 1, (some .int), [], 0, 0, false, 9, 1, (2140, 2138, 1001, 2139)),
  (⟨"OvertureDesk", "redos", "()I"⟩, prog_1_method_21_code, 1, (some .int), [], 0, 0, false, 9, 1, (2144, 2142, 1001, 2143)),
  (⟨"OvertureDesk", "isFarTick", "(I)Z"⟩, prog_1_method_51_code, 1, (some .boolean), [], 1, 1, false, 9, 1, (4153, 4152, 1001, 0)),
  (⟨"OvertureDesk", "timeOf", "(I)I"⟩, prog_1_method_22_code, 2, (some .int), [], 1, 0, false, 9, 1, (4150, 4148, 1001, 4149)),
  (⟨"OvertureDesk", "tickOf", "(I)I"⟩, prog_1_method_23_code, 2, (some .int), [], 1, 0, false, 9, 1, (4233, 4231, 1001, 4232)),
  (⟨"OvertureDesk", "barOf", "(I)I"⟩, prog_1_method_24_code, 2, (some .int), [], 1, 0, false, 9, 1, (4229, 4227, 1001, 4228)),
  (⟨"OvertureDesk", "beatOf", "(I)I"⟩, prog_1_method_25_code, 2, (some .int), [], 1, 0, false, 9, 1, (4238, 4236, 1001, 4237)),
  (⟨"OvertureDesk", "tickOfBar", "(I)I"⟩, prog_1_method_26_code, 2, (some .int), [], 1, 0, false, 9, 1, (4165, 4163, 1001, 4164)),
  (⟨"OvertureDeskLaw", "below", "(II)I"⟩, method_2_code, 2, (some .int), [], 2, 1, false, 99, 0, (3196, 3195, 1000, 0)),
  (⟨"OvertureDesk", "clashes", "()I"⟩, prog_1_method_28_code, 1, (some .int), [], 0, 0, false, 9, 1, (4184, 4182, 1001, 4183)),
  (⟨"OvertureDesk", "events", "()I"⟩, prog_1_method_29_code, 1, (some .int), [], 0, 0, false, 9, 1, (4191, 4189, 1001, 4190)),
  (⟨"OvertureDesk", "event", "(II)I"⟩, prog_1_method_30_code, 3, (some .int), [], 2, 0, false, 9, 1, (4195, 4193, 1001, 4194)),
  (⟨"OvertureDesk", "sounding", "(I)I"⟩, prog_1_method_31_code, 2, (some .int), [], 1, 0, false, 9, 1, (4201, 4199, 1001, 4200)),
  (⟨"OvertureDesk", "most", "()I"⟩, prog_1_method_32_code, 1, (some .int), [], 0, 0, false, 9, 1, (4209, 4207, 1001, 4208)),
  (⟨"OvertureDesk", "playedTo", "()I"⟩, prog_1_method_33_code, 1, (some .int), [], 0, 0, false, 9, 1, (4213, 4211, 1001, 4212)),
  (⟨"OvertureDesk", "meanForce", "()D"⟩, prog_1_method_34_code, 1, (some .double), [], 0, 0, false, 9, 1, (4217, 4215, 1001, 4216)),
  (⟨"OvertureDesk", "countOffGrid", "(IIII)I"⟩, prog_1_method_44_code, 10, (some .int), [], 4, 0, false, 9, 1, (3124, 3123, 1001, 18)),
  (⟨"OvertureDesk", "wouldMove", "(IIII)I"⟩, prog_1_method_35_code, 5, (some .int), [], 4, 0, false, 9, 1, (4080, 4078, 1001, 4079)),
  (⟨"OvertureDeskLaw", "below", "(II)I"⟩, method_2_code, 2, (some .int), [], 2, 1, false, 99, 0, (3196, 3195, 1000, 0))]
def aMT_2 : List aMR := [(⟨"OvertureDesk", "fittingStep", "(III)I"⟩, prog_1_method_45_code, 8, (some .int), [], 3, 0, false, 9, 1, (3118, 3117, 1001, 17)),
  (⟨"OvertureDesk", "bestStep", "(III)I"⟩, prog_1_method_37_code, 4, (some .int), [], 3, 0, false, 9, 1, (5002, 5000, 1001, 5001)),
  (⟨"OvertureDesk", "add", "(JI)J"⟩, prog_1_method_39_code, 3, (some .long), [], 2, 1, false, 9, 1, (2160, 2159, 1001, 0)),
  (⟨"OvertureDesk", "addNotes", "(J)J"⟩, prog_1_method_40_code, 7, (some .long), [], 1, 0, false, 9, 1, (2153, 2152, 1001, 4)),
  (⟨"OvertureDesk", "addEvents", "(J)J"⟩, prog_1_method_41_code, 7, (some .long), [], 1, 0, false, 9, 1, (3083, 3082, 1001, 16)),
  (⟨"OvertureDesk", "digest", "()J"⟩, prog_1_method_38_code, 4, (some .long), [], 0, 0, false, 9, 1, (2148, 2146, 1001, 2147)),
  (⟨"OvertureDesk$NoteCode", "of", "(IIIII)J"⟩, prog_7_method_2_code, 5, (some .long), [], 5, 1, false, 99, 2, (3044, 3043, 1017, 0)),
  (⟨"OvertureDesk$NoteCode", "track", "(J)I"⟩, prog_7_method_3_code, 2, (some .int), [], 1, 1, false, 99, 2, (2168, 2167, 1017, 0)),
  (⟨"OvertureDesk$NoteCode", "start", "(J)I"⟩, prog_7_method_4_code, 2, (some .int), [], 1, 1, false, 99, 2, (2171, 2170, 1017, 0)),
  (⟨"OvertureDesk$NoteCode", "pitch", "(J)I"⟩, prog_7_method_5_code, 2, (some .int), [], 1, 1, false, 99, 2, (2177, 2176, 1017, 0)),
  (⟨"OvertureDesk$NoteCode", "length", "(J)I"⟩, prog_7_method_6_code, 2, (some .int), [], 1, 1, false, 99, 2, (2174, 2173, 1017, 0)),
  (⟨"OvertureDesk$NoteCode", "force", "(J)I"⟩, prog_7_method_7_code, 2, (some .int), [], 1, 1, false, 99, 2, (2180, 2179, 1017, 0)),
  (⟨"OvertureDesk$NoteCode", "end", "(J)I"⟩, prog_7_method_8_code, 2, (some .int), [], 1, 1, false, 99, 2, (3010, 3009, 1017, 0)),
  (⟨"OvertureDesk$NoteCode", "withStart", "(JI)J"⟩, prog_7_method_9_code, 3, (some .long), [], 2, 1, false, 99, 2, (4042, 4041, 1017, 0)),
  (⟨"OvertureDesk$NoteCode", "withLength", "(JI)J"⟩, prog_7_method_10_code, 3, (some .long), [], 2, 1, false, 99, 2, (4039, 4038, 1017, 0)),
  (⟨"OvertureDesk$NoteCode", "withPitch", "(JI)J"⟩, prog_7_method_11_code, 3, (some .long), [], 2, 1, false, 99, 2, (3041, 3040, 1017, 0)),
  (⟨"OvertureDesk$NoteCode", "withForce", "(JI)J"⟩, prog_7_method_12_code, 3, (some .long), [], 2, 1, false, 99, 2, (4076, 4075, 1017, 0)),
  (⟨"OvertureDesk$NoteCode", "isIn", "(JIII)Z"⟩, prog_7_method_13_code, 5, (some .boolean), [], 4, 1, false, 99, 2, (3128, 3127, 1017, 0)),
  (⟨"OvertureDesk$NoteCode", "isClash", "(JJ)Z"⟩, prog_7_method_14_code, 4, (some .boolean), [], 2, 1, false, 99, 2, (3007, 3006, 1017, 0)),
  (⟨"OvertureDesk$NoteCode", "fact", "(JI)I"⟩, prog_7_method_15_code, 3, (some .int), [], 2, 1, false, 99, 2, (2165, 2164, 1017, 0)),
  (⟨"OvertureDesk$EventCode", "of", "(IZIII)J"⟩, prog_2_method_2_code, 5, (some .long), [], 5, 1, false, 99, 3, (3064, 3063, 1019, 0)),
  (⟨"OvertureDesk$EventCode", "tick", "(J)I"⟩, prog_2_method_3_code, 2, (some .int), [], 1, 1, false, 99, 3, (3094, 3093, 1019, 0)),
  (⟨"OvertureDesk$EventCode", "isOn", "(J)Z"⟩, prog_2_method_4_code, 2, (some .boolean), [], 1, 1, false, 99, 3, (3097, 3096, 1019, 0)),
  (⟨"OvertureDesk$EventCode", "force", "(J)I"⟩, prog_2_method_5_code, 2, (some .int), [], 1, 1, false, 99, 3, (3100, 3099, 1019, 0)),
  (⟨"OvertureDesk$EventCode", "fact", "(JI)I"⟩, prog_2_method_6_code, 3, (some .int), [], 2, 1, false, 99, 3, (3091, 3090, 1019, 0)),
  (⟨"OvertureDesk$History", "<init>", "()V"⟩, prog_3_method_1_code, 2, none, [], 0, 2, false, 0, 4, (1168, 1167, 1009, 0)),
  (⟨"OvertureDesk$History", "songAt", "(I)LOvertureDesk$Song;"⟩, prog_3_method_6_code, 2, (some (.object "OvertureDesk$Song")), [], 1, 0, false, 0, 4, (2068, 2067, 1009, 3)),
  (⟨"OvertureDesk$History", "keep", "(LOvertureDesk$Song;)Z"⟩, prog_3_method_2_code, 4, (some .boolean), [], 1, 0, false, 0, 4, (3163, 3161, 1009, 3162)),
  (⟨"OvertureDesk$History", "step", "(ILOvertureDesk$Song;)V"⟩, prog_3_method_5_code, 4, none, [], 2, 0, false, 0, 4, (2061, 2060, 1009, 2)),
  (⟨"OvertureDesk$History", "stepBack", "(LOvertureDesk$Song;)V"⟩, prog_3_method_3_code, 2, none, [], 1, 0, false, 0, 4, (2057, 2055, 1009, 2056)),
  (⟨"OvertureDesk$History", "stepAhead", "(LOvertureDesk$Song;)V"⟩, prog_3_method_4_code, 2, none, [], 1, 0, false, 0, 4, (2136, 2134, 1009, 2135)),
  (⟨"OvertureDesk$Loop", "<init>", "()V"⟩, prog_4_method_1_code, 1, none, [], 0, 2, false, 1, 5, (1121, 1120, 1008, 0)),
  (⟨"OvertureDesk$Loop", "isLike", "(LOvertureDesk$Loop;)Z"⟩, prog_4_method_3_code, 2, (some .boolean), [], 1, 0, false, 1, 5, (3183, 3181, 1008, 3182)),
  (⟨"OvertureDesk$Loop", "put", "(III)V"⟩, prog_4_method_2_code, 4, none, [], 3, 0, false, 1, 5, (2127, 2125, 1008, 2126)),
  (⟨"OvertureDesk$Marks", "putAll", "(IIII)V"⟩, prog_5_method_2_code, 5, none, [], 4, 0, false, 2, 6, (1080, 1079, 1006, 0)),
  (⟨"OvertureDesk$Marks", "<init>", "(II)V"⟩, prog_5_method_1_code, 3, none, [], 2, 2, false, 2, 6, (1075, 1074, 1006, 0)),
  (⟨"OvertureDesk$Marks", "placeAt", "(I)I"⟩, prog_5_method_5_code, 2, (some .int), [], 1, 0, false, 2, 6, (2114, 2112, 1006, 2113)),
  (⟨"OvertureDesk$Marks", "firstAt", "(I)I"⟩, prog_5_method_6_code, 2, (some .int), [], 1, 0, false, 2, 6, (2119, 2117, 1006, 2118)),
  (⟨"OvertureDesk$Marks", "secondAt", "(I)I"⟩, prog_5_method_7_code, 2, (some .int), [], 1, 0, false, 2, 6, (2123, 2121, 1006, 2122)),
  (⟨"OvertureDesk$Marks", "isLike", "(LOvertureDesk$Marks;)Z"⟩, prog_5_method_15_code, 3, (some .boolean), [], 1, 0, false, 2, 6, (3179, 3177, 1006, 3178))]
def aMT_3 : List aMR := [(⟨"OvertureDesk$Marks", "takeFrom", "(LOvertureDesk$Marks;)V"⟩, prog_5_method_14_code, 3, none, [], 1, 0, false, 2, 6, (2110, 2108, 1006, 2109)),
  (⟨"OvertureDesk$Marks", "move", "(II)V"⟩, prog_5_method_3_code, 3, none, [], 2, 0, false, 2, 6, (4140, 4139, 1006, 23)),
  (⟨"OvertureDesk$Marks", "size", "()I"⟩, prog_5_method_4_code, 1, (some .int), [], 0, 0, false, 2, 6, (2188, 2186, 1006, 2187)),
  (⟨"OvertureDesk$Marks", "lastUpTo", "(I)I"⟩, prog_5_method_8_code, 4, (some .int), [], 1, 0, false, 2, 6, (3000, 2238, 1006, 2239)),
  (⟨"OvertureDesk$Marks", "beginsAt", "(I)Z"⟩, prog_5_method_9_code, 2, (some .boolean), [], 1, 0, false, 2, 6, (4125, 4124, 1006, 22)),
  (⟨"OvertureDesk$Marks", "canDrop", "(I)Z"⟩, prog_5_method_10_code, 2, (some .boolean), [], 1, 0, false, 2, 6, (4121, 4119, 1006, 4120)),
  (⟨"OvertureDesk$Marks", "canPut", "(I)Z"⟩, prog_5_method_11_code, 2, (some .boolean), [], 1, 0, false, 2, 6, (4130, 4128, 1006, 4129)),
  (⟨"OvertureDesk$Marks", "drop", "(I)V"⟩, prog_5_method_12_code, 3, none, [], 1, 0, false, 2, 6, (4135, 4133, 1006, 4134)),
  (⟨"OvertureDesk$Marks", "put", "(III)V"⟩, prog_5_method_13_code, 6, none, [], 3, 0, false, 2, 6, (4144, 4142, 1006, 4143)),
  (⟨"OvertureDesk$MeterMap", "<init>", "()V"⟩, prog_6_method_1_code, 1, none, [], 0, 2, false, 3, 7, (1107, 1106, 1007, 0)),
  (⟨"OvertureDesk$MeterMap", "beatLength", "(I)I"⟩, prog_6_method_2_code, 3, (some .int), [], 1, 0, false, 3, 7, (2223, 2222, 1007, 7)),
  (⟨"OvertureDesk$MeterMap", "barLength", "(I)I"⟩, prog_6_method_3_code, 2, (some .int), [], 1, 0, false, 3, 7, (2215, 2214, 1007, 6)),
  (⟨"OvertureDesk$MeterMap", "startOf", "(I)I"⟩, prog_6_method_4_code, 4, (some .int), [], 1, 0, false, 3, 7, (2228, 2227, 1007, 8)),
  (⟨"OvertureDesk$MeterMap", "meterAt", "(I)I"⟩, prog_6_method_5_code, 5, (some .int), [], 1, 0, false, 3, 7, (2209, 2208, 1007, 5)),
  (⟨"OvertureDesk$MeterMap", "barAt", "(I)I"⟩, prog_6_method_6_code, 5, (some .int), [], 1, 0, false, 3, 7, (2205, 2203, 1007, 2204)),
  (⟨"OvertureDesk$MeterMap", "beatAt", "(I)I"⟩, prog_6_method_7_code, 5, (some .int), [], 1, 0, false, 3, 7, (2232, 2230, 1007, 2231)),
  (⟨"OvertureDesk$MeterMap", "startOfBar", "(I)I"⟩, prog_6_method_8_code, 3, (some .int), [], 1, 0, false, 3, 7, (2236, 2234, 1007, 2235)),
  (⟨"OvertureDesk$NoteList", "<init>", "()V"⟩, prog_8_method_1_code, 1, none, [], 0, 2, false, 4, 8, (1038, 1037, 1003, 0)),
  (⟨"OvertureDesk$NoteList", "codeAt", "(I)J"⟩, prog_8_method_5_code, 2, (some .long), [], 1, 0, false, 4, 8, (2080, 2078, 1003, 2079)),
  (⟨"OvertureDesk$NoteList", "isLike", "(LOvertureDesk$NoteList;)Z"⟩, prog_8_method_14_code, 3, (some .boolean), [], 1, 0, false, 4, 8, (3171, 3169, 1003, 3170)),
  (⟨"OvertureDesk$NoteList", "put", "(IJ)V"⟩, prog_8_method_6_code, 4, none, [], 2, 0, false, 4, 8, (2087, 2085, 1003, 2086)),
  (⟨"OvertureDesk$NoteList", "takeFrom", "(LOvertureDesk$NoteList;)V"⟩, prog_8_method_13_code, 3, none, [], 1, 0, false, 4, 8, (2076, 2074, 1003, 2075)),
  (⟨"OvertureDesk$NoteList", "size", "()I"⟩, prog_8_method_2_code, 1, (some .int), [], 0, 0, false, 4, 8, (2157, 2155, 1003, 2156)),
  (⟨"OvertureDesk$NoteList", "room", "()I"⟩, prog_8_method_3_code, 1, (some .int), [], 0, 0, false, 4, 8, (3226, 3224, 1003, 3225)),
  (⟨"OvertureDesk$NoteList", "has", "(I)Z"⟩, prog_8_method_4_code, 2, (some .boolean), [], 1, 0, false, 4, 8, (4009, 4007, 1003, 4008)),
  (⟨"OvertureDesk$NoteList", "sink", "(I)I"⟩, prog_8_method_11_code, 5, (some .int), [], 1, 0, false, 4, 8, (3237, 3236, 1003, 19)),
  (⟨"OvertureDesk$NoteList", "insert", "(J)I"⟩, prog_8_method_7_code, 3, (some .int), [], 1, 0, false, 4, 8, (3232, 3230, 1003, 3231)),
  (⟨"OvertureDesk$NoteList", "drop", "(I)V"⟩, prog_8_method_8_code, 3, none, [], 1, 0, false, 4, 8, (4029, 4027, 1003, 4028)),
  (⟨"OvertureDesk$NoteList", "clear", "()V"⟩, prog_8_method_9_code, 1, none, [], 0, 0, false, 4, 8, (4095, 4093, 1003, 4094)),
  (⟨"OvertureDesk$NoteList", "sort", "()V"⟩, prog_8_method_10_code, 2, none, [], 0, 0, false, 4, 8, (4065, 4063, 1003, 4064)),
  (⟨"OvertureDesk$NoteList", "countClashes", "()I"⟩, prog_8_method_12_code, 4, (some .int), [], 0, 0, false, 4, 8, (3004, 3002, 1003, 3003)),
  (⟨"OvertureDesk$Rendering", "<init>", "()V"⟩, prog_9_method_1_code, 1, none, [], 0, 2, false, 5, 9, (1194, 1193, 1010, 0)),
  (⟨"OvertureDesk$Rendering", "size", "()I"⟩, prog_9_method_2_code, 1, (some .int), [], 0, 0, false, 5, 9, (3087, 3085, 1010, 3086)),
  (⟨"OvertureDesk$Rendering", "codeAt", "(I)J"⟩, prog_9_method_3_code, 2, (some .long), [], 1, 0, false, 5, 9, (3078, 3076, 1010, 3077)),
  (⟨"OvertureDesk$Rendering", "addEvent", "(JIZ)V"⟩, prog_9_method_9_code, 5, none, [], 3, 0, false, 5, 9, (3060, 3059, 1010, 14)),
  (⟨"OvertureDesk$Rendering", "addOnce", "(JII)V"⟩, prog_9_method_8_code, 6, none, [], 3, 0, false, 5, 9, (3055, 3054, 1010, 13)),
  (⟨"OvertureDesk$Rendering", "addNote", "(JLOvertureDesk$Loop;I)V"⟩, prog_9_method_7_code, 9, none, [], 3, 0, false, 5, 9, (3049, 3048, 1010, 12)),
  (⟨"OvertureDesk$Rendering", "addTrack", "(LOvertureDesk$Song;I)V"⟩, prog_9_method_6_code, 7, none, [], 2, 0, false, 5, 9, (3030, 3029, 1010, 11)),
  (⟨"OvertureDesk$Rendering", "play", "(LOvertureDesk$Song;)V"⟩, prog_9_method_4_code, 3, none, [], 1, 0, false, 5, 9, (3014, 3012, 1010, 3013)),
  (⟨"OvertureDesk$Rendering", "playTrack", "(LOvertureDesk$Song;I)V"⟩, prog_9_method_5_code, 3, none, [], 2, 0, false, 5, 9, (3114, 3112, 1010, 3113))]
def aMT_4 : List aMR := [(⟨"OvertureDesk$Rendering", "merge", "(III)V"⟩, prog_9_method_11_code, 7, none, [], 3, 0, false, 5, 9, (3074, 3073, 1010, 15)),
  (⟨"OvertureDesk$Rendering", "sort", "()V"⟩, prog_9_method_10_code, 4, none, [], 0, 0, false, 5, 9, (3070, 3068, 1010, 3069)),
  (⟨"OvertureDesk$Rendering", "countAt", "(I)I"⟩, prog_9_method_12_code, 4, (some .int), [], 1, 0, false, 5, 9, (4205, 4203, 1010, 4204)),
  (⟨"OvertureDesk$Rendering", "greatestCount", "()I"⟩, prog_9_method_13_code, 4, (some .int), [], 0, 0, false, 5, 9, (3104, 3102, 1010, 3103)),
  (⟨"OvertureDesk$Rendering", "lastTick", "()I"⟩, prog_9_method_14_code, 3, (some .int), [], 0, 0, false, 5, 9, (3109, 3107, 1010, 3108)),
  (⟨"OvertureDesk$Rendering", "meanOfForces", "()D"⟩, prog_9_method_15_code, 4, (some .double), [], 0, 0, false, 5, 9, (4221, 4219, 1010, 4220)),
  (⟨"OvertureDesk$Song", "<init>", "()V"⟩, prog_10_method_1_code, 1, none, [], 0, 2, false, 6, 10, (1032, 1031, 1002, 0)),
  (⟨"OvertureDesk$Song", "isLike", "(LOvertureDesk$Song;)Z"⟩, prog_10_method_3_code, 2, (some .boolean), [], 1, 0, false, 6, 10, (3167, 3165, 1002, 3166)),
  (⟨"OvertureDesk$Song", "takeFrom", "(LOvertureDesk$Song;)V"⟩, prog_10_method_2_code, 2, none, [], 1, 0, false, 6, 10, (2072, 2070, 1002, 2071)),
  (⟨"OvertureDesk$SpeedMap", "<init>", "()V"⟩, prog_11_method_1_code, 1, none, [], 0, 2, false, 7, 11, (1069, 1068, 1005, 0)),
  (⟨"OvertureDesk$SpeedMap", "timeAt", "(I)I"⟩, prog_11_method_2_code, 8, (some .int), [], 1, 0, false, 7, 11, (2184, 2182, 1005, 2183)),
  (⟨"OvertureDesk$SpeedMap", "tickAt", "(I)I"⟩, prog_11_method_3_code, 5, (some .int), [], 1, 0, false, 7, 11, (2199, 2197, 1005, 2198)),
  (⟨"OvertureDesk$TrackSet", "<init>", "()V"⟩, prog_12_method_1_code, 1, none, [], 0, 2, false, 8, 12, (1052, 1051, 1004, 0)),
  (⟨"OvertureDesk$TrackSet", "shiftOf", "(I)I"⟩, prog_12_method_3_code, 2, (some .int), [], 1, 0, false, 8, 12, (2102, 2100, 1004, 2101)),
  (⟨"OvertureDesk$TrackSet", "delayOf", "(I)I"⟩, prog_12_method_4_code, 2, (some .int), [], 1, 0, false, 8, 12, (2106, 2104, 1004, 2105)),
  (⟨"OvertureDesk$TrackSet", "isLike", "(LOvertureDesk$TrackSet;)Z"⟩, prog_12_method_9_code, 3, (some .boolean), [], 1, 0, false, 8, 12, (3175, 3173, 1004, 3174)),
  (⟨"OvertureDesk$TrackSet", "takeFrom", "(LOvertureDesk$TrackSet;)V"⟩, prog_12_method_8_code, 3, none, [], 1, 0, false, 8, 12, (2094, 2092, 1004, 2093)),
  (⟨"OvertureDesk$TrackSet", "isMarked", "(II)Z"⟩, prog_12_method_5_code, 3, (some .boolean), [], 2, 0, false, 8, 12, (3022, 3021, 1004, 9)),
  (⟨"OvertureDesk$TrackSet", "isAnyAlone", "()Z"⟩, prog_12_method_6_code, 2, (some .boolean), [], 0, 0, false, 8, 12, (3026, 3025, 1004, 10)),
  (⟨"OvertureDesk$TrackSet", "isHeard", "(I)Z"⟩, prog_12_method_7_code, 2, (some .boolean), [], 1, 0, false, 8, 12, (3018, 3016, 1004, 3017)),
  (⟨"OvertureDesk$TrackSet", "put", "(IZZII)V"⟩, prog_12_method_2_code, 6, none, [], 5, 0, false, 8, 12, (4112, 4110, 1004, 4111)),
  (⟨"OvertureDeskLaw", "below", "(II)I"⟩, method_2_code, 2, (some .int), [], 2, 1, false, 99, 0, (3196, 3195, 1000, 0)),
  (⟨"OvertureDeskLaw", "below", "(II)I"⟩, method_2_code, 2, (some .int), [], 2, 1, false, 99, 0, (3196, 3195, 1000, 0)),
  (⟨"OvertureDeskLaw", "below", "(II)I"⟩, method_2_code, 2, (some .int), [], 2, 1, false, 99, 0, (3196, 3195, 1000, 0)),
  (⟨"OvertureDeskLaw", "below", "(II)I"⟩, method_2_code, 2, (some .int), [], 2, 1, false, 99, 0, (3196, 3195, 1000, 0)),
  (⟨"OvertureDeskLaw", "below", "(II)I"⟩, method_2_code, 2, (some .int), [], 2, 1, false, 99, 0, (3196, 3195, 1000, 0)),
  (⟨"OvertureDeskLaw", "below", "(II)I"⟩, method_2_code, 2, (some .int), [], 2, 1, false, 99, 0, (3196, 3195, 1000, 0)),
  (⟨"OvertureDeskLaw", "below", "(II)I"⟩, method_2_code, 2, (some .int), [], 2, 1, false, 99, 0, (3196, 3195, 1000, 0)),
  (⟨"OvertureDeskLaw", "below", "(II)I"⟩, method_2_code, 2, (some .int), [], 2, 1, false, 99, 0, (3196, 3195, 1000, 0)),
  (⟨"OvertureDeskLaw", "below", "(II)I"⟩, method_2_code, 2, (some .int), [], 2, 1, false, 99, 0, (3196, 3195, 1000, 0)),
  (⟨"OvertureDeskLaw", "below", "(II)I"⟩, method_2_code, 2, (some .int), [], 2, 1, false, 99, 0, (3196, 3195, 1000, 0)),
  (⟨"OvertureDeskLaw", "below", "(II)I"⟩, method_2_code, 2, (some .int), [], 2, 1, false, 99, 0, (3196, 3195, 1000, 0)),
  (⟨"OvertureDeskLaw", "below", "(II)I"⟩, method_2_code, 2, (some .int), [], 2, 1, false, 99, 0, (3196, 3195, 1000, 0)),
  (⟨"OvertureDeskLaw", "below", "(II)I"⟩, method_2_code, 2, (some .int), [], 2, 1, false, 99, 0, (3196, 3195, 1000, 0)),
  (⟨"OvertureDeskLaw", "below", "(II)I"⟩, method_2_code, 2, (some .int), [], 2, 1, false, 99, 0, (3196, 3195, 1000, 0)),
  (⟨"OvertureDeskLaw", "below", "(II)I"⟩, method_2_code, 2, (some .int), [], 2, 1, false, 99, 0, (3196, 3195, 1000, 0)),
  (⟨"OvertureDeskLaw", "below", "(II)I"⟩, method_2_code, 2, (some .int), [], 2, 1, false, 99, 0, (3196, 3195, 1000, 0)),
  (⟨"OvertureDeskLaw", "below", "(II)I"⟩, method_2_code, 2, (some .int), [], 2, 1, false, 99, 0, (3196, 3195, 1000, 0)),
  (⟨"OvertureDeskLaw", "below", "(II)I"⟩, method_2_code, 2, (some .int), [], 2, 1, false, 99, 0, (3196, 3195, 1000, 0)),
  (⟨"OvertureDeskLaw", "below", "(II)I"⟩, method_2_code, 2, (some .int), [], 2, 1, false, 99, 0, (3196, 3195, 1000, 0))]
def aMT_5 : List aMR := [(⟨"OvertureDeskLaw", "below", "(II)I"⟩, method_2_code, 2, (some .int), [], 2, 1, false, 99, 0, (3196, 3195, 1000, 0)),
  (⟨"OvertureDeskLaw", "below", "(II)I"⟩, method_2_code, 2, (some .int), [], 2, 1, false, 99, 0, (3196, 3195, 1000, 0)),
  (⟨"OvertureDeskLaw", "below", "(II)I"⟩, method_2_code, 2, (some .int), [], 2, 1, false, 99, 0, (3196, 3195, 1000, 0)),
  (⟨"OvertureDeskLaw", "below", "(II)I"⟩, method_2_code, 2, (some .int), [], 2, 1, false, 99, 0, (3196, 3195, 1000, 0)),
  (⟨"OvertureDeskLaw", "below", "(II)I"⟩, method_2_code, 2, (some .int), [], 2, 1, false, 99, 0, (3196, 3195, 1000, 0)),
  (⟨"OvertureDeskLaw", "below", "(II)I"⟩, method_2_code, 2, (some .int), [], 2, 1, false, 99, 0, (3196, 3195, 1000, 0)),
  (⟨"OvertureDeskLaw", "below", "(II)I"⟩, method_2_code, 2, (some .int), [], 2, 1, false, 99, 0, (3196, 3195, 1000, 0)),
  (⟨"OvertureDeskLaw", "below", "(II)I"⟩, method_2_code, 2, (some .int), [], 2, 1, false, 99, 0, (3196, 3195, 1000, 0)),
  (⟨"OvertureDeskLaw", "below", "(II)I"⟩, method_2_code, 2, (some .int), [], 2, 1, false, 99, 0, (3196, 3195, 1000, 0)),
  (⟨"OvertureDeskLaw", "below", "(II)I"⟩, method_2_code, 2, (some .int), [], 2, 1, false, 99, 0, (3196, 3195, 1000, 0)),
  (⟨"OvertureDeskLaw", "below", "(II)I"⟩, method_2_code, 2, (some .int), [], 2, 1, false, 99, 0, (3196, 3195, 1000, 0)),
  (⟨"OvertureDeskLaw", "below", "(II)I"⟩, method_2_code, 2, (some .int), [], 2, 1, false, 99, 0, (3196, 3195, 1000, 0)),
  (⟨"OvertureDeskLaw", "below", "(II)I"⟩, method_2_code, 2, (some .int), [], 2, 1, false, 99, 0, (3196, 3195, 1000, 0)),
  (⟨"OvertureDeskLaw", "below", "(II)I"⟩, method_2_code, 2, (some .int), [], 2, 1, false, 99, 0, (3196, 3195, 1000, 0)),
  (⟨"OvertureDeskLaw", "below", "(II)I"⟩, method_2_code, 2, (some .int), [], 2, 1, false, 99, 0, (3196, 3195, 1000, 0)),
  (⟨"OvertureDeskLaw", "below", "(II)I"⟩, method_2_code, 2, (some .int), [], 2, 1, false, 99, 0, (3196, 3195, 1000, 0)),
  (⟨"OvertureDeskLaw", "below", "(II)I"⟩, method_2_code, 2, (some .int), [], 2, 1, false, 99, 0, (3196, 3195, 1000, 0)),
  (⟨"OvertureDeskLaw", "below", "(II)I"⟩, method_2_code, 2, (some .int), [], 2, 1, false, 99, 0, (3196, 3195, 1000, 0)),
  (⟨"OvertureDeskLaw", "below", "(II)I"⟩, method_2_code, 2, (some .int), [], 2, 1, false, 99, 0, (3196, 3195, 1000, 0)),
  (⟨"OvertureDeskLaw", "below", "(II)I"⟩, method_2_code, 2, (some .int), [], 2, 1, false, 99, 0, (3196, 3195, 1000, 0)),
  (⟨"OvertureDeskLaw", "below", "(II)I"⟩, method_2_code, 2, (some .int), [], 2, 1, false, 99, 0, (3196, 3195, 1000, 0)),
  (⟨"OvertureDeskLaw", "below", "(II)I"⟩, method_2_code, 2, (some .int), [], 2, 1, false, 99, 0, (3196, 3195, 1000, 0)),
  (⟨"OvertureDeskLaw", "below", "(II)I"⟩, method_2_code, 2, (some .int), [], 2, 1, false, 99, 0, (3196, 3195, 1000, 0)),
  (⟨"OvertureDeskLaw", "below", "(II)I"⟩, method_2_code, 2, (some .int), [], 2, 1, false, 99, 0, (3196, 3195, 1000, 0)),
  (⟨"OvertureDeskLaw", "below", "(II)I"⟩, method_2_code, 2, (some .int), [], 2, 1, false, 99, 0, (3196, 3195, 1000, 0)),
  (⟨"OvertureDeskLaw", "below", "(II)I"⟩, method_2_code, 2, (some .int), [], 2, 1, false, 99, 0, (3196, 3195, 1000, 0)),
  (⟨"OvertureDeskLaw", "below", "(II)I"⟩, method_2_code, 2, (some .int), [], 2, 1, false, 99, 0, (3196, 3195, 1000, 0)),
  (⟨"OvertureDeskLaw", "below", "(II)I"⟩, method_2_code, 2, (some .int), [], 2, 1, false, 99, 0, (3196, 3195, 1000, 0)),
  (⟨"OvertureDeskLaw", "below", "(II)I"⟩, method_2_code, 2, (some .int), [], 2, 1, false, 99, 0, (3196, 3195, 1000, 0)),
  (⟨"OvertureDeskLaw", "below", "(II)I"⟩, method_2_code, 2, (some .int), [], 2, 1, false, 99, 0, (3196, 3195, 1000, 0)),
  (⟨"OvertureDeskLaw", "below", "(II)I"⟩, method_2_code, 2, (some .int), [], 2, 1, false, 99, 0, (3196, 3195, 1000, 0)),
  (⟨"OvertureDeskLaw", "below", "(II)I"⟩, method_2_code, 2, (some .int), [], 2, 1, false, 99, 0, (3196, 3195, 1000, 0)),
  (⟨"OvertureDeskLaw", "below", "(II)I"⟩, method_2_code, 2, (some .int), [], 2, 1, false, 99, 0, (3196, 3195, 1000, 0)),
  (⟨"OvertureDeskLaw", "below", "(II)I"⟩, method_2_code, 2, (some .int), [], 2, 1, false, 99, 0, (3196, 3195, 1000, 0)),
  (⟨"OvertureDeskLaw", "below", "(II)I"⟩, method_2_code, 2, (some .int), [], 2, 1, false, 99, 0, (3196, 3195, 1000, 0)),
  (⟨"OvertureDeskLaw", "below", "(II)I"⟩, method_2_code, 2, (some .int), [], 2, 1, false, 99, 0, (3196, 3195, 1000, 0)),
  (⟨"OvertureDeskLaw", "below", "(II)I"⟩, method_2_code, 2, (some .int), [], 2, 1, false, 99, 0, (3196, 3195, 1000, 0)),
  (⟨"OvertureDeskLaw", "below", "(II)I"⟩, method_2_code, 2, (some .int), [], 2, 1, false, 99, 0, (3196, 3195, 1000, 0)),
  (⟨"OvertureDeskLaw", "below", "(II)I"⟩, method_2_code, 2, (some .int), [], 2, 1, false, 99, 0, (3196, 3195, 1000, 0)),
  (⟨"OvertureDeskLaw", "below", "(II)I"⟩, method_2_code, 2, (some .int), [], 2, 1, false, 99, 0, (3196, 3195, 1000, 0))]
def aMT_6 : List aMR := [(⟨"OvertureDeskLaw", "below", "(II)I"⟩, method_2_code, 2, (some .int), [], 2, 1, false, 99, 0, (3196, 3195, 1000, 0)),
  (⟨"OvertureDeskLaw", "below", "(II)I"⟩, method_2_code, 2, (some .int), [], 2, 1, false, 99, 0, (3196, 3195, 1000, 0)),
  (⟨"OvertureDeskLaw", "below", "(II)I"⟩, method_2_code, 2, (some .int), [], 2, 1, false, 99, 0, (3196, 3195, 1000, 0)),
  (⟨"OvertureDeskLaw", "below", "(II)I"⟩, method_2_code, 2, (some .int), [], 2, 1, false, 99, 0, (3196, 3195, 1000, 0)),
  (⟨"OvertureDeskLaw", "below", "(II)I"⟩, method_2_code, 2, (some .int), [], 2, 1, false, 99, 0, (3196, 3195, 1000, 0)),
  (⟨"OvertureDeskLaw", "below", "(II)I"⟩, method_2_code, 2, (some .int), [], 2, 1, false, 99, 0, (3196, 3195, 1000, 0)),
  (⟨"OvertureDeskLaw", "below", "(II)I"⟩, method_2_code, 2, (some .int), [], 2, 1, false, 99, 0, (3196, 3195, 1000, 0)),
  (⟨"OvertureDeskLaw", "below", "(II)I"⟩, method_2_code, 2, (some .int), [], 2, 1, false, 99, 0, (3196, 3195, 1000, 0)),
  (⟨"OvertureDeskLaw", "below", "(II)I"⟩, method_2_code, 2, (some .int), [], 2, 1, false, 99, 0, (3196, 3195, 1000, 0)),
  (⟨"OvertureDeskLaw", "below", "(II)I"⟩, method_2_code, 2, (some .int), [], 2, 1, false, 99, 0, (3196, 3195, 1000, 0)),
  (⟨"OvertureDeskLaw", "below", "(II)I"⟩, method_2_code, 2, (some .int), [], 2, 1, false, 99, 0, (3196, 3195, 1000, 0)),
  (⟨"OvertureDeskLaw", "below", "(II)I"⟩, method_2_code, 2, (some .int), [], 2, 1, false, 99, 0, (3196, 3195, 1000, 0)),
  (⟨"OvertureDeskLaw", "below", "(II)I"⟩, method_2_code, 2, (some .int), [], 2, 1, false, 99, 0, (3196, 3195, 1000, 0)),
  (⟨"OvertureDeskLaw", "below", "(II)I"⟩, method_2_code, 2, (some .int), [], 2, 1, false, 99, 0, (3196, 3195, 1000, 0)),
  (⟨"OvertureDeskLaw", "below", "(II)I"⟩, method_2_code, 2, (some .int), [], 2, 1, false, 99, 0, (3196, 3195, 1000, 0)),
  (⟨"OvertureDeskLaw", "below", "(II)I"⟩, method_2_code, 2, (some .int), [], 2, 1, false, 99, 0, (3196, 3195, 1000, 0)),
  (⟨"OvertureDeskLaw", "below", "(II)I"⟩, method_2_code, 2, (some .int), [], 2, 1, false, 99, 0, (3196, 3195, 1000, 0)),
  (⟨"OvertureDeskLaw", "below", "(II)I"⟩, method_2_code, 2, (some .int), [], 2, 1, false, 99, 0, (3196, 3195, 1000, 0)),
  (⟨"OvertureDeskLaw", "below", "(II)I"⟩, method_2_code, 2, (some .int), [], 2, 1, false, 99, 0, (3196, 3195, 1000, 0)),
  (⟨"OvertureDeskLaw", "below", "(II)I"⟩, method_2_code, 2, (some .int), [], 2, 1, false, 99, 0, (3196, 3195, 1000, 0)),
  (⟨"OvertureDeskLaw", "below", "(II)I"⟩, method_2_code, 2, (some .int), [], 2, 1, false, 99, 0, (3196, 3195, 1000, 0)),
  (⟨"java/lang/Math", "floorMod", "(II)I"⟩, prog_19_method_50_code, 3, (some .int), [], 2, 1, false, 99, 14, (2064, 2063, 1011, 0)),
  (⟨"java/lang/Math", "abs", "(I)I"⟩, prog_19_method_59_code, 1, (some .int), [], 1, 1, false, 99, 14, (3137, 3136, 1011, 0)),
  (⟨"java/lang/Math", "max", "(II)I"⟩, prog_19_method_65_code, 2, (some .int), [], 2, 1, false, 99, 14, (2219, 2218, 1011, 0)),
  (⟨"java/lang/Math", "min", "(II)I"⟩, prog_19_method_69_code, 2, (some .int), [], 2, 1, false, 99, 14, (2192, 2191, 1011, 0))]
def aMT : List aMR := aMT_0 ++ aMT_1 ++ aMT_2 ++ aMT_3 ++ aMT_4 ++ aMT_5 ++ aMT_6
/-- call sites: own class, index, method, the nest's host, place -/
def aKT : List (Nat × Nat × Nat × String × Nat) := [(0, 11, 34, "", 1022), (0, 12, 3, "", 3142), (0, 18, 1, "", 3185), (0, 22, 85, "", 2145), (0, 26, 5, "", 4173), (0, 30, 6, "", 4185), (0, 33, 7, "", 4223), (0, 36, 61, "", 2137), (0, 40, 4, "", 3146), (0, 43, 62, "", 2141), (0, 46, 59, "", 1222), (0, 49, 264, "", 5003), (0, 55, 60, "", 2128), (0, 58, 57, "", 3150), (0, 61, 58, "", 3155), (0, 67, 51, "", 3190), (0, 70, 2, "", 3194), (0, 73, 263, "", 3198), (0, 76, 38, "", 3199), (0, 80, 39, "", 4002), (0, 84, 40, "", 4031), (0, 87, 44, "", 4043), (0, 91, 45, "", 4066), (0, 94, 78, "", 4077), (0, 97, 48, "", 4082), (0, 101, 49, "", 4087), (0, 105, 50, "", 4096), (0, 108, 53, "", 4102), (0, 112, 54, "", 4113), (0, 115, 64, "", 4147), (0, 118, 55, "", 4155), (0, 121, 68, "", 4162), (0, 124, 56, "", 4167), (0, 131, 52, "", 4176), (0, 134, 70, "", 4181), (0, 137, 71, "", 4188), (0, 140, 72, "", 4192), (0, 143, 73, "", 4198), (0, 146, 74, "", 4206), (0, 149, 75, "", 4210), (0, 152, 76, "", 4214), (0, 156, 66, "", 4226), (0, 159, 65, "", 4230), (0, 162, 67, "", 4235), (0, 165, 81, "", 4239), (1, 3, 1000, "", 1025), (1, 11, 166, "OvertureDesk", 1030), (1, 18, 105, "", 1166), (1, 25, 137, "OvertureDesk", 1189), (1, 32, 151, "OvertureDesk", 1192), (1, 41, 35, "", 3203), (1, 45, 36, "", 3138), (1, 48, 33, "", 3141), (1, 64, 143, "", 3223), (1, 73, 86, "", 3228), (1, 79, 146, "", 3229), (1, 83, 37, "", 3238), (1, 86, 144, "", 4006), (1, 94, 147, "", 4026), (1, 98, 142, "", 2154), (1, 101, 138, "", 2162), (1, 105, 88, "", 3125), (1, 108, 92, "", 4035), (1, 113, 94, "", 4037), (1, 117, 93, "", 4040), (1, 120, 42, "", 4047), (1, 125, 43, "", 4054), (1, 131, 97, "", 3126), (1, 135, 89, "", 4058), (1, 138, 95, "", 4060), (1, 141, 140, "", 4061), (1, 145, 149, "", 4062), (1, 150, 91, "", 4071), (1, 153, 264, "", 4072), (1, 159, 263, "", 4073), (1, 162, 96, "", 4074), (1, 169, 47, "", 3129), (1, 175, 148, "", 4092), (1, 184, 99, "", 2163), (1, 196, 173, "", 4108), (1, 202, 180, "", 4109), (1, 217, 125, "", 4118), (1, 222, 126, "", 4127), (1, 227, 127, "", 4132), (1, 228, 128, "", 4141), (1, 231, 122, "", 4146), (1, 245, 41, "", 4050), (1, 261, 113, "", 4172), (1, 269, 107, "", 3160), (1, 275, 109, "", 2054), (1, 284, 110, "", 2133), (1, 287, 63, "", 4151), (1, 290, 170, "", 2181), (1, 295, 171, "", 2196), (1, 298, 134, "", 2202), (1, 301, 135, "", 2229), (1, 306, 136, "", 2233), (1, 309, 150, "", 3001), (1, 312, 158, "", 3011), (1, 315, 152, "", 3084), (1, 320, 161, "", 3067), (1, 321, 153, "", 3088), (1, 322, 104, "", 3089), (1, 325, 162, "", 4202), (1, 328, 163, "", 3101), (1, 331, 164, "", 3106), (1, 334, 165, "", 4218), (1, 338, 77, "", 3121), (1, 341, 159, "", 3111), (1, 345, 80, "", 3115), (1, 351, 83, "", 2150), (1, 355, 82, "", 2158), (1, 359, 84, "", 3080), (1, 368, 46, "", 3132), (1, 371, 262, "", 3135), (2, 9, 88, "", 2169), (2, 15, 90, "", 2172), (2, 18, 87, "", 2166), (2, 21, 89, "", 2175), (2, 24, 91, "", 2178), (2, 27, 86, "", 3042), (2, 31, 92, "", 3008), (3, 7, 101, "", 3092), (3, 13, 102, "", 3095), (3, 17, 103, "", 3098), (4, 3, 1000, "", 1169), (4, 17, 166, "OvertureDesk", 1172), (4, 22, 106, "", 2065), (4, 26, 167, "", 3164), (4, 30, 261, "", 2062), (4, 39, 264, "", 3184), (4, 45, 168, "", 2069), (4, 49, 108, "", 2058), (5, 1, 1000, "", 1122), (6, 3, 1000, "", 1076), (6, 21, 114, "", 1077), (6, 29, 29, "OvertureDesk", 1081), (6, 33, 116, "", 2111), (6, 37, 117, "", 2116), (6, 40, 118, "", 2120), (6, 43, 31, "OvertureDesk", 2115), (6, 47, 123, "", 4126), (6, 50, 124, "", 4122), (6, 54, 125, "", 4136), (6, 57, 121, "", 4137), (6, 61, 126, "", 4145), (7, 3, 1000, "", 1108), (7, 11, 115, "", 1110), (7, 20, 118, "", 2224), (7, 24, 263, "", 2217), (7, 30, 117, "", 2216), (7, 33, 130, "", 2220), (7, 36, 116, "", 2211), (7, 39, 131, "", 2212), (7, 42, 122, "", 2210), (7, 46, 133, "", 2206), (7, 49, 132, "", 2225), (7, 52, 123, "", 2237), (8, 3, 1000, "", 1039), (8, 19, 30, "OvertureDesk", 2081), (8, 23, 32, "OvertureDesk", 2088), (8, 27, 143, "", 3233), (8, 31, 140, "", 2084), (8, 35, 145, "", 3234), (8, 39, 138, "", 2077), (8, 43, 263, "", 4030), (8, 49, 98, "", 3005), (9, 3, 1000, "", 1195), (9, 22, 30, "OvertureDesk", 3079), (9, 32, 179, "", 3015), (9, 38, 157, "", 3027), (9, 46, 142, "", 3031), (9, 52, 138, "", 3032), (9, 56, 89, "", 3033), (9, 62, 173, "", 3034), (9, 66, 87, "", 3035), (9, 69, 33, "OvertureDesk", 3036), (9, 73, 95, "", 3039), (9, 81, 174, "", 3045), (9, 84, 156, "", 3046), (9, 88, 88, "", 3050), (9, 91, 90, "", 3051), (9, 105, 155, "", 3052), (9, 109, 264, "", 3066), (9, 115, 263, "", 3056), (9, 118, 154, "", 3057), (9, 122, 91, "", 3061), (9, 125, 100, "", 3062), (9, 131, 32, "OvertureDesk", 3065), (9, 135, 160, "", 3071), (9, 139, 153, "", 3075), (9, 140, 101, "", 3110), (9, 143, 102, "", 3105), (9, 147, 103, "", 4222), (10, 1, 1000, "", 1033), (10, 9, 137, "OvertureDesk", 1036), (10, 18, 172, "OvertureDesk", 1050), (10, 25, 169, "OvertureDesk", 1067), (10, 32, 129, "OvertureDesk", 1105), (10, 39, 111, "OvertureDesk", 1119), (10, 44, 141, "", 2073), (10, 48, 176, "", 2091), (10, 55, 120, "", 2107), (10, 71, 113, "", 2124), (10, 75, 139, "", 3168), (10, 79, 175, "", 3172), (10, 82, 119, "", 3176), (10, 85, 112, "", 3180), (11, 3, 1000, "", 1070), (11, 11, 115, "", 1073), (11, 20, 122, "", 2185), (11, 24, 116, "", 2189), (11, 28, 264, "", 2190), (11, 34, 117, "", 2193), (11, 40, 170, "", 2201), (12, 3, 1000, "", 1053), (12, 21, 29, "OvertureDesk", 2098), (12, 25, 31, "OvertureDesk", 2095), (12, 29, 177, "", 3019), (12, 33, 178, "", 3023), (12, 37, 173, "", 2099), (12, 41, 174, "", 2103)]
/-- fields: own class, index, class, field, kind, place -/
def aFT : List (Nat × Nat × Nat × Nat × Nat × Nat) := [(1, 12, 9, 0, 3, 1206), (1, 19, 9, 1, 3, 1207), (1, 26, 9, 2, 3, 1208), (1, 33, 9, 3, 3, 1209), (1, 37, 9, 4, 1, 1210), (1, 61, 6, 0, 3, 1141), (1, 192, 6, 1, 3, 1145), (1, 207, 6, 2, 3, 1147), (1, 211, 7, 0, 3, 1099), (1, 236, 6, 3, 3, 1149), (1, 240, 3, 0, 3, 1113), (1, 251, 6, 4, 3, 1152), (1, 255, 1, 2, 0, 1132), (1, 264, 0, 2, 0, 1176), (1, 279, 0, 3, 0, 1178), (4, 11, 0, 0, 3, 1173), (4, 18, 0, 1, 0, 1174), (4, 36, 0, 2, 0, 1175), (4, 42, 0, 3, 0, 1177), (5, 7, 1, 0, 0, 1123), (5, 13, 1, 1, 0, 1126), (5, 16, 1, 2, 0, 1129), (6, 9, 2, 0, 3, 1084), (6, 15, 2, 1, 3, 1085), (6, 18, 2, 2, 3, 1086), (6, 25, 2, 3, 0, 1087), (7, 14, 3, 0, 3, 1111), (8, 9, 4, 0, 3, 1040), (8, 15, 4, 1, 0, 1041), (9, 9, 5, 0, 3, 1196), (9, 15, 5, 1, 3, 1197), (9, 18, 5, 2, 0, 1198), (9, 26, 6, 1, 3, 1144), (9, 42, 6, 0, 3, 1142), (9, 77, 6, 4, 3, 1151), (9, 94, 1, 1, 0, 1128), (9, 99, 1, 0, 0, 1125), (9, 102, 1, 2, 0, 1131), (10, 10, 6, 0, 3, 1140), (10, 19, 6, 1, 3, 1143), (10, 26, 6, 2, 3, 1146), (10, 33, 6, 3, 3, 1148), (10, 40, 6, 4, 3, 1150), (10, 51, 7, 0, 3, 1098), (10, 60, 3, 0, 3, 1112), (10, 61, 1, 0, 0, 1124), (10, 65, 1, 1, 0, 1127), (10, 68, 1, 2, 0, 1130), (11, 14, 7, 0, 3, 1097), (12, 9, 8, 0, 3, 1054), (12, 15, 8, 1, 3, 1055), (12, 18, 8, 2, 3, 1056)]
/-- new: own class, index, class, places -/
def aNT : List (Nat × Nat × Nat × Nat × Nat × Nat) := [(0, 9, 9, 1020, 1021, 1001), (1, 9, 6, 1028, 1029, 1002), (1, 16, 0, 1164, 1165, 1009), (1, 23, 4, 1188, 1035, 1003), (1, 30, 5, 1190, 1191, 1010), (4, 9, 6, 1170, 1029, 1002), (7, 9, 2, 1109, 1072, 1006), (10, 7, 4, 1034, 1035, 1003), (10, 16, 8, 1048, 1049, 1004), (10, 23, 7, 1065, 1066, 1005), (10, 30, 3, 1103, 1104, 1007), (10, 37, 1, 1117, 1118, 1008), (11, 9, 2, 1071, 1072, 1006)]
/-- names of classes: own class, index, class, place -/
def aCT : List (Nat × Nat × String × Nat) := [(0, 65, "java/lang/IllegalStateException", 3149), (0, 127, "java/lang/IndexOutOfBoundsException", 3188), (0, 129, "java/lang/IllegalArgumentException", 3189)]
def aIT : List (Nat × Nat × Int32 × Nat) := [(0, 7, 2147483647, 3197), (0, 8, 790386105, 3145), (1, 358, 1000000, 2195), (1, 374, 99999, 4154), (11, 39, 100000, 2200)]
def aLT : List (Nat × Nat × Int64 × Nat) := [(1, 349, 2671, 2149), (1, 362, 31, 2161), (11, 37, 62500, 2194)]
/-- static fields: own class, index, value, place, the field -/
def aGT : List (Nat × Nat × Value × Nat × String × String × String) := [(1, 364, .ref 1, 3119, "OvertureDesk", "STEPS_TO_TRY", "[I")]
def aAT : List (Nat × Nat × String × Nat) := [(4, 9, "OvertureDesk$Song", 1170)]
def aUT : List (Nat × Nat × String × Nat) := []
/-- throws: method, place, class, indices of class, text, constructor, wide, the text -/
def aXT : List (Nat × Nat × String × Nat × Nat × Nat × Bool × String) := [(38, 25, "java/lang/IllegalArgumentException", 52, 54, 56, false, "no such track, tick or length"),
  (38, 57, "java/lang/IllegalArgumentException", 52, 59, 56, false, "no such pitch or force"),
  (38, 81, "java/lang/IllegalStateException", 68, 70, 72, false, "no room for a note"),
  (39, 14, "java/lang/IndexOutOfBoundsException", 89, 91, 93, false, "no note at this place"),
  (40, 14, "java/lang/IndexOutOfBoundsException", 89, 91, 93, false, "no note at this place"),
  (40, 67, "java/lang/IllegalArgumentException", 52, 111, 56, false, "the note can not be split at this tick"),
  (40, 91, "java/lang/IllegalStateException", 68, 70, 72, false, "no room for a note"),
  (44, 21, "java/lang/IllegalArgumentException", 52, 123, 56, false, "no such range or interval"),
  (44, 43, "java/lang/IllegalStateException", 68, 129, 72, false, "a pitch would not be 0 to 127"),
  (45, 21, "java/lang/IllegalArgumentException", 52, 148, 56, false, "no such range or percents"),
  (48, 21, "java/lang/IllegalArgumentException", 52, 165, 56, false, "no such range or step"),
  (48, 53, "java/lang/IllegalArgumentException", 52, 167, 56, false, "no such swing or strength"),
  (49, 9, "java/lang/IllegalArgumentException", 52, 173, 56, false, "no such range"),
  (50, 7, "java/lang/IllegalArgumentException", 52, 178, 56, false, "no such tick"),
  (50, 74, "java/lang/IllegalStateException", 68, 180, 72, false, "no room for the notes"),
  (52, 14, "java/lang/IndexOutOfBoundsException", 89, 91, 93, false, "no note at this place"),
  (52, 33, "java/lang/IllegalArgumentException", 52, 182, 56, false, "a note tells 0 to 4"),
  (53, 7, "java/lang/IndexOutOfBoundsException", 89, 188, 93, false, "no such track"),
  (53, 41, "java/lang/IllegalArgumentException", 52, 190, 56, false, "no such shift or delay"),
  (54, 24, "java/lang/IllegalArgumentException", 52, 205, 56, false, "no such tick or speed"),
  (54, 68, "java/lang/IllegalStateException", 68, 225, 72, false, "the speeds can not be changed so"),
  (55, 20, "java/lang/IllegalArgumentException", 52, 232, 56, false, "no such bar or count of beats"),
  (55, 56, "java/lang/IllegalArgumentException", 52, 234, 56, false, "no such beat"),
  (55, 103, "java/lang/IllegalStateException", 68, 243, 72, false, "the meters can not be changed so"),
  (56, 18, "java/lang/IllegalArgumentException", 52, 249, 56, false, "no such stretch or times"),
  (57, 7, "java/lang/IllegalStateException", 68, 262, 72, true, "a group is open"),
  (58, 7, "java/lang/IllegalStateException", 68, 267, 72, true, "no group is open"),
  (59, 18, "java/lang/IllegalStateException", 68, 273, 72, true, "nothing can be taken back"),
  (60, 18, "java/lang/IllegalStateException", 68, 282, 72, true, "nothing can be done again"),
  (64, 7, "java/lang/IllegalArgumentException", 52, 178, 56, false, "no such tick"),
  (65, 4, "java/lang/IllegalArgumentException", 52, 293, 56, true, "no such time"),
  (66, 7, "java/lang/IllegalArgumentException", 52, 178, 56, false, "no such tick"),
  (67, 7, "java/lang/IllegalArgumentException", 52, 178, 56, false, "no such tick"),
  (68, 11, "java/lang/IllegalArgumentException", 52, 304, 56, true, "no such bar"),
  (72, 26, "java/lang/IndexOutOfBoundsException", 89, 316, 93, true, "no such event"),
  (72, 46, "java/lang/IllegalArgumentException", 52, 318, 56, true, "an event tells 0 to 3"),
  (73, 7, "java/lang/IllegalArgumentException", 52, 178, 56, false, "no such tick"),
  (78, 21, "java/lang/IllegalArgumentException", 52, 165, 56, false, "no such range or step"),
  (81, 9, "java/lang/IllegalArgumentException", 52, 173, 56, false, "no such range")]
/-- what a method wants of frames and of words of locals -/
def aRQ : List (Nat × Nat) := [(8, 197), (7, 164), (0, 0), (0, 0), (7, 132), (7, 108), (7, 171), (7, 173), (0, 0), (0, 0), (0, 0), (0, 0), (0, 0), (0, 0), (0, 0), (0, 0), (0, 0), (0, 0), (0, 0), (0, 0), (0, 0), (0, 0), (0, 0), (0, 0), (0, 0), (0, 0), (0, 0), (0, 0), (0, 0), (0, 0), (0, 0), (0, 0), (0, 0), (0, 0), (6, 129), (1, 22), (1, 22), (5, 112), (6, 132), (6, 132), (6, 132), (2, 42), (3, 63), (2, 45), (6, 132), (6, 132), (2, 42), (3, 71), (6, 132), (6, 92), (6, 132), (1, 20), (6, 82), (6, 132), (6, 132), (6, 132), (6, 132), (6, 82), (6, 112), (6, 133), (6, 133), (0, 0), (0, 0), (1, 22), (6, 82), (6, 93), (6, 133), (6, 133), (6, 130), (0, 0), (4, 88), (6, 149), (6, 149), (6, 149), (6, 149), (6, 149), (6, 149), (4, 94), (6, 123), (0, 0), (5, 123), (6, 150), (0, 0), (2, 43), (3, 65), (6, 150), (0, 0), (0, 0), (0, 0), (0, 0), (0, 0), (0, 0), (1, 21), (1, 24), (1, 24), (1, 24), (1, 24), (1, 21), (2, 42), (1, 21), (0, 0), (0, 0), (0, 0), (0, 0), (1, 21), (5, 108), (0, 0), (4, 89), (4, 89), (5, 112), (5, 112), (1, 20), (0, 0), (0, 0), (1, 22), (2, 46), (1, 21), (1, 21), (1, 21), (2, 42), (2, 46), (2, 46), (0, 0), (2, 42), (3, 65), (4, 86), (4, 86), (5, 107), (5, 107), (3, 68), (2, 42), (3, 64), (4, 85), (4, 85), (5, 109), (5, 109), (5, 108), (1, 20), (1, 21), (2, 42), (1, 23), (2, 46), (0, 0), (0, 0), (0, 0), (2, 46), (3, 70), (2, 46), (0, 0), (3, 70), (3, 65), (1, 20), (0, 0), (1, 21), (1, 24), (2, 48), (3, 73), (4, 101), (5, 127), (5, 127), (2, 42), (3, 68), (2, 42), (2, 42), (2, 42), (2, 42), (4, 88), (3, 64), (3, 68), (3, 68), (2, 42), (3, 69), (1, 20), (1, 21), (1, 21), (2, 42), (2, 42), (1, 21), (2, 43), (3, 64), (1, 22), (0, 0), (0, 0), (0, 0), (0, 0), (0, 0), (0, 0), (0, 0), (0, 0), (0, 0), (0, 0), (0, 0), (0, 0), (0, 0), (0, 0), (0, 0), (0, 0), (0, 0), (0, 0), (0, 0), (0, 0), (0, 0), (0, 0), (0, 0), (0, 0), (0, 0), (0, 0), (0, 0), (0, 0), (0, 0), (0, 0), (0, 0), (0, 0), (0, 0), (0, 0), (0, 0), (0, 0), (0, 0), (0, 0), (0, 0), (0, 0), (0, 0), (0, 0), (0, 0), (0, 0), (0, 0), (0, 0), (0, 0), (0, 0), (0, 0), (0, 0), (0, 0), (0, 0), (0, 0), (0, 0), (0, 0), (0, 0), (0, 0), (0, 0), (0, 0), (0, 0), (0, 0), (0, 0), (0, 0), (0, 0), (0, 0), (0, 0), (0, 0), (0, 0), (0, 0), (0, 0), (0, 0), (0, 0), (0, 0), (0, 0), (0, 0), (0, 0), (0, 0), (0, 0), (0, 0), (0, 0), (0, 0), (0, 0), (0, 0), (0, 0)]
end
section
/-! ===== BEGIN words of one list among another's, by their places ===== -/
theorem goodIn_r {big : List Cond} (ws : List Cond) (ps : List Nat) (hp : ws = ps.filterMap (fun i => big[i]?)) (h : ws.all goodWord = true) : GoodIn big ws := by
  intro w hw
  have h1 := List.all_eq_true.mp h w hw
  rw [hp] at hw
  obtain ⟨i, -, hi⟩ := List.mem_filterMap.mp hw
  have hm : w ∈ big := by first | exact List.mem_of_getElem? hi | exact List.getElem?_mem hi
  exact ⟨hm, good_of_word h1⟩
theorem goodIn_app {big a b : List Cond} (ha : GoodIn big a) (hb : GoodIn big b) : GoodIn big (a ++ b) := fun w h => (List.mem_append.mp h).elim (ha w) (hb w)
theorem goodIn_ca {big a b : List Cond} {c : Cond} (ha : GoodIn big (c :: a)) (hb : GoodIn big b) : GoodIn big (c :: (a ++ b)) := fun w h => (List.mem_cons.mp h).elim (fun e => ha w (List.mem_cons.mpr (Or.inl e))) (fun h => (List.mem_append.mp h).elim (fun h => ha w (List.mem_cons.mpr (Or.inr h))) (hb w))
theorem goodIn_sub {big ws : List Cond} (hm : ∀ w ∈ ws, w ∈ big) (h : ws.all goodWord = true) : GoodIn big ws := fun w hw => ⟨hm w hw, good_of_word (List.all_eq_true.mp h w hw)⟩
/-! ===== END ===== -/
/-! ===== BEGIN exceptions that leave a method, and their catching by the caller (launches without stack traces) ===== -/
section VXA
/-! The laws vx_back, vx_callV, vx_callS, vx_callSW, vx_throw0, vx_throwS follow proofs of the library, with one case more: JvmDerived/Free/Laws.lean (Back.of_free), Shelf42/LK1.lean (callV, callS), Shelf/KitTraced.lean (throwNew0V, throwNewS). -/
/-- where a method has thrown q: the class by its name, the cell, what was written, the world -/
def vx_T (XC : String → State → State → Prop) (st : State) (q : Addr) (t : State) (mc ms : Nat) (free : Addr → Prop) : Prop :=
  ∃ (E : String) (ce : Cell) (L : List Loc), XC E st t ∧ t.heap[q]? = some ce ∧ ce.vm = .none ∧ st.vm.findClass E = some ce.cls ∧ st.WarmedH t.vm ∧ st.sameButNew ({ t with vm := st.vm } : State) L mc ms ∧ ∀ z ∈ L, free z.base
def vx_Q (Qc : Array Value → State → Outcome → State → Prop) (XC : String → State → State → Prop) (mc ms : Nat) (free : Addr → Prop) : Array Value → State → Outcome → State → Prop := fun a st o t =>
  (Qc a st o t ∧ ∃ L, FrameEnd st o t L mc ms ∧ ∀ q ∈ L, free q.base) ∨ ∃ q, o = .threw q ∧ vx_T XC st q t mc ms free
/-- a callee that returns or throws -/
def vx_Met (l : Launch) (y : MethodName) (ws : List Cond) (rm : Room) (Pc : Array Value → State → Prop) (Qc : Array Value → State → Outcome → State → Prop) (XC : String → State → State → Prop) (mc ms : Nat) (free : Addr → Prop) : Prop :=
  MetFree l y (headSpec ws rm) Pc (fun _ _ _ _ _ => True) (vx_Q Qc XC mc ms free)
def vx_Post (XC : String → State → State → Prop) (mc ms : Nat) (free : Addr → Prop) : Pt → Array Value → Addr → Pt → Prop := fun A a q B =>
  ∃ (g : JFrame) (mk : MethodId) (t : State) (L : List Loc) (E : String) (ce : Cell), B.U.heap = t.heap ∧ B.U.vm = t.vm ∧ XC E (A.U.calling g mk a) t ∧ t.heap[q]? = some ce ∧ ce.vm = .none ∧ A.U.vm.findClass E = some ce.cls ∧ B.locs = A.locs ++ L ∧ (∀ z ∈ L, free z.base) ∧ B.cells = A.cells + mc ∧ B.slots = A.slots + ms
def vx_Back (l : Launch) (R : Room) (p : Program) (e : Env) (below : List Frame) (s : State) (sargs : Array Value) (y : MethodName) (len W9 : Nat)
    (Pre : Pt → Array Value → Prop) (Post : Pt → Array Value → Option Value → Pt → Prop) (PostX : Pt → Array Value → Addr → Pt → Prop) : Prop :=
  ∀ (m : MethodId) (meth : Method) (c : Code) (A : Pt) (g : JFrame) (ig : Instr) (mk : MethodId) (a : Array Value),
    Stand p l e R s m sargs below meth c A.U A.locs A.cells A.slots → g.method = m → g.locals.size = c.maxLocals → decode c.code g.pc = .ok (ig, len) →
    2 * g.monitorRoom + (g.stack.map fun v => v.category).sum ≤ W9 → A.U.methodNamed? y = some mk → Pre A a →
    (∃ (v : Option Value) (B : Pt), Stand p l e R s m sargs below meth c B.U B.locs B.cells B.slots ∧ Post A a v B ∧
      Steps p.tables e below (doInvoke e (A.U.setTop g) [] mk a).1 (B.U.setTop { g with pc := g.pc + len, stack := v.toList ++ g.stack })) ∨
    (∃ (q : Addr) (B : Pt), Stand p l e R s m sargs below meth c B.U B.locs B.cells B.slots ∧ PostX A a q B ∧
      Steps p.tables e below (doInvoke e (A.U.setTop g) [] mk a).1 ((B.U.setTop g).pushFrame (.throwing q)))
section Payer
variable {l : Launch} {R : Room} {p : Program} {e : Env} {below : List Frame} {s : State} {sargs : Array Value} {y : MethodName} {len W9 : Nat}
theorem vx_back {ws : List Cond} {rm : Room} {Pc : Array Value → State → Prop} {Qc : Array Value → State → Outcome → State → Prop} {XC : String → State → State → Prop} {mc ms : Nat} {free : Addr → Prop} {bytes : ByteArray} {maxL : Nat} {ret : Option FieldType}
    (hM : vx_Met l y ws rm Pc Qc XC mc ms free) (hblind : FrameBlind Pc) (hrc : rm.cells = mc) (hrs : rm.slots = ms)
    (hframes : rm.frames + 1 ≤ R.frames) (hlocals : W9 + (maxL + 11) + rm.locals ≤ R.locals)
    (hws : ∀ w ∈ ws, ∀ a' U, s.WarmedH U.vm → w.before a' U = true) (hcode : Cond.code y bytes maxL ret ∈ ws) (hinit : ∀ a' U, s.WarmedH U.vm → (Cond.initialized y.cls).before a' U = true) :
    vx_Back l R p e below s sargs y len W9 (PreOf R mc ms Pc) (PostOf Qc mc ms free) (vx_Post XC mc ms free) := by
  intro m meth c A g ig mk a X hg hsize hdg hW hn hp
  have h1 : (headSpec ws rm).pre.before a A.U = true := atoms_intro fun w hw => hws w hw _ _ X.warmed
  have h2 : (Cond.code y bytes maxL ret).before a A.U = true := hws _ hcode _ _ X.warmed
  have h3 : (Cond.initialized y.cls).before a A.U = true := hinit _ _ X.warmed
  have h4 : A.cells + (headSpec ws rm).room.cells ≤ R.cells := by rw [show (headSpec ws rm).room.cells = mc from hrc]; exact hp.1
  have h5 : A.slots + (headSpec ws rm).room.slots ≤ R.slots := by rw [show (headSpec ws rm).room.slots = ms from hrs]; exact hp.2.1
  have hPc : Pc a (A.U.calling g mk a) := hblind _ _ _ _ hp.2.2
  obtain ⟨U, Ls, c0, s0⟩ := A
  dsimp only [Pt.U, Pt.locs, Pt.cells, Pt.slots] at h1 h2 h3 h4 h5 X hn hPc ⊢
  obtain ⟨methY, cY, hmY, hcY, -, hlY, -, -, -, -⟩ := Cond.code_spec hn h2
  obtain ⟨kY, hkY, -⟩ := className_of_methodNamed hn
  have hinitY : kY.init = .initialized := Cond.initialized_spec (findClass_of_methodNamed hn) hkY h3
  have h : At U g.method c below := by rw [hg]; exact X.here
  have hlocals9 : W9 + (maxL + 11) + (headSpec ws rm).room.locals ≤ R.locals := hlocals
  have happ : (headSpec ws rm).appliesLoose y e.platform (U.calling g mk a) = true :=
    Spec.appliesLoose_calling (g := g) h hdg hn hkY hinitY
      (X.room_calling (g := g) (R' := (headSpec ws rm).room) hsize hmY hcY hframes (by rw [hlY]; omega) h4 h5) h1
  obtain ⟨mid, hmid⟩ := h.above
  have hfr : (U.setTop g).frames = (.java g :: mid) ++ below := by rw [State.frames_setTop' g h.top, hmid]; rfl
  obtain ⟨o, s₂, hsteps, -, hend, hq⟩ := Steps.callFree hM p X.admits X.cas X.clock (acts := []) hfr happ hPc trivial
  have hq' : vx_Q Qc XC mc ms free a (U.calling g mk a) o s₂ := hq
  rw [State.frames_setTop' g h.top] at hend
  obtain ⟨g₀, hg0⟩ := Option.isSome_iff_exists.mp h.top
  obtain ⟨r, hr⟩ := State.topJava?_eq_some.mp hg0
  have hr' : (({ U with heap := s₂.heap, slotsUsed := s₂.slotsUsed } : State).setVm s₂.vm).frames = .java g₀ :: r := hr
  rcases hq' with ⟨hqc, L, hfe, hL⟩ | ⟨q, rfl, E, ce, L, hx, hce, hcv, hcl, hW₂, hsm, hL⟩
  · obtain ⟨⟨v, rfl⟩, hW₂, e2, q2, q3, q4, q5, q6⟩ := id hfe
    have e3 : s₂ = ({ (U.calling g mk a).setFrames s₂.frames with heap := s₂.heap, slotsUsed := s₂.slotsUsed } : State).setVm s₂.vm := by
      have : s₂ = ({ s₂ with vm := (U.calling g mk a).vm } : State).setVm s₂.vm := rfl
      rw [e2] at this
      exact this
    obtain ⟨c₂, i₂, len₂, hc₂, hd₂, hf₂⟩ := hend
    have hW' : U.WarmedH s₂.vm := hW₂
    have hcc : c₂ = c := by
      have h1 : s₂.code? g.method = U.code? g.method := by
        rw [State.code?_eq, State.code?_eq, hW'.alike.method?]
      exact Option.some.inj (hc₂.symm.trans (h1.trans h.code))
    subst hcc
    have hlen : len₂ = len := by rw [hdg] at hd₂; cases hd₂; rfl
    subst hlen
    have hs₂ : s₂ = (({ U with heap := s₂.heap, slotsUsed := s₂.slotsUsed } : State).setVm s₂.vm).setTop { g with pc := g.pc + len₂, stack := v.toList ++ g.stack } := by
      refine e3.trans ?_
      rw [hf₂, State.calling_eq h.top, State.setFrames_setFrames, State.setTop_of_frames _ hr', hr]
      rfl
    have hsame : U.sameButNew ({ U with heap := s₂.heap, slotsUsed := s₂.slotsUsed } : State) L mc ms := by
      refine ⟨?_, q2, q3, q4, q5, q6⟩
      obtain ⟨t, ht, -⟩ := State.frames_cons hr
      show ({ U with heap := s₂.heap, slotsUsed := s₂.slotsUsed } : State) = { U.setFrames U.frames with heap := s₂.heap, slotsUsed := s₂.slotsUsed }
      rw [State.setFrames_self ht]
    subst hg
    refine Or.inl ⟨v, ⟨(({ U with heap := s₂.heap, slotsUsed := s₂.slotsUsed } : State).setVm s₂.vm), Ls ++ L, c0 + mc, s0 + ms⟩,
      ⟨X.admits, X.cas, X.clock, X.frames, X.room, X.hears, X.method, X.code, (X.here.setHeapUsed s₂.heap s₂.slotsUsed).setVm hW'.alike, X.tail, State.WarmedH.trans X.warmed hW', X.limits, X.bytes, X.same.trans (hsame.setVm s.vm)⟩,
      ⟨g, mk, s₂, L, rfl, rfl, hqc, rfl, hL, rfl, rfl⟩, ?_⟩
    show Steps p.tables e below _ ((({ U with heap := s₂.heap, slotsUsed := s₂.slotsUsed } : State).setVm s₂.vm).setTop { g with pc := g.pc + len₂, stack := v.toList ++ g.stack })
    rw [← hs₂]
    exact hsteps
  · obtain ⟨e2, q2, q3, q4, q5, q6⟩ := id hsm
    have e3 : s₂ = ({ (U.calling g mk a).setFrames s₂.frames with heap := s₂.heap, slotsUsed := s₂.slotsUsed } : State).setVm s₂.vm := by
      have : s₂ = ({ s₂ with vm := (U.calling g mk a).vm } : State).setVm s₂.vm := rfl
      rw [e2] at this
      exact this
    have hf₂ : s₂.frames = .throwing q :: .java g :: U.frames.tail := hend
    have hW' : U.WarmedH s₂.vm := hW₂
    have hs₂ : s₂ = ((({ U with heap := s₂.heap, slotsUsed := s₂.slotsUsed } : State).setVm s₂.vm).setTop g).pushFrame (.throwing q) := by
      refine e3.trans ?_
      rw [hf₂, State.calling_eq h.top, State.setFrames_setFrames, State.pushFrame, State.frames_setTop _ hr', State.setTop_of_frames _ hr', State.setFrames_setFrames, hr]
      rfl
    have hsame : U.sameButNew ({ U with heap := s₂.heap, slotsUsed := s₂.slotsUsed } : State) L mc ms := by
      refine ⟨?_, q2, q3, q4, q5, q6⟩
      obtain ⟨t, ht, -⟩ := State.frames_cons hr
      show ({ U with heap := s₂.heap, slotsUsed := s₂.slotsUsed } : State) = { U.setFrames U.frames with heap := s₂.heap, slotsUsed := s₂.slotsUsed }
      rw [State.setFrames_self ht]
    subst hg
    refine Or.inr ⟨q, ⟨(({ U with heap := s₂.heap, slotsUsed := s₂.slotsUsed } : State).setVm s₂.vm), Ls ++ L, c0 + mc, s0 + ms⟩,
      ⟨X.admits, X.cas, X.clock, X.frames, X.room, X.hears, X.method, X.code, (X.here.setHeapUsed s₂.heap s₂.slotsUsed).setVm hW'.alike, X.tail, State.WarmedH.trans X.warmed hW', X.limits, X.bytes, X.same.trans (hsame.setVm s.vm)⟩,
      ⟨g, mk, s₂, L, E, ce, rfl, rfl, hx, hce, hcv, hcl, rfl, hL, rfl, rfl⟩, ?_⟩
    show Steps p.tables e below _ (((({ U with heap := s₂.heap, slotsUsed := s₂.slotsUsed } : State).setVm s₂.vm).setTop g).pushFrame (.throwing q))
    rw [← hs₂]
    exact hsteps
end Payer
section Calls
variable {p : Program} {l : Launch} {e : Env} {R : Room} {s : State} {m : MethodId} {args : Array Value} {below : List Frame} {meth : Method} {c : Code} {T : State} {locs : List Loc} {cells slots : Nat}
theorem vx_callV (X : Stand p l e R s m args below meth c T locs cells slots) (hexec : p.tables.exec = Jvm.exec) {own C : String} {index : Nat} {y : MethodName} {bytes : ByteArray} {maxL : Nat} {ret : Option FieldType}
    (hown : s.vm.findClass own = some m.cls) (hlink : (Cond.methodLink own index y).before args s = true) (hinst : (Cond.instanceMethod y).before args s = true) (hsel : (Cond.selects C y y).before args s = true)
    (hcode : (Cond.code y bytes maxL ret).before args s = true) (hy : y.cls ≠ "java/lang/invoke/MethodHandle" ∧ y.cls ≠ "java/lang/invoke/VarHandle")
    {W9 : Nat} {Pre : Pt → Array Value → Prop} {Post : Pt → Array Value → Option Value → Pt → Prop} {PostX : Pt → Array Value → Addr → Pt → Prop} (hK : vx_Back l R p e below s args y 3 W9 Pre Post PostX)
    {b : Addr} {cellB : Cell} (hcell : T.heap[b]? = some cellB) (hobj : cellB.vm.isStatics = false) (hcls : s.vm.findClass C = some cellB.cls)
    {g : JFrame} (hg : g.method = m) (hsize : g.locals.size = c.maxLocals) {argsL rest : List Value} (hlen : ∀ sig, parseMethodDescriptor y.desc = some sig → argsL.length = sig.parameters.length)
    (hstack : g.stack = argsL.reverse ++ .ref b :: rest) (hW : 2 * g.monitorRoom + (rest.map fun v => v.category).sum ≤ W9) (hdg : decode c.code g.pc = .ok (.invokevirtual index, 3))
    (hpre : ∀ vm₁, s.WarmedH vm₁ → Pre ⟨T.setVm vm₁, locs, cells, slots⟩ (Value.ref b :: argsL).toArray) :
    (∃ (v : Option Value) (vm₁ : Vm) (B : Pt), s.WarmedH vm₁ ∧ Stand p l e R s m args below meth c B.U B.locs B.cells B.slots ∧ Post ⟨T.setVm vm₁, locs, cells, slots⟩ (Value.ref b :: argsL).toArray v B ∧
      ∀ target, Steps p.tables e below (B.U.setTop { g with pc := g.pc + 3, stack := v.toList ++ rest }) target → Steps p.tables e below (T.setTop g) target) ∨
    (∃ (q : Addr) (vm₁ : Vm) (B : Pt), s.WarmedH vm₁ ∧ Stand p l e R s m args below meth c B.U B.locs B.cells B.slots ∧ PostX ⟨T.setVm vm₁, locs, cells, slots⟩ (Value.ref b :: argsL).toArray q B ∧
      Steps p.tables e below (T.setTop g) ((B.U.setTop { g with stack := rest }).pushFrame (.throwing q))) := by
  obtain ⟨mk, methM, hnamed, hmethM, hstM, habM⟩ := Cond.instanceMethod_spec hinst
  obtain ⟨methM', cM, hmethM', -, -, -, -, -, -, hsigM⟩ := Cond.code_spec hnamed hcode
  cases hmethM.symm.trans hmethM'
  obtain ⟨c2, r2, m2, q1, q2, q3, q4, kP, hkP, hkPi⟩ := Cond.selects_spec hsel
  cases hcls.symm.trans q1
  cases (State.methodFound?_of_named hnamed hy).symm.trans q2
  cases hnamed.symm.trans q3
  have hselP : selectMethod e.platform s.vm cellB.cls mk = .method mk := by rw [Launch.admits_selectMethod X.admits]; exact q4
  obtain ⟨vm₁, X₁, hstep₁⟩ := X.invokevirtual hexec hown hlink hnamed hmethM hstM hkP hkPi hy (a := b) (cell := cellB) hcell
    (fun z h => by rw [h] at hobj; cases hobj) hselP hmethM habM hkP hkPi (g := g) hg (argsL := argsL) (rest := rest) (hlen _ hsigM) hstack hdg
  rcases hK m meth c ⟨T.setVm vm₁, locs, cells, slots⟩ { g with stack := rest } (.invokevirtual index) mk (Value.ref b :: argsL).toArray X₁ hg hsize hdg hW (X₁.named hnamed) (hpre vm₁ X₁.warmed) with ⟨v, B, X', hpost, hsteps⟩ | ⟨q, B, X', hpost, hsteps⟩
  · exact Or.inl ⟨v, vm₁, B, X₁.warmed, X', hpost, fun target h => hstep₁ _ fun acts => by rw [doInvoke_state]; exact hsteps.trans h⟩
  · exact Or.inr ⟨q, vm₁, B, X₁.warmed, X', hpost, hstep₁ _ fun acts => by rw [doInvoke_state]; exact hsteps⟩
theorem vx_callS (X : Stand p l e R s m args below meth c T locs cells slots) (hexec : p.tables.exec = Jvm.exec) {own : String} {index : Nat} {y : MethodName} {bytes : ByteArray} {maxL : Nat} {ret : Option FieldType}
    (hown : s.vm.findClass own = some m.cls) (hlink : (Cond.methodLink own index y).before args s = true) (hstat : (Cond.static y).before args s = true) (hinit : (Cond.initialized y.cls).before args s = true)
    (hcode : (Cond.code y bytes maxL ret).before args s = true) (hy : y.cls ≠ "java/lang/invoke/MethodHandle" ∧ y.cls ≠ "java/lang/invoke/VarHandle")
    {W9 : Nat} {Pre : Pt → Array Value → Prop} {Post : Pt → Array Value → Option Value → Pt → Prop} {PostX : Pt → Array Value → Addr → Pt → Prop} (hK : vx_Back l R p e below s args y 3 W9 Pre Post PostX)
    {g : JFrame} (hg : g.method = m) (hsize : g.locals.size = c.maxLocals) {argsL rest : List Value} (hlen : ∀ sig, parseMethodDescriptor y.desc = some sig → argsL.length = sig.parameters.length)
    (hstack : g.stack = argsL.reverse ++ rest) (hW : 2 * g.monitorRoom + (rest.map fun v => v.category).sum ≤ W9) (hdg : decode c.code g.pc = .ok (.invokestatic index, 3))
    (hpre : ∀ vm₁, s.WarmedH vm₁ → Pre ⟨T.setVm vm₁, locs, cells, slots⟩ argsL.toArray) :
    (∃ (v : Option Value) (vm₁ : Vm) (B : Pt), s.WarmedH vm₁ ∧ Stand p l e R s m args below meth c B.U B.locs B.cells B.slots ∧ Post ⟨T.setVm vm₁, locs, cells, slots⟩ argsL.toArray v B ∧
      ∀ target, Steps p.tables e below (B.U.setTop { g with pc := g.pc + 3, stack := v.toList ++ rest }) target → Steps p.tables e below (T.setTop g) target) ∨
    (∃ (q : Addr) (vm₁ : Vm) (B : Pt), s.WarmedH vm₁ ∧ Stand p l e R s m args below meth c B.U B.locs B.cells B.slots ∧ PostX ⟨T.setVm vm₁, locs, cells, slots⟩ argsL.toArray q B ∧
      Steps p.tables e below (T.setTop g) ((B.U.setTop { g with stack := rest }).pushFrame (.throwing q))) := by
  obtain ⟨mk, hnamed⟩ := Cond.code_named hcode
  obtain ⟨methM, cM, hmethM, -, -, -, -, -, -, hsigM⟩ := Cond.code_spec hnamed hcode
  have hstatic : methM.isStatic = true := Cond.static_spec hnamed hmethM hstat
  obtain ⟨kP, hkP, -⟩ := className_of_methodNamed hnamed
  have hinitP : kP.init = .initialized := Cond.initialized_spec (findClass_of_methodNamed hnamed) hkP hinit
  obtain ⟨vm₁, X₁, hstep₁⟩ := X.invokestatic hexec hown hlink hnamed hmethM hstatic hkP hinitP hy (g := g) hg (argsL := argsL) (rest := rest) (hlen _ hsigM) hstack hdg
  rcases hK m meth c ⟨T.setVm vm₁, locs, cells, slots⟩ { g with stack := rest } (.invokestatic index) mk argsL.toArray X₁ hg hsize hdg hW (X₁.named hnamed) (hpre vm₁ X₁.warmed) with ⟨v, B, X', hpost, hsteps⟩ | ⟨q, B, X', hpost, hsteps⟩
  · exact Or.inl ⟨v, vm₁, B, X₁.warmed, X', hpost, fun target h => hstep₁ _ fun acts => by rw [doInvoke_state]; exact hsteps.trans h⟩
  · exact Or.inr ⟨q, vm₁, B, X₁.warmed, X', hpost, hstep₁ _ fun acts => by rw [doInvoke_state]; exact hsteps⟩
end Calls
theorem vx_cls {s : State} {T : State} {vm₁ : Vm} {E : String} {k : ClassId} (hW : s.WarmedH vm₁) (h : (T.setVm vm₁).vm.findClass E = some k) : s.vm.findClass E = some k := by
  have h1 : vm₁.findClass E = some k := h
  rw [hW.alike.findClass] at h1
  exact h1
/-- the method's frame g, with q thrown over it -/
def vx_W (p : Program) (l : Launch) (e : Env) (R : Room) (s : State) (m : MethodId) (args : Array Value) (below : List Frame) (meth : Method) (c : Code) (H : Heap) (locs : List Loc) (cells slots : Nat) (Q : State → Prop) (g : JFrame) (q : Addr) : Prop :=
  ∀ T : State, T.heap = H → Stand p l e R s m args below meth c T locs cells slots → ∃ t, Steps p.tables e below ((T.setTop g).pushFrame (.throwing q)) t ∧ Q t
def vx_Run (p : Program) (l : Launch) (e : Env) (R : Room) (s : State) (m : MethodId) (args : Array Value) (below : List Frame) (meth : Method) (c : Code) (H : Heap) (locs : List Loc) (cells slots mc ms : Nat) (g : JFrame) (rest : List Value) (Qa : State → Outcome → State → Prop) (XC : String → State → State → Prop) (free : Addr → Prop) : Prop :=
  ∀ T : State, T.heap = H → Stand p l e R s m args below meth c T locs cells slots →
    (∃ (v : Option Value) (st₀ t T' : State) (L : List Loc), st₀.heap = H ∧ Stand p l e R s m args below meth c T' (locs ++ L) (cells + mc) (slots + ms) ∧ (∀ q ∈ L, free q.base) ∧ T'.heap = t.heap ∧ T'.vm = t.vm ∧ Qa st₀ (.returned v) t ∧
      Goes p e below T g T' { g with pc := g.pc + 3, stack := v.toList ++ rest }) ∨
    (∃ (q : Addr) (st₀ t T' : State) (L : List Loc) (E : String) (ce : Cell), st₀.heap = H ∧ Stand p l e R s m args below meth c T' (locs ++ L) (cells + mc) (slots + ms) ∧ (∀ z ∈ L, free z.base) ∧ T'.heap = t.heap ∧ T'.vm = t.vm ∧ XC E st₀ t ∧ t.heap[q]? = some ce ∧ ce.vm = .none ∧ s.vm.findClass E = some ce.cls ∧
      Steps p.tables e below (T.setTop g) ((T'.setTop { g with stack := rest }).pushFrame (.throwing q)))
def vx_X {S : Type} (px : S → Prop) (B : String → S → State → Prop) (A : Nat → Prop) : String → State → State → Prop := fun E st t => ∃ u : S, px u ∧ B E u t ∧ va_F A st t
section Runs
variable {p : Program} {l : Launch} {e : Env} {R : Room} {s : State} {m : MethodId} {args : Array Value} {below : List Frame} {meth : Method} {c : Code} {H : Heap} {locs : List Loc} {cells slots : Nat}
variable {y : MethodName} {bytes cc : ByteArray} {maxL nL mc ms n index : Nat} {ret : Option FieldType} {ws : List Cond} {rm : Room} {Pc : Array Value → State → Prop} {Qc : Array Value → State → Outcome → State → Prop} {XC : String → State → State → Prop} {free : Addr → Prop} {Ts : List Cond} {own C : String} {b : Addr} {As rest : List Value} {g : JFrame}
theorem vx_callBack (cb : CallB R s args own index y bytes maxL ret ws rm mc ms n) (hM : vx_Met l y ws rm Pc Qc XC mc ms free) (hbl : FrameBlind Pc) : vx_Back l R p e below s args y 3 8 (PreOf R mc ms Pc) (PostOf Qc mc ms free) (vx_Post XC mc ms free) := by
  obtain ⟨hrc, hrs, hfr, hlo, hws, hcw, -, hini, -⟩ := cb
  exact vx_back (bytes := bytes) (maxL := maxL) (ret := ret) hM hbl hrc hrs hfr hlo hws hcw (fun a' U hW => word_at hW (Or.inl (by first | rfl | simp [Cond.onTables, Cond.keeps, Cond.steady])) hini)
theorem vx_runV (S : CallFix p m c cc nL s args Ts own) (hM : vx_Met l y ws rm Pc Qc XC mc ms free) (cw : CallW R s args own C index y bytes maxL ret ws rm mc ms n) (hp : PreV s H C b Pc As)
    (hg : g.method = m) (hn : As.length = n) (hsize : g.locals.size = nL) (hstack : g.stack = As.reverse ++ .ref b :: rest) (hW : 2 * g.monitorRoom + (rest.map fun v => v.category).sum ≤ 8) (hdg : decode cc g.pc = .ok (.invokevirtual index, 3)) (hf : cells + mc ≤ R.cells ∧ slots + ms ≤ R.slots) :
    vx_Run p l e R s m args below meth c H locs cells slots mc ms g rest (Qc (Value.ref b :: As).toArray) XC free := by
  have hK : vx_Back l R p e below s args y 3 8 (PreOf R mc ms Pc) (PostOf Qc mc ms free) (vx_Post XC mc ms free) := vx_callBack cw.1 hM hp.1
  obtain ⟨⟨-, -, -, -, -, -, hcode, -, hy, hlen, hl⟩, hin, hse⟩ := cw
  obtain ⟨hx, hb, hml, ho, -⟩ := S
  obtain ⟨-, ⟨cellB, hcB, hoB, hclB⟩, hPc⟩ := hp
  intro T hT X
  rcases vx_callV X hx (C := C) (bytes := bytes) (maxL := maxL) (ret := ret) ho hl hin hse hcode hy hK (by rw [hT]; exact hcB) hoB hclB hg (hsize.trans hml.symm) (argsL := As) (rest := rest) (fun sig h => hn.trans (hlen sig h)) hstack hW (by rw [hb]; exact hdg)
    (fun vm₁ hW₁ => ⟨hf.1, hf.2, hPc (T.setVm vm₁) hT hW₁⟩) with ⟨v, vm₁, ⟨U', l2, c2, s2⟩, hW₁, X', ⟨g', mk, t, L, e1, e2, hq, h1, hL, h2, h3⟩, st⟩ | ⟨q, vm₁, ⟨U', l2, c2, s2⟩, hW₁, X', ⟨g', mk, t, L, E, ce, e1, e2, hq, hce, hcv, hcl, h1, hL, h2, h3⟩, st⟩
  · dsimp only [Pt.U, Pt.locs, Pt.cells, Pt.slots] at X' e1 e2 h1 h2 h3 st
    subst h1; subst h2; subst h3
    exact Or.inl ⟨v, (T.setVm vm₁).calling g' mk (Value.ref b :: As).toArray, t, U', L, hT, X', hL, e1, e2, hq, st⟩
  · dsimp only [Pt.U, Pt.locs, Pt.cells, Pt.slots] at X' e1 e2 h1 h2 h3 st hcl
    subst h1; subst h2; subst h3
    exact Or.inr ⟨q, (T.setVm vm₁).calling g' mk (Value.ref b :: As).toArray, t, U', L, E, ce, hT, X', hL, e1, e2, hq, hce, hcv, vx_cls hW₁ hcl, st⟩
theorem vx_runS (S : CallFix p m c cc nL s args Ts own) (hM : vx_Met l y ws rm Pc Qc XC mc ms free) (cw : CallB R s args own index y bytes maxL ret ws rm mc ms n ∧ (Cond.static y).before args s = true) (hp : PreS s H Pc As)
    (hg : g.method = m) (hn : As.length = n) (hsize : g.locals.size = nL) (hstack : g.stack = As.reverse ++ rest) (hW : 2 * g.monitorRoom + (rest.map fun v => v.category).sum ≤ 8) (hdg : decode cc g.pc = .ok (.invokestatic index, 3)) (hf : cells + mc ≤ R.cells ∧ slots + ms ≤ R.slots) :
    vx_Run p l e R s m args below meth c H locs cells slots mc ms g rest (Qc As.toArray) XC free := by
  have hK : vx_Back l R p e below s args y 3 8 (PreOf R mc ms Pc) (PostOf Qc mc ms free) (vx_Post XC mc ms free) := vx_callBack cw.1 hM hp.1
  obtain ⟨⟨-, -, -, -, -, -, hcode, hini, hy, hlen, hl⟩, hstt⟩ := cw
  obtain ⟨hx, hb, hml, ho, -⟩ := S
  intro T hT X
  rcases vx_callS X hx (bytes := bytes) (maxL := maxL) (ret := ret) ho hl hstt hini hcode hy hK hg (hsize.trans hml.symm) (argsL := As) (rest := rest) (fun sig h => hn.trans (hlen sig h)) hstack hW (by rw [hb]; exact hdg)
    (fun vm₁ hW₁ => ⟨hf.1, hf.2, hp.2 (T.setVm vm₁) hT hW₁⟩) with ⟨v, vm₁, ⟨U', l2, c2, s2⟩, hW₁, X', ⟨g', mk, t, L, e1, e2, hq, h1, hL, h2, h3⟩, st⟩ | ⟨q, vm₁, ⟨U', l2, c2, s2⟩, hW₁, X', ⟨g', mk, t, L, E, ce, e1, e2, hq, hce, hcv, hcl, h1, hL, h2, h3⟩, st⟩
  · dsimp only [Pt.U, Pt.locs, Pt.cells, Pt.slots] at X' e1 e2 h1 h2 h3 st
    subst h1; subst h2; subst h3
    exact Or.inl ⟨v, (T.setVm vm₁).calling g' mk As.toArray, t, U', L, hT, X', hL, e1, e2, hq, st⟩
  · dsimp only [Pt.U, Pt.locs, Pt.cells, Pt.slots] at X' e1 e2 h1 h2 h3 st hcl
    subst h1; subst h2; subst h3
    exact Or.inr ⟨q, (T.setVm vm₁).calling g' mk As.toArray, t, U', L, E, ce, hT, X', hL, e1, e2, hq, hce, hcv, vx_cls hW₁ hcl, st⟩
end Runs
section Rows
variable {p : Program} {l : Launch} {e : Env} {R : Room} {s : State} {m : MethodId} {args : Array Value} {below : List Frame} {meth : Method} {c : Code} {H : Heap} {locs : List Loc} {cells slots : Nat} {Q : State → Prop}
variable {mc ms : Nat} {free : Addr → Prop} {A0 A1 : Nat → Prop} {H0 : Heap} {a : Array Value} {pc : Nat} {ls : Array Slot} {st0 rest : List Value}
theorem vx_keep {st₀ t T' : State} {L : List Loc} (h0 : st₀.heap = H) (e1 : T'.heap = t.heap) (hS : va_S A0 H0 H locs) (hA : ∀ q, q < H.size → A1 q → A0 q) (hf : ∀ q, free q → A0 q) (hL : ∀ q ∈ L, free q.base) (hF : va_F A1 st₀ t) :
    H.size ≤ T'.heap.size ∧ (∀ q : Nat, q < H.size → ¬ A1 q → T'.heap[q]? = H[q]?) ∧ va_S A0 H0 T'.heap (locs ++ L) := by
  obtain ⟨hz, hk⟩ := hF
  rw [h0] at hz hk
  exact ⟨by rw [e1]; exact hz, fun q h1 h2 => by rw [e1]; exact hk q h1 h2,
    ⟨Nat.le_trans hS.1 (by rw [e1]; exact hz), fun q h1 h2 => by rw [e1, hk q (Nat.lt_of_lt_of_le h1 hS.1) (fun z => h2 (hA q (Nat.lt_of_lt_of_le h1 hS.1) z))]; exact hS.2.1 q h1 h2, fun q hq => by
      rcases List.mem_append.mp hq with h | h
      · exact hS.2.2 q h
      · exact hf _ (hL q h)⟩⟩
theorem vx_calli {S SX : Type} {post : Int32 → S → Prop} {px : SX → Prop} {B : S → State → Prop} {BX : String → SX → State → Prop} {AX : Nat → Prop} (hr : vx_Run p l e R s m args below meth c H locs cells slots mc ms (F0 m pc ls st0) rest (va_Qi post B A1 a) (vx_X px BX AX) free) (hS : va_S A0 H0 H locs) (hA : ∀ q, q < H.size → A1 q → A0 q) (hf : ∀ q, free q → A0 q) (hAX : ∀ q, q < H.size → AX q → A0 q)
    (kx : ∀ (E : String) (ce : Cell) (q9 : Addr) (u : SX) (t : State) (H1 : Heap) (locs1 : List Loc), t.heap = H1 → s.vm.Alike t.vm → px u → BX E u t → H.size ≤ H1.size → (∀ q : Nat, q < H.size → ¬ AX q → H1[q]? = H[q]?) → va_S A0 H0 H1 locs1 → H1[q9]? = some ce → ce.vm = .none → s.vm.findClass E = some ce.cls → vx_W p l e R s m args below meth c H1 locs1 (cells + mc) (slots + ms) Q (F0 m pc ls rest) q9)
    (kk : ∀ (r : Int32) (u : S) (t : State) (H1 : Heap) (locs1 : List Loc), t.heap = H1 → s.vm.Alike t.vm → post r u → B u t → H.size ≤ H1.size → (∀ q : Nat, q < H.size → ¬ A1 q → H1[q]? = H[q]?) → va_S A0 H0 H1 locs1 → W p l e R s m args below meth c H1 locs1 (cells + mc) (slots + ms) Q (F0 m (pc + 3) ls (.int r :: rest))) : W p l e R s m args below meth c H locs cells slots Q (F0 m pc ls st0) := by
  intro T hT X
  rcases hr T hT X with ⟨v, st₀, t, T', L, h0, X', hL, e1, e2, ⟨⟨r, u, hv, hp, hb⟩, hF⟩, st⟩ | ⟨q, st₀, t, T', L, E, ce, h0, X', hL, e1, e2, ⟨u, hp, hb, hF⟩, hce, hcv, hcl, st⟩
  · cases hv
    obtain ⟨k1, k2, k3⟩ := vx_keep h0 e1 hS hA hf hL hF
    obtain ⟨t2, a1, b1⟩ := kk r u t T'.heap (locs ++ L) e1.symm (by rw [← e2]; exact X'.warmed.alike) hp hb k1 k2 k3 T' rfl X'
    exact ⟨t2, st t2 a1, b1⟩
  · obtain ⟨k1, k2, k3⟩ := vx_keep h0 e1 hS hAX hf hL hF
    obtain ⟨t2, a1, b1⟩ := kx E ce q u t T'.heap (locs ++ L) e1.symm (by rw [← e2]; exact X'.warmed.alike) hp hb k1 k2 k3 (by rw [e1]; exact hce) hcv hcl T' rfl X'
    exact ⟨t2, st.trans a1, b1⟩
theorem vx_calll {S SX : Type} {post : Int64 → S → Prop} {px : SX → Prop} {B : S → State → Prop} {BX : String → SX → State → Prop} {AX : Nat → Prop} (hr : vx_Run p l e R s m args below meth c H locs cells slots mc ms (F0 m pc ls st0) rest (va_Ql post B A1 a) (vx_X px BX AX) free) (hS : va_S A0 H0 H locs) (hA : ∀ q, q < H.size → A1 q → A0 q) (hf : ∀ q, free q → A0 q) (hAX : ∀ q, q < H.size → AX q → A0 q)
    (kx : ∀ (E : String) (ce : Cell) (q9 : Addr) (u : SX) (t : State) (H1 : Heap) (locs1 : List Loc), t.heap = H1 → s.vm.Alike t.vm → px u → BX E u t → H.size ≤ H1.size → (∀ q : Nat, q < H.size → ¬ AX q → H1[q]? = H[q]?) → va_S A0 H0 H1 locs1 → H1[q9]? = some ce → ce.vm = .none → s.vm.findClass E = some ce.cls → vx_W p l e R s m args below meth c H1 locs1 (cells + mc) (slots + ms) Q (F0 m pc ls rest) q9)
    (kk : ∀ (r : Int64) (u : S) (t : State) (H1 : Heap) (locs1 : List Loc), t.heap = H1 → s.vm.Alike t.vm → post r u → B u t → H.size ≤ H1.size → (∀ q : Nat, q < H.size → ¬ A1 q → H1[q]? = H[q]?) → va_S A0 H0 H1 locs1 → W p l e R s m args below meth c H1 locs1 (cells + mc) (slots + ms) Q (F0 m (pc + 3) ls (.long r :: rest))) : W p l e R s m args below meth c H locs cells slots Q (F0 m pc ls st0) := by
  intro T hT X
  rcases hr T hT X with ⟨v, st₀, t, T', L, h0, X', hL, e1, e2, ⟨⟨r, u, hv, hp, hb⟩, hF⟩, st⟩ | ⟨q, st₀, t, T', L, E, ce, h0, X', hL, e1, e2, ⟨u, hp, hb, hF⟩, hce, hcv, hcl, st⟩
  · cases hv
    obtain ⟨k1, k2, k3⟩ := vx_keep h0 e1 hS hA hf hL hF
    obtain ⟨t2, a1, b1⟩ := kk r u t T'.heap (locs ++ L) e1.symm (by rw [← e2]; exact X'.warmed.alike) hp hb k1 k2 k3 T' rfl X'
    exact ⟨t2, st t2 a1, b1⟩
  · obtain ⟨k1, k2, k3⟩ := vx_keep h0 e1 hS hAX hf hL hF
    obtain ⟨t2, a1, b1⟩ := kx E ce q u t T'.heap (locs ++ L) e1.symm (by rw [← e2]; exact X'.warmed.alike) hp hb k1 k2 k3 (by rw [e1]; exact hce) hcv hcl T' rfl X'
    exact ⟨t2, st.trans a1, b1⟩
theorem vx_callf {S SX : Type} {post : UInt32 → S → Prop} {px : SX → Prop} {B : S → State → Prop} {BX : String → SX → State → Prop} {AX : Nat → Prop} (hr : vx_Run p l e R s m args below meth c H locs cells slots mc ms (F0 m pc ls st0) rest (va_Qf post B A1 a) (vx_X px BX AX) free) (hS : va_S A0 H0 H locs) (hA : ∀ q, q < H.size → A1 q → A0 q) (hf : ∀ q, free q → A0 q) (hAX : ∀ q, q < H.size → AX q → A0 q)
    (kx : ∀ (E : String) (ce : Cell) (q9 : Addr) (u : SX) (t : State) (H1 : Heap) (locs1 : List Loc), t.heap = H1 → s.vm.Alike t.vm → px u → BX E u t → H.size ≤ H1.size → (∀ q : Nat, q < H.size → ¬ AX q → H1[q]? = H[q]?) → va_S A0 H0 H1 locs1 → H1[q9]? = some ce → ce.vm = .none → s.vm.findClass E = some ce.cls → vx_W p l e R s m args below meth c H1 locs1 (cells + mc) (slots + ms) Q (F0 m pc ls rest) q9)
    (kk : ∀ (r : UInt32) (u : S) (t : State) (H1 : Heap) (locs1 : List Loc), t.heap = H1 → s.vm.Alike t.vm → post r u → B u t → H.size ≤ H1.size → (∀ q : Nat, q < H.size → ¬ A1 q → H1[q]? = H[q]?) → va_S A0 H0 H1 locs1 → W p l e R s m args below meth c H1 locs1 (cells + mc) (slots + ms) Q (F0 m (pc + 3) ls (.float r :: rest))) : W p l e R s m args below meth c H locs cells slots Q (F0 m pc ls st0) := by
  intro T hT X
  rcases hr T hT X with ⟨v, st₀, t, T', L, h0, X', hL, e1, e2, ⟨⟨r, u, hv, hp, hb⟩, hF⟩, st⟩ | ⟨q, st₀, t, T', L, E, ce, h0, X', hL, e1, e2, ⟨u, hp, hb, hF⟩, hce, hcv, hcl, st⟩
  · cases hv
    obtain ⟨k1, k2, k3⟩ := vx_keep h0 e1 hS hA hf hL hF
    obtain ⟨t2, a1, b1⟩ := kk r u t T'.heap (locs ++ L) e1.symm (by rw [← e2]; exact X'.warmed.alike) hp hb k1 k2 k3 T' rfl X'
    exact ⟨t2, st t2 a1, b1⟩
  · obtain ⟨k1, k2, k3⟩ := vx_keep h0 e1 hS hAX hf hL hF
    obtain ⟨t2, a1, b1⟩ := kx E ce q u t T'.heap (locs ++ L) e1.symm (by rw [← e2]; exact X'.warmed.alike) hp hb k1 k2 k3 (by rw [e1]; exact hce) hcv hcl T' rfl X'
    exact ⟨t2, st.trans a1, b1⟩
theorem vx_calld {S SX : Type} {post : UInt64 → S → Prop} {px : SX → Prop} {B : S → State → Prop} {BX : String → SX → State → Prop} {AX : Nat → Prop} (hr : vx_Run p l e R s m args below meth c H locs cells slots mc ms (F0 m pc ls st0) rest (va_Qd post B A1 a) (vx_X px BX AX) free) (hS : va_S A0 H0 H locs) (hA : ∀ q, q < H.size → A1 q → A0 q) (hf : ∀ q, free q → A0 q) (hAX : ∀ q, q < H.size → AX q → A0 q)
    (kx : ∀ (E : String) (ce : Cell) (q9 : Addr) (u : SX) (t : State) (H1 : Heap) (locs1 : List Loc), t.heap = H1 → s.vm.Alike t.vm → px u → BX E u t → H.size ≤ H1.size → (∀ q : Nat, q < H.size → ¬ AX q → H1[q]? = H[q]?) → va_S A0 H0 H1 locs1 → H1[q9]? = some ce → ce.vm = .none → s.vm.findClass E = some ce.cls → vx_W p l e R s m args below meth c H1 locs1 (cells + mc) (slots + ms) Q (F0 m pc ls rest) q9)
    (kk : ∀ (r : UInt64) (u : S) (t : State) (H1 : Heap) (locs1 : List Loc), t.heap = H1 → s.vm.Alike t.vm → post r u → B u t → H.size ≤ H1.size → (∀ q : Nat, q < H.size → ¬ A1 q → H1[q]? = H[q]?) → va_S A0 H0 H1 locs1 → W p l e R s m args below meth c H1 locs1 (cells + mc) (slots + ms) Q (F0 m (pc + 3) ls (.double r :: rest))) : W p l e R s m args below meth c H locs cells slots Q (F0 m pc ls st0) := by
  intro T hT X
  rcases hr T hT X with ⟨v, st₀, t, T', L, h0, X', hL, e1, e2, ⟨⟨r, u, hv, hp, hb⟩, hF⟩, st⟩ | ⟨q, st₀, t, T', L, E, ce, h0, X', hL, e1, e2, ⟨u, hp, hb, hF⟩, hce, hcv, hcl, st⟩
  · cases hv
    obtain ⟨k1, k2, k3⟩ := vx_keep h0 e1 hS hA hf hL hF
    obtain ⟨t2, a1, b1⟩ := kk r u t T'.heap (locs ++ L) e1.symm (by rw [← e2]; exact X'.warmed.alike) hp hb k1 k2 k3 T' rfl X'
    exact ⟨t2, st t2 a1, b1⟩
  · obtain ⟨k1, k2, k3⟩ := vx_keep h0 e1 hS hAX hf hL hF
    obtain ⟨t2, a1, b1⟩ := kx E ce q u t T'.heap (locs ++ L) e1.symm (by rw [← e2]; exact X'.warmed.alike) hp hb k1 k2 k3 (by rw [e1]; exact hce) hcv hcl T' rfl X'
    exact ⟨t2, st.trans a1, b1⟩
theorem vx_callv {S SX : Type} {post : S → Prop} {px : SX → Prop} {B : S → State → Prop} {BX : String → SX → State → Prop} {AX : Nat → Prop} (hr : vx_Run p l e R s m args below meth c H locs cells slots mc ms (F0 m pc ls st0) rest (va_Qv post B A1 a) (vx_X px BX AX) free) (hS : va_S A0 H0 H locs) (hA : ∀ q, q < H.size → A1 q → A0 q) (hf : ∀ q, free q → A0 q) (hAX : ∀ q, q < H.size → AX q → A0 q)
    (kx : ∀ (E : String) (ce : Cell) (q9 : Addr) (u : SX) (t : State) (H1 : Heap) (locs1 : List Loc), t.heap = H1 → s.vm.Alike t.vm → px u → BX E u t → H.size ≤ H1.size → (∀ q : Nat, q < H.size → ¬ AX q → H1[q]? = H[q]?) → va_S A0 H0 H1 locs1 → H1[q9]? = some ce → ce.vm = .none → s.vm.findClass E = some ce.cls → vx_W p l e R s m args below meth c H1 locs1 (cells + mc) (slots + ms) Q (F0 m pc ls rest) q9)
    (kk : ∀ (u : S) (t : State) (H1 : Heap) (locs1 : List Loc), t.heap = H1 → s.vm.Alike t.vm → post u → B u t → H.size ≤ H1.size → (∀ q : Nat, q < H.size → ¬ A1 q → H1[q]? = H[q]?) → va_S A0 H0 H1 locs1 → W p l e R s m args below meth c H1 locs1 (cells + mc) (slots + ms) Q (F0 m (pc + 3) ls (rest))) : W p l e R s m args below meth c H locs cells slots Q (F0 m pc ls st0) := by
  intro T hT X
  rcases hr T hT X with ⟨v, st₀, t, T', L, h0, X', hL, e1, e2, ⟨⟨u, hv, hp, hb⟩, hF⟩, st⟩ | ⟨q, st₀, t, T', L, E, ce, h0, X', hL, e1, e2, ⟨u, hp, hb, hF⟩, hce, hcv, hcl, st⟩
  · cases hv
    obtain ⟨k1, k2, k3⟩ := vx_keep h0 e1 hS hA hf hL hF
    obtain ⟨t2, a1, b1⟩ := kk u t T'.heap (locs ++ L) e1.symm (by rw [← e2]; exact X'.warmed.alike) hp hb k1 k2 k3 T' rfl X'
    exact ⟨t2, st t2 a1, b1⟩
  · obtain ⟨k1, k2, k3⟩ := vx_keep h0 e1 hS hAX hf hL hF
    obtain ⟨t2, a1, b1⟩ := kx E ce q u t T'.heap (locs ++ L) e1.symm (by rw [← e2]; exact X'.warmed.alike) hp hb k1 k2 k3 (by rw [e1]; exact hce) hcv hcl T' rfl X'
    exact ⟨t2, st.trans a1, b1⟩
/-- caught by the row x of this method's table; the rows ahead don't take it -/
theorem vx_catch {own name : String} {E : String} {ce : Cell} {q : Addr} (hown : s.vm.findClass own = some m.cls) (pre : List ExceptionTableEntry) (x : ExceptionTableEntry) (suf : List ExceptionTableEntry) (hsplit : c.exceptionTable.toList = pre ++ x :: suf)
    (hpass : ∀ z ∈ pre, covers z pc = false ∨ (z.catchType ≠ 0 ∧ ∃ nm : String, (Cond.classLink own z.catchType nm).before args s = true ∧ va_Nc E nm s)) (hx : covers x pc = true) (h0 : x.catchType ≠ 0)
    (hlink : (Cond.classLink own x.catchType name).before args s = true) (hcast : (Cond.castable E name).before args s = true) (hcell : H[q]? = some ce) (hv : ce.vm = .none) (hcl : s.vm.findClass E = some ce.cls)
    (kk : W p l e R s m args below meth c H locs cells slots Q (F0 m x.handlerPc ls [.ref q])) : vx_W p l e R s m args below meth c H locs cells slots Q (F0 m pc ls rest) q := by
  intro T hT X
  have hpl : e.platform.magicAccessors = ({} : Platform).magicAccessors := by rw [X.admits.platform]
  obtain ⟨c3, c4, hc3, hc4, hasg⟩ := Cond.castable_spec hcast
  cases Option.some.inj (hc3.symm.trans hcl)
  obtain ⟨c5, hc5, hcl5⟩ := Cond.classLink_spec hown hlink e.platform hpl
  cases Option.some.inj (hc4.symm.trans hc5)
  obtain ⟨vm', X', st⟩ := X.thenCaughtThrough q (g := F0 m pc ls rest) rfl (Steps.refl _) (by rw [hT]; exact hcell) (by rw [hv]; rfl) (by obtain ⟨k9, h9, -⟩ := Vm.findClass_spec hcl; exact ⟨k9, h9⟩) pre x suf hsplit
    (fun z hz => by
      rcases hpass z hz with h | ⟨hz0, nm, hl1, hn1⟩
      · exact Or.inl h
      · obtain ⟨c6, hc6, hcl6⟩ := Cond.classLink_spec hown hl1 e.platform hpl
        obtain ⟨a8, b8, h1, h2, h3⟩ := hn1
        cases Option.some.inj (h1.symm.trans hcl)
        cases Option.some.inj (h2.symm.trans hc6)
        exact Or.inr ⟨hz0, _, hcl6, h3⟩) hx (Or.inr ⟨h0, c4, hcl5, hasg⟩)
  obtain ⟨t, a1, b1⟩ := kk (T.setVm vm') hT X'
  exact ⟨t, st.trans a1, b1⟩
end Rows
section Ends
variable {p : Program} {l : Launch} {e : Env} {R : Room} {s : State} {m : MethodId} {args : Array Value} {below : List Frame} {meth : Method} {c : Code} {H : Heap} {locs : List Loc} {cells slots : Nat} {Q : State → Prop}
variable {mc ms : Nat} {free : Addr → Prop} {A0 A1 : Nat → Prop} {H0 : Heap} {a : Array Value} {ls : Array Slot} {st0 rest : List Value}
variable {Qc : Array Value → State → Outcome → State → Prop} {XC : String → State → State → Prop}
/-- what a body that may throw owes at its end -/
def vx_MQ (below : List Frame) (Qc : Array Value → State → Outcome → State → Prop) (XC : String → State → State → Prop) (a : Array Value) (s : State) (mc ms : Nat) (free : Addr → Prop) : State → Prop := fun t =>
  ∃ o, t.status = .running ∧ Ended t below o ∧ vx_Q Qc XC mc ms free a s o t
theorem vx_ret {g : JFrame} {mc ms : Nat} (k : W p l e R s m args below meth c H locs cells slots (MQ below Qc args s mc ms free) g) : W p l e R s m args below meth c H locs cells slots (vx_MQ below Qc XC args s mc ms free) g := by
  intro T hT X
  obtain ⟨t, a1, o, b1, b2, b3, b4⟩ := k T hT X
  exact ⟨t, a1, o, b1, b2, Or.inl ⟨b3, b4⟩⟩
/-- not caught here: it goes on to the caller -/
theorem vx_widen {g : JFrame} {q : Addr} {k n : Nat} (h1 : cells ≤ k) (h2 : slots ≤ n) (kk : vx_W p l e R s m args below meth c H locs k n Q g q) : vx_W p l e R s m args below meth c H locs cells slots Q g q := fun T hT X => kk T hT (stand_widen X h1 h2)
theorem vx_out {pc : Nat} {E : String} {ce : Cell} {q : Addr} {mc ms : Nat} (hout : ∀ x ∈ c.exceptionTable.toList, covers x pc = false) (hlocks : meth.locks = false) (hcell : H[q]? = some ce) (hv : ce.vm = .none) (hcl : s.vm.findClass E = some ce.cls)
    (hx : ∀ t : State, t.heap = H → s.vm.Alike t.vm → XC E s t) (hf : ∀ z ∈ locs, free z.base) (hc : cells ≤ mc) (hs : slots ≤ ms) :
    vx_W p l e R s m args below meth c H locs cells slots (vx_MQ below Qc XC args s mc ms free) (F0 m pc ls rest) q := by
  intro T hT X
  obtain ⟨st1, hrun, hend, hW, hsm⟩ := X.leaveThrown q (g := F0 m pc ls rest) rfl rfl rfl hout hlocks
  have hcell9 : (T.setFrames (.throwing q :: below)).heap[q]? = some ce := by
    show T.heap[q]? = some ce
    rw [hT]; exact hcell
  exact ⟨_, st1, .threw q, hrun, hend, Or.inr ⟨q, rfl, E, ce, locs, hx _ hT hW.alike, hcell9, hv, hcl, hW, hsm.mono hc hs, hf⟩⟩
theorem vx_frame {U : State} {k n : Nat} (h : s.sameButNew ({ U with vm := s.vm } : State) locs k n) : s.heap.size ≤ U.heap.size ∧ ∀ q : Nat, q < s.heap.size → (∀ z ∈ locs, z.base ≠ q) → U.heap[q]? = s.heap[q]? := by
  obtain ⟨-, h2, -, -, -, h6⟩ := h
  refine ⟨h2, fun q hq hz => ?_⟩
  obtain ⟨c9, e1, e2, e3, e4⟩ := h6 q _ (Array.getElem?_eq_getElem hq)
  have hs : c9.slots = (s.heap[q]).slots := Array.ext_getElem? fun i => e4 i fun hm => hz _ hm rfl
  have h9 : c9 = s.heap[q] := by
    rw [hs] at e2
    exact e2
  have e5 : U.heap[q]? = some c9 := e1
  rw [e5, h9, Array.getElem?_eq_getElem hq]
/-- the words of a throw but the four that speak of the heap -/
def vx_no (w : Cond) : Bool := decide (w ≠ .isRef (.static Bundle.tN "UNASSIGNED_STACK" Bundle.steD)) && decide (w ≠ .isRef (.static Bundle.tN "SUPPRESSED_SENTINEL" Bundle.listD)) && decide (w ≠ .laysStatic Bundle.tN "UNASSIGNED_STACK" Bundle.steD) && decide (w ≠ .laysStatic Bundle.tN "SUPPRESSED_SENTINEL" Bundle.listD)
def vx_at0 (own : String) (ic : Nat) (X : String) (names : List String) : List Cond := (Bundle.ownAtoms0 own ic X names).filter vx_no
def vx_atS (own : String) (ic : Nat) (X : String) (names : List String) : List Cond := (Bundle.ownAtoms own ic X names).filter vx_no
/-- a word that the tables alone decide, or a good one -/
def vx_ot (w : Cond) : Bool := w.onTables || goodWord w
theorem vx_ot_at {args a' : Array Value} {s U : State} {w : Cond} (hW : s.WarmedH U.vm) (hvm : s.vm = U.vm) (hg : vx_ot w = true) (h : w.before args s = true) : w.before a' U = true := by
  simp only [vx_ot, Bool.or_eq_true] at hg
  rcases hg with hg | hg
  · exact va_tabs hg hvm h
  · exact word_at hW (good_of_word hg) h
/-- a list's words: the good ones out of the method's own list, the others by premises of their own -/
theorem vx_hat {args : Array Value} {s : State} {L B : List Cond} (h1 : ∀ w ∈ L.filter goodWord, w.before args s = true) (h2 : ∀ w ∈ L.filter (fun w => !goodWord w), w ∈ B) (h3 : ∀ w ∈ B, w.before args s = true) : ∀ w ∈ L, w.before args s = true := by
  intro w hw
  by_cases g : goodWord w = true
  · exact h1 w (List.mem_filter.mpr ⟨hw, g⟩)
  · refine h3 w (h2 w (List.mem_filter.mpr ⟨hw, ?_⟩))
    show (!goodWord w) = true
    cases hgw : goodWord w
    · rfl
    · exact absurd hgw g
theorem vx_c {args : Array Value} {s : State} {w : Cond} {B : List Cond} (h : w.before args s = true) (t : ∀ w ∈ B, w.before args s = true) : ∀ w' ∈ w :: B, w'.before args s = true := fun w' h' => (List.mem_cons.mp h').elim (fun e => by rw [e]; exact h) (t w')
theorem vx_n {args : Array Value} {s : State} : ∀ w ∈ ([] : List Cond), w.before args s = true := fun _ h => nomatch h
theorem vx_own {args : Array Value} {s : State} {L : List Cond} (h1 : ∀ w ∈ L.filter vx_no, w.before args s = true)
    (hU : (Cond.isRef (.static Bundle.tN "UNASSIGNED_STACK" Bundle.steD)).before args s = true) (hN : (Cond.isRef (.static Bundle.tN "SUPPRESSED_SENTINEL" Bundle.listD)).before args s = true)
    (lU : (Cond.laysStatic Bundle.tN "UNASSIGNED_STACK" Bundle.steD).before args s = true) (lN : (Cond.laysStatic Bundle.tN "SUPPRESSED_SENTINEL" Bundle.listD).before args s = true) : ∀ w ∈ L, w.before args s = true := by
  intro w hw
  by_cases e1 : w = .isRef (.static Bundle.tN "UNASSIGNED_STACK" Bundle.steD)
  · rw [e1]; exact hU
  · by_cases e2 : w = .isRef (.static Bundle.tN "SUPPRESSED_SENTINEL" Bundle.listD)
    · rw [e2]; exact hN
    · by_cases e3 : w = .laysStatic Bundle.tN "UNASSIGNED_STACK" Bundle.steD
      · rw [e3]; exact lU
      · by_cases e4 : w = .laysStatic Bundle.tN "SUPPRESSED_SENTINEL" Bundle.listD
        · rw [e4]; exact lN
        · exact h1 w (List.mem_filter.mpr ⟨hw, by unfold vx_no; rw [decide_eq_true e1, decide_eq_true e2, decide_eq_true e3, decide_eq_true e4]; rfl⟩)
/-- where a static field lies, its class's statics cell in H -/
def vx_L (C n d : String) (A : Nat → Prop) (U : State) (H : Heap) : Prop := ∃ (c : ClassId) (k : Class) (i : Nat) (f : Field) (a : Nat) (cell : Cell), U.vm.findClass C = some c ∧ U.fieldFound? C n d = some (c, k, i, f) ∧ f.isStatic = true ∧ k.statics = some a ∧ H[a]? = some cell ∧ cell.vm.isStatics = true ∧ cell.cls = c ∧ f.slot < cell.slots.size ∧ k.staticTypes[f.slot]? = some f.type ∧ ¬ A a
theorem vx_L.moved {C n d : String} {A : Nat → Prop} {u U : State} {H : Heap} (hvm : u.vm.Alike U.vm) (h : vx_L C n d A u H) : vx_L C n d A U H := by
  obtain ⟨c, k, i, f, a, cell, h1, h2, h3, h4, h5, h6, h7, h8, h9, h10⟩ := h
  obtain ⟨k', hi', he⟩ := State.fieldFound?_setVm hvm h2
  exact ⟨c, k', i, f, a, cell, by rw [hvm.findClass]; exact h1, hi', h3, by rw [he]; exact h4, h5, h6, h7, h8, by rw [he]; exact h9, h10⟩
theorem vx_L.kept {C n d : String} {A : Nat → Prop} {U : State} {H H1 : Heap} (h : vx_L C n d A U H) (hq : ∀ a : Nat, a < H.size → ¬ A a → H1[a]? = H[a]?) : vx_L C n d A U H1 := by
  obtain ⟨c, k, i, f, a, cell, h1, h2, h3, h4, h5, h6, h7, h8, h9, h10⟩ := h
  exact ⟨c, k, i, f, a, cell, h1, h2, h3, h4, by rw [hq a (Array.getElem?_eq_some_iff.mp h5).1 h10]; exact h5, h6, h7, h8, h9, h10⟩
theorem vx_L.narrow {C n d : String} {A B : Nat → Prop} {U : State} {H : Heap} (h : vx_L C n d A U H) (hAB : ∀ q, B q → A q) : vx_L C n d B U H := by
  obtain ⟨c, k, i, f, a, cell, h1, h2, h3, h4, h5, h6, h7, h8, h9, h10⟩ := h
  exact ⟨c, k, i, f, a, cell, h1, h2, h3, h4, h5, h6, h7, h8, h9, fun z => h10 (hAB _ z)⟩
theorem vx_L.word {C n d : String} {A : Nat → Prop} {s : State} {args : Array Value} (h : vx_L C n d A s s.heap) : (Cond.laysStatic C n d).before args s = true := by
  obtain ⟨c, k, i, f, a, cell, h1, h2, h3, h4, h5, h6, h7, h8, h9, -⟩ := h
  show (Cond.laysStatic C n d).holds args s none s [] = true
  exact Cond.laysStatic_of h1 h2 h3 h4 h5 h6 h7 h8 h9
/-- .. and what it holds: null or some reference -/
def vx_Zq (C n d : String) (A : Nat → Prop) (U : State) (H : Heap) : Prop := va_Zq C n d A U H ∧ vx_L C n d A U H
theorem vx_Zq.moved {C n d : String} {A : Nat → Prop} {u U : State} {H : Heap} (hvm : u.vm.Alike U.vm) (h : vx_Zq C n d A u H) : vx_Zq C n d A U H := ⟨va_Zq.moved hvm h.1, vx_L.moved hvm h.2⟩
theorem vx_Zq.kept {C n d : String} {A : Nat → Prop} {U : State} {H H1 : Heap} (h : vx_Zq C n d A U H) (hq : ∀ a : Nat, a < H.size → ¬ A a → H1[a]? = H[a]?) : vx_Zq C n d A U H1 := ⟨va_Zq.kept h.1 hq, vx_L.kept h.2 hq⟩
theorem vx_Zq.narrow {C n d : String} {A B : Nat → Prop} {U : State} {H : Heap} (h : vx_Zq C n d A U H) (hAB : ∀ q, B q → A q) : vx_Zq C n d B U H := ⟨va_Zq.narrow h.1 hAB, vx_L.narrow h.2 hAB⟩
theorem vx_Zqof {args : Array Value} {s : State} {C n d : String} {A : Nat → Prop} (hl : (Cond.laysStatic C n d).before args s = true) (hini : (Cond.initialized C).before args s = true) (h : (Cond.isRef (.static C n d)).before args s = true) (hA : ∀ a : Nat, a < s.heap.size → ¬ A a) : vx_Zq C n d A s s.heap := by
  refine ⟨va_Zqof hl hini h hA, ?_⟩
  obtain ⟨c, k, i, f, a, cell, h1, h2, h3, h4, h5, h6, h7, h8, h9⟩ := Cond.laysStatic_spec hl
  exact ⟨c, k, i, f, a, cell, h1, h2, h3, h4, h5, h6, h7, h8, h9, hA a (Array.getElem?_eq_some_iff.mp h5).1⟩
theorem vx_isRef {C n d : String} {v : Value} {A : Nat → Prop} {s : State} {args : Array Value} (h : va_Z C n d v A s s.heap) (hv : v.isRef = true) : (Cond.isRef (.static C n d)).before args s = true := by
  obtain ⟨cf, kf, fi, f, a, cell, h1, h2, h3, h4, h5, h6, h7, -⟩ := h
  have he : (Term.static C n d).eval args s none [] s = some v := by
    simp [Term.eval, State.fieldNamed?, h1, h2, h4, h5, h6, h7]
  simp only [Cond.before, Cond.holds, Cond.value, he]
  cases v <;> simp_all [Value.isRef]
theorem vx_isRefq {C n d : String} {A : Nat → Prop} {s : State} {args : Array Value} (h : va_Zq C n d A s s.heap) : (Cond.isRef (.static C n d)).before args s = true := by
  rcases h with h | ⟨t, h⟩
  · exact vx_isRef h rfl
  · exact vx_isRef h rfl
/-- the same frame, seen from here: as if the method were called anew in this heap -/
theorem vx_rebase {T : State} (X : Stand p l e R s m args below meth c T locs cells slots) {R' : Room} (hf : R'.frames ≤ R.frames) (hl : R'.locals ≤ R.locals) (hc : cells + R'.cells ≤ R.cells) (hs : slots + R'.slots ≤ R.slots) :
    Stand p l e R' ((T.setVm s.vm).setFrames (.invoking m args :: below)) m args below meth c T [] 0 0 := by
  have htop : (T.setVm s.vm).topJava?.isSome := X.here.top
  have hF : ((T.setVm s.vm).setFrames (.invoking m args :: below)).frames = .invoking m args :: below := State.frames_setFrames _ (State.cur_lt_of_top htop)
  obtain ⟨g₀, hg0⟩ := Option.isSome_iff_exists.mp htop
  obtain ⟨r, hr⟩ := State.topJava?_eq_some.mp hg0
  have hl9 : e.platform.stackLimits (T.setVm s.vm).me = e.platform.stackLimits s.me := X.limits
  have hb9 : (T.setVm s.vm).me.stackBytes = s.me.stackBytes := X.bytes
  refine ⟨X.admits, X.cas, X.clock, hF, ?_, X.hears, X.method, X.code, X.here, X.tail, X.warmed, ?_, ?_, ?_⟩
  · have h := X.room
    have hU : ((T.setVm s.vm).setFrames (.invoking m args :: below)).localsInUse = s.localsInUse := by
      rw [State.localsInUse_invoking hF (meth := meth) (c := c) X.method X.code, State.localsInUse_invoking X.frames X.method X.code]
    simp only [State.hasRoom, Bool.and_eq_true, decide_eq_true_eq] at h ⊢
    obtain ⟨⟨⟨⟨h1, h2, h3, h4, h5, h6⟩, h7⟩, h8⟩, h9⟩ := h
    rw [X.frames, List.length_cons] at h2 h3
    have q1 := X.heapSize
    have q2 := X.used
    simp only [hF, hU, List.length_cons, State.stackLimits_setFrames, State.stackBytes_setFrames, hl9, hb9]
    refine ⟨⟨⟨⟨by omega, by omega, by omega, by omega, by omega, h6⟩, ?_⟩, ?_⟩, X.book⟩
    · show T.heap.size + R'.cells ≤ e.platform.maxCells
      omega
    · show T.slotsUsed + R'.slots ≤ e.platform.maxSlots
      omega
  · rw [State.stackLimits_setFrames]; rfl
  · rw [State.stackBytes_setFrames]; rfl
  · refine ⟨?_, Nat.le_refl _, Nat.le_refl _, ?_, ?_, fun a c9 h9 => ⟨c9, h9, rfl, rfl, fun _ _ => rfl⟩⟩
    · obtain ⟨t, ht, -⟩ := State.frames_cons hr
      show T.setVm s.vm = { ((T.setVm s.vm).setFrames (.invoking m args :: below)).setFrames (T.setVm s.vm).frames with heap := T.heap, slotsUsed := T.slotsUsed }
      rw [State.setFrames_setFrames, State.setFrames_self ht]
      rfl
    · show T.slotsUsed = T.slotsUsed + ((T.heap.toList.drop T.heap.size).map (·.slots.size)).sum
      rw [List.drop_eq_nil_of_le (Nat.le_of_eq Array.length_toList)]
      rfl
    · show ((T.heap.toList.drop T.heap.size).map (·.slots.size)).sum ≤ 0
      rw [List.drop_eq_nil_of_le (Nat.le_of_eq Array.length_toList)]
      exact Nat.le_refl _
/-- 'throw new E()': new; dup; invokespecial; athrow -/
theorem vx_throw0 {cc : ByteArray} {pc : Nat} (hexec : p.tables.exec = Jvm.exec) (hb : c.code = cc) (hl : l.stackTraces = false) {own cls : String} {names : List String} {ik ic mc ms : Nat} {A : Nat → Prop}
    (hown : s.vm.findClass own = some m.cls) (hcls : Bundle.fit cls = true) (hnames : ∀ n ∈ names, Bundle.fit n = true)
    (hk : (Cond.classLink own ik cls).before args s = true) (hini : (Cond.initialized cls).before args s = true) (hat : ∀ w ∈ vx_at0 own ic cls names, w.before args s = true)
    (hgood : ∀ w ∈ Cond.classLink own ik cls :: Cond.initialized cls :: vx_at0 own ic cls names, vx_ot w = true)
    (hU : vx_Zq Bundle.tN "UNASSIGNED_STACK" Bundle.steD A s s.heap) (hN : vx_Zq Bundle.tN "SUPPRESSED_SENTINEL" Bundle.listD A s s.heap) (hS : va_S A s.heap H locs) (hsize : ls.size = c.maxLocals)
    (d0 : decode cc pc = .ok (.new ik, 3)) (d3 : decode cc (pc + 3) = .ok (.dup, 1)) (d4 : decode cc (pc + 4) = .ok (.invokespecial ic, 3)) (d7 : decode cc (pc + 7) = .ok (.athrow, 1))
    (hout : ∀ x ∈ c.exceptionTable.toList, covers x (pc + 7) = false)
    (hRframes : names.length + 3 < R.frames) (hRlocals : (rest.map fun v => v.category).sum + (13 * (names.length + 1) + 42) ≤ R.locals) (hRcells : cells + 1 ≤ R.cells) (hRslots : slots + 6 ≤ R.slots) (hlocks : meth.locks = false)
    (hx : ∀ t : State, s.vm.Alike t.vm → H.size ≤ t.heap.size → (∀ q : Nat, q < H.size → t.heap[q]? = H[q]?) → XC cls s t)
    (hf : ∀ z ∈ locs, free z.base) (hc : cells + 1 ≤ mc) (hs : slots + 6 ≤ ms) :
    W p l e R s m args below meth c H locs cells slots (vx_MQ below Qc XC args s mc ms free) (F0 m pc ls rest) := by
  intro T hT X
  have htr : e.platform.stackTraces = false := (show e.platform.stackTraces = l.stackTraces by rw [X.admits.platform]).trans hl
  have Y := vx_rebase X (R' := { frames := R.frames, locals := R.locals, cells := 1, slots := 6 }) (Nat.le_refl _) (Nat.le_refl _) hRcells hRslots
  obtain ⟨s', hA⟩ : ∃ z, z = (T.setVm s.vm).setFrames (.invoking m args :: below) := ⟨_, rfl⟩
  rw [← hA] at Y
  have hvm : s'.vm = s.vm := by rw [hA]; rfl
  have hhp : s'.heap = H := by rw [hA]; exact hT
  have hW0 : s.WarmedH s'.vm := by rw [hvm]; exact State.WarmedH.refl s
  have hat' : ∀ w ∈ vx_at0 own ic cls names, w.before args s' = true := fun w hw => vx_ot_at hW0 hvm.symm (hgood w (List.mem_cons_of_mem _ (List.mem_cons_of_mem _ hw))) (hat w hw)
  have hk' : (Cond.classLink own ik cls).before args s' = true := vx_ot_at hW0 hvm.symm (hgood _ List.mem_cons_self) hk
  have hini' : (Cond.initialized cls).before args s' = true := vx_ot_at hW0 hvm.symm (hgood _ (List.mem_cons_of_mem _ List.mem_cons_self)) hini
  have hU' : vx_Zq Bundle.tN "UNASSIGNED_STACK" Bundle.steD A s' s'.heap := by rw [hhp]; exact vx_Zq.moved hW0.alike (hU.kept hS.2.1)
  have hN' : vx_Zq Bundle.tN "SUPPRESSED_SENTINEL" Bundle.listD A s' s'.heap := by rw [hhp]; exact vx_Zq.moved hW0.alike (hN.kept hS.2.1)
  have h : ∀ w ∈ Bundle.ownAtoms0 own ic cls names, w.before args s' = true := vx_own hat' (vx_isRefq hU'.1) (vx_isRefq hN'.1) hU'.2.word hN'.2.word
  have hown' : s'.vm.findClass own = some m.cls := by rw [hvm]; exact hown
  have hins : (Cond.instantiable cls 6).before args s' = true := h _ (by simp [Bundle.ownAtoms0])
  obtain ⟨vm₁, cX, kX, hfX, hkX, -, -, X₁, st1⟩ := Y.newCold hexec (own := own) (C := cls) (index := ik) (n := 6) hown' hk' hins hini'
    (g := F0 m pc ls rest) rfl (by rw [hb]; exact d0) (Nat.le_refl _) (Nat.le_refl _)
  generalize hT1 : (T.setVm vm₁).pushCell { cls := cX, slots := kX.instanceTypes.map defaultValue, vm := .none } = T1 at X₁ st1
  have hcat : (Value.ref T.heap.size).category = 1 := rfl
  have hcellA : T1.heap[T.heap.size]? = some (freshCell cX kX) := by rw [← hT1]; exact State.heap_pushCell_size _ _
  have d3' : decode c.code (pc + 3) = .ok (.dup, 1) := by rw [hb]; exact d3
  obtain ⟨U, hsteps, hrun, hend, hW, hsame, ce, hce, hO⟩ := X₁.ctorThrow0 hexec htr (own := own) (cls := cls) (names := names) (ic := ic) hown' hcls hnames h (fun x hx => nomatch hx) hfX hkX hcellA (by rw [hhp, hT]; exact Nat.le_refl _)
    (g := { method := m, pc := pc + 4, locals := ls, stack := .ref T.heap.size :: .ref T.heap.size :: rest, locked := none }) rfl hsize rfl rfl (rest := rest) rfl
    (by rw [hb]; exact d4) (by rw [hb]; exact d7) hout hRframes (by simp only [List.map_cons, List.sum_cons, hcat]; omega) hlocks
  obtain ⟨f1, f2⟩ := vx_frame hsame
  rw [hhp] at f1 f2
  have hWs : s.WarmedH U.vm := State.WarmedH.trans hW0 hW
  have hcl : s.vm.findClass cls = some ce.cls := by
    have h9 := hO.cls
    rw [hvm] at h9
    exact h9
  have hall : s.sameButNew ({ U with vm := s.vm } : State) locs mc ms := by
    subst hA
    obtain ⟨e1, e2⟩ := hsame
    rw [State.setFrames_setFrames] at e1
    have h2 : (T.setVm s.vm).sameButNew ({ U with vm := s.vm } : State) [] (0 + 1) (0 + 6) := ⟨e1, e2⟩
    have h3 := X.same.trans h2
    rw [List.append_nil] at h3
    exact h3.mono hc hs
  refine ⟨U, ?_, .threw T.heap.size, hrun, hend, Or.inr ⟨T.heap.size, rfl, cls, ce, locs, hx U hWs.alike f1 (fun q hq => f2 q hq (fun z hz => nomatch hz)), hce, hO.vm, hcl, hWs, hall, hf⟩⟩
  refine st1 _ ?_
  show Steps p.tables e below (T1.setTop { method := m, pc := pc + 3, locals := ls, stack := .ref T.heap.size :: rest, locked := none }) _
  jvm_step X₁.here [X₁.here.top, hexec, d3', Value.category]
  exact hsteps
/-- 'throw new E("text")': new; dup; ldc; invokespecial; athrow -/
theorem vx_throwS {cc : ByteArray} {pc : Nat} (hexec : p.tables.exec = Jvm.exec) (hb : c.code = cc) (hl : l.stackTraces = false) {own cls text : String} {names : List String} {ik is ic mc ms sa : Nat} {A : Nat → Prop}
    (hown : s.vm.findClass own = some m.cls) (hcls : Bundle.fit cls = true) (hnames : ∀ n ∈ names, Bundle.fit n = true)
    (hk : (Cond.classLink own ik cls).before args s = true) (hini : (Cond.initialized cls).before args s = true) (hstr : vk_R own is text sa s) (hat : ∀ w ∈ vx_atS own ic cls names, w.before args s = true)
    (hgood : ∀ w ∈ Cond.classLink own ik cls :: Cond.initialized cls :: vx_atS own ic cls names, vx_ot w = true)
    (hU : vx_Zq Bundle.tN "UNASSIGNED_STACK" Bundle.steD A s s.heap) (hN : vx_Zq Bundle.tN "SUPPRESSED_SENTINEL" Bundle.listD A s s.heap) (hS : va_S A s.heap H locs) (hsize : ls.size = c.maxLocals)
    (d0 : decode cc pc = .ok (.new ik, 3)) (d3 : decode cc (pc + 3) = .ok (.dup, 1)) (d4 : decode cc (pc + 4) = .ok (.ldc is, 2)) (d6 : decode cc (pc + 6) = .ok (.invokespecial ic, 3)) (d9 : decode cc (pc + 9) = .ok (.athrow, 1))
    (hout : ∀ x ∈ c.exceptionTable.toList, covers x (pc + 9) = false)
    (hRframes : names.length + 3 < R.frames) (hRlocals : (rest.map fun v => v.category).sum + (13 * (names.length + 1) + 43) ≤ R.locals) (hRcells : cells + 1 ≤ R.cells) (hRslots : slots + 6 ≤ R.slots) (hlocks : meth.locks = false)
    (hx : ∀ t : State, s.vm.Alike t.vm → H.size ≤ t.heap.size → (∀ q : Nat, q < H.size → t.heap[q]? = H[q]?) → t.heap.size = H.size + 1 → XC cls s t)
    (hf : ∀ z ∈ locs, free z.base) (hc : cells + 1 ≤ mc) (hs : slots + 6 ≤ ms) :
    W p l e R s m args below meth c H locs cells slots (vx_MQ below Qc XC args s mc ms free) (F0 m pc ls rest) := by
  intro T hT X
  have htr : e.platform.stackTraces = false := (show e.platform.stackTraces = l.stackTraces by rw [X.admits.platform]).trans hl
  have Y := vx_rebase X (R' := { frames := R.frames, locals := R.locals, cells := 1, slots := 6 }) (Nat.le_refl _) (Nat.le_refl _) hRcells hRslots
  obtain ⟨s', hA⟩ : ∃ z, z = (T.setVm s.vm).setFrames (.invoking m args :: below) := ⟨_, rfl⟩
  rw [← hA] at Y
  have hvm : s'.vm = s.vm := by rw [hA]; rfl
  have hhp : s'.heap = H := by rw [hA]; exact hT
  have hW0 : s.WarmedH s'.vm := by rw [hvm]; exact State.WarmedH.refl s
  have hat' : ∀ w ∈ vx_atS own ic cls names, w.before args s' = true := fun w hw => vx_ot_at hW0 hvm.symm (hgood w (List.mem_cons_of_mem _ (List.mem_cons_of_mem _ hw))) (hat w hw)
  have hk' : (Cond.classLink own ik cls).before args s' = true := vx_ot_at hW0 hvm.symm (hgood _ List.mem_cons_self) hk
  have hini' : (Cond.initialized cls).before args s' = true := vx_ot_at hW0 hvm.symm (hgood _ (List.mem_cons_of_mem _ List.mem_cons_self)) hini
  have hU' : vx_Zq Bundle.tN "UNASSIGNED_STACK" Bundle.steD A s' s'.heap := by rw [hhp]; exact vx_Zq.moved hW0.alike (hU.kept hS.2.1)
  have hN' : vx_Zq Bundle.tN "SUPPRESSED_SENTINEL" Bundle.listD A s' s'.heap := by rw [hhp]; exact vx_Zq.moved hW0.alike (hN.kept hS.2.1)
  have h : ∀ w ∈ Bundle.ownAtoms own ic cls names, w.before args s' = true := vx_own hat' (vx_isRefq hU'.1) (vx_isRefq hN'.1) hU'.2.word hN'.2.word
  have hown' : s'.vm.findClass own = some m.cls := by rw [hvm]; exact hown
  have hins : (Cond.instantiable cls 6).before args s' = true := h _ (by simp [Bundle.ownAtoms])
  obtain ⟨vm₁, cX, kX, hfX, hkX, -, -, X₁, st1⟩ := Y.newCold hexec (own := own) (C := cls) (index := ik) (n := 6) hown' hk' hins hini'
    (g := F0 m pc ls rest) rfl (by rw [hb]; exact d0) (Nat.le_refl _) (Nat.le_refl _)
  generalize hT1 : (T.setVm vm₁).pushCell { cls := cX, slots := kX.instanceTypes.map defaultValue, vm := .none } = T1 at X₁ st1
  have hcat : (Value.ref T.heap.size).category = 1 := rfl
  have hcellA : T1.heap[T.heap.size]? = some (freshCell cX kX) := by rw [← hT1]; exact State.heap_pushCell_size _ _
  have d3' : decode c.code (pc + 3) = .ok (.dup, 1) := by rw [hb]; exact d3
  have d4' : decode c.code (pc + 4) = .ok (.ldc is, 2) := by rw [hb]; exact d4
  have hstr' : vk_R own is text sa s' := vk_R.warm hW0 hstr
  obtain ⟨U, hsteps, hrun, hend, hW, hsame, ce, hce, hO⟩ := X₁.ctorThrowS hexec htr (own := own) (cls := cls) (names := names) (ic := ic) hown' hcls hnames h (fun x hx => nomatch hx) hfX hkX hcellA (by rw [hhp, hT]; exact Nat.le_refl _) (msg := .ref sa) rfl
    (g := { method := m, pc := pc + 6, locals := ls, stack := .ref sa :: .ref T.heap.size :: .ref T.heap.size :: rest, locked := none }) rfl hsize rfl rfl (rest := rest) rfl
    (by rw [hb]; exact d6) (by rw [hb]; exact d9) hout hRframes (by simp only [List.map_cons, List.sum_cons, hcat]; omega) hlocks
  obtain ⟨f1, f2⟩ := vx_frame hsame
  rw [hhp] at f1 f2
  have hWs : s.WarmedH U.vm := State.WarmedH.trans hW0 hW
  have hcl : s.vm.findClass cls = some ce.cls := by
    have h9 := hO.cls
    rw [hvm] at h9
    exact h9
  have hall : s.sameButNew ({ U with vm := s.vm } : State) locs mc ms := by
    subst hA
    obtain ⟨e1, e2⟩ := hsame
    rw [State.setFrames_setFrames] at e1
    have h2 : (T.setVm s.vm).sameButNew ({ U with vm := s.vm } : State) [] (0 + 1) (0 + 6) := ⟨e1, e2⟩
    have h3 := X.same.trans h2
    rw [List.append_nil] at h3
    exact h3.mono hc hs
  have hsz9 : U.heap.size = H.size + 1 := by
    have g1 : U.heap.size ≤ s'.heap.size + 1 := hsame.2.2.1
    have g2 : T.heap.size < U.heap.size := (Array.getElem?_eq_some_iff.mp hce).1
    rw [hhp] at g1
    rw [hT] at g2
    omega
  refine ⟨U, ?_, .threw T.heap.size, hrun, hend, Or.inr ⟨T.heap.size, rfl, cls, ce, locs, hx U hWs.alike f1 (fun q hq => f2 q hq (fun z hz => nomatch hz)) hsz9, hce, hO.vm, hcl, hWs, hall, hf⟩⟩
  refine st1 _ ?_
  show Steps p.tables e below (T1.setTop { method := m, pc := pc + 3, locals := ls, stack := .ref T.heap.size :: rest, locked := none }) _
  jvm_step X₁.here [X₁.here.top, hexec, d3', Value.category]
  exact X₁.ldcString hexec (own := own) (text := text) (index := is) (a := sa) hown' hstr'.1 hstr'.2
    (g := { method := m, pc := pc + 4, locals := ls, stack := .ref T.heap.size :: .ref T.heap.size :: rest, locked := none }) rfl d4' _ hsteps
/-- 'throw new E("text")', the text by a wide index -/
theorem vx_throwSW {cc : ByteArray} {pc : Nat} (hexec : p.tables.exec = Jvm.exec) (hb : c.code = cc) (hl : l.stackTraces = false) {own cls text : String} {names : List String} {ik is ic mc ms sa : Nat} {A : Nat → Prop}
    (hown : s.vm.findClass own = some m.cls) (hcls : Bundle.fit cls = true) (hnames : ∀ n ∈ names, Bundle.fit n = true)
    (hk : (Cond.classLink own ik cls).before args s = true) (hini : (Cond.initialized cls).before args s = true) (hstr : vk_R own is text sa s) (hat : ∀ w ∈ vx_atS own ic cls names, w.before args s = true)
    (hgood : ∀ w ∈ Cond.classLink own ik cls :: Cond.initialized cls :: vx_atS own ic cls names, vx_ot w = true)
    (hU : vx_Zq Bundle.tN "UNASSIGNED_STACK" Bundle.steD A s s.heap) (hN : vx_Zq Bundle.tN "SUPPRESSED_SENTINEL" Bundle.listD A s s.heap) (hS : va_S A s.heap H locs) (hsize : ls.size = c.maxLocals)
    (d0 : decode cc pc = .ok (.new ik, 3)) (d3 : decode cc (pc + 3) = .ok (.dup, 1)) (d4 : decode cc (pc + 4) = .ok (.ldc_w is, 3)) (d7 : decode cc (pc + 7) = .ok (.invokespecial ic, 3)) (d10 : decode cc (pc + 10) = .ok (.athrow, 1))
    (hout : ∀ x ∈ c.exceptionTable.toList, covers x (pc + 10) = false)
    (hRframes : names.length + 3 < R.frames) (hRlocals : (rest.map fun v => v.category).sum + (13 * (names.length + 1) + 43) ≤ R.locals) (hRcells : cells + 1 ≤ R.cells) (hRslots : slots + 6 ≤ R.slots) (hlocks : meth.locks = false)
    (hx : ∀ t : State, s.vm.Alike t.vm → H.size ≤ t.heap.size → (∀ q : Nat, q < H.size → t.heap[q]? = H[q]?) → t.heap.size = H.size + 1 → XC cls s t)
    (hf : ∀ z ∈ locs, free z.base) (hc : cells + 1 ≤ mc) (hs : slots + 6 ≤ ms) :
    W p l e R s m args below meth c H locs cells slots (vx_MQ below Qc XC args s mc ms free) (F0 m pc ls rest) := by
  intro T hT X
  have htr : e.platform.stackTraces = false := (show e.platform.stackTraces = l.stackTraces by rw [X.admits.platform]).trans hl
  have Y := vx_rebase X (R' := { frames := R.frames, locals := R.locals, cells := 1, slots := 6 }) (Nat.le_refl _) (Nat.le_refl _) hRcells hRslots
  obtain ⟨s', hA⟩ : ∃ z, z = (T.setVm s.vm).setFrames (.invoking m args :: below) := ⟨_, rfl⟩
  rw [← hA] at Y
  have hvm : s'.vm = s.vm := by rw [hA]; rfl
  have hhp : s'.heap = H := by rw [hA]; exact hT
  have hW0 : s.WarmedH s'.vm := by rw [hvm]; exact State.WarmedH.refl s
  have hat' : ∀ w ∈ vx_atS own ic cls names, w.before args s' = true := fun w hw => vx_ot_at hW0 hvm.symm (hgood w (List.mem_cons_of_mem _ (List.mem_cons_of_mem _ hw))) (hat w hw)
  have hk' : (Cond.classLink own ik cls).before args s' = true := vx_ot_at hW0 hvm.symm (hgood _ List.mem_cons_self) hk
  have hini' : (Cond.initialized cls).before args s' = true := vx_ot_at hW0 hvm.symm (hgood _ (List.mem_cons_of_mem _ List.mem_cons_self)) hini
  have hU' : vx_Zq Bundle.tN "UNASSIGNED_STACK" Bundle.steD A s' s'.heap := by rw [hhp]; exact vx_Zq.moved hW0.alike (hU.kept hS.2.1)
  have hN' : vx_Zq Bundle.tN "SUPPRESSED_SENTINEL" Bundle.listD A s' s'.heap := by rw [hhp]; exact vx_Zq.moved hW0.alike (hN.kept hS.2.1)
  have h : ∀ w ∈ Bundle.ownAtoms own ic cls names, w.before args s' = true := vx_own hat' (vx_isRefq hU'.1) (vx_isRefq hN'.1) hU'.2.word hN'.2.word
  have hown' : s'.vm.findClass own = some m.cls := by rw [hvm]; exact hown
  have hins : (Cond.instantiable cls 6).before args s' = true := h _ (by simp [Bundle.ownAtoms])
  obtain ⟨vm₁, cX, kX, hfX, hkX, -, -, X₁, st1⟩ := Y.newCold hexec (own := own) (C := cls) (index := ik) (n := 6) hown' hk' hins hini'
    (g := F0 m pc ls rest) rfl (by rw [hb]; exact d0) (Nat.le_refl _) (Nat.le_refl _)
  generalize hT1 : (T.setVm vm₁).pushCell { cls := cX, slots := kX.instanceTypes.map defaultValue, vm := .none } = T1 at X₁ st1
  have hcat : (Value.ref T.heap.size).category = 1 := rfl
  have hcellA : T1.heap[T.heap.size]? = some (freshCell cX kX) := by rw [← hT1]; exact State.heap_pushCell_size _ _
  have d3' : decode c.code (pc + 3) = .ok (.dup, 1) := by rw [hb]; exact d3
  have d4' : decode c.code (pc + 4) = .ok (.ldc_w is, 3) := by rw [hb]; exact d4
  have hstr' : vk_R own is text sa s' := vk_R.warm hW0 hstr
  obtain ⟨U, hsteps, hrun, hend, hW, hsame, ce, hce, hO⟩ := X₁.ctorThrowS hexec htr (own := own) (cls := cls) (names := names) (ic := ic) hown' hcls hnames h (fun x hx => nomatch hx) hfX hkX hcellA (by rw [hhp, hT]; exact Nat.le_refl _) (msg := .ref sa) rfl
    (g := { method := m, pc := pc + 7, locals := ls, stack := .ref sa :: .ref T.heap.size :: .ref T.heap.size :: rest, locked := none }) rfl hsize rfl rfl (rest := rest) rfl
    (by rw [hb]; exact d7) (by rw [hb]; exact d10) hout hRframes (by simp only [List.map_cons, List.sum_cons, hcat]; omega) hlocks
  obtain ⟨f1, f2⟩ := vx_frame hsame
  rw [hhp] at f1 f2
  have hWs : s.WarmedH U.vm := State.WarmedH.trans hW0 hW
  have hcl : s.vm.findClass cls = some ce.cls := by
    have h9 := hO.cls
    rw [hvm] at h9
    exact h9
  have hall : s.sameButNew ({ U with vm := s.vm } : State) locs mc ms := by
    subst hA
    obtain ⟨e1, e2⟩ := hsame
    rw [State.setFrames_setFrames] at e1
    have h2 : (T.setVm s.vm).sameButNew ({ U with vm := s.vm } : State) [] (0 + 1) (0 + 6) := ⟨e1, e2⟩
    have h3 := X.same.trans h2
    rw [List.append_nil] at h3
    exact h3.mono hc hs
  have hsz9 : U.heap.size = H.size + 1 := by
    have g1 : U.heap.size ≤ s'.heap.size + 1 := hsame.2.2.1
    have g2 : T.heap.size < U.heap.size := (Array.getElem?_eq_some_iff.mp hce).1
    rw [hhp] at g1
    rw [hT] at g2
    omega
  refine ⟨U, ?_, .threw T.heap.size, hrun, hend, Or.inr ⟨T.heap.size, rfl, cls, ce, locs, hx U hWs.alike f1 (fun q hq => f2 q hq (fun z hz => nomatch hz)) hsz9, hce, hO.vm, hcl, hWs, hall, hf⟩⟩
  refine st1 _ ?_
  show Steps p.tables e below (T1.setTop { method := m, pc := pc + 3, locals := ls, stack := .ref T.heap.size :: rest, locked := none }) _
  jvm_step X₁.here [X₁.here.top, hexec, d3', Value.category]
  exact X₁.ldcStringW hexec (own := own) (text := text) (index := is) (a := sa) hown' hstr'.1 hstr'.2
    (g := { method := m, pc := pc + 4, locals := ls, stack := .ref T.heap.size :: .ref T.heap.size :: rest, locked := none }) rfl d4' _ hsteps
end Ends
section Bodies
variable {l : Launch}
theorem vx_ofW {y : MethodName} {ws ws' : List Cond} {rm : Room} {Pc : Array Value → State → Prop} {Qc : Array Value → State → Outcome → State → Prop} {XC : String → State → State → Prop} {mc ms : Nat} {free : Addr → Prop} {cc : ByteArray} {maxL : Nat} {ret : Option FieldType}
    (hy : plainName y.cls = true) (hw : ws = Cond.code y cc maxL ret :: ws')
    (body : ∀ p e s m args below meth c s₁, BodyLoose p l y (headSpec ws rm) cc maxL ret e s m args below meth c s₁ → c.maxLocals = maxL → (∀ x ∈ c.exceptionTable.toList, False) → Pc args s →
      W p l e (headSpec ws rm).room s m args below meth c s.heap [] 0 0 (vx_MQ below Qc XC args s mc ms free) (entryFrame m args maxL)) : vx_Met l y ws rm Pc Qc XC mc ms free := by
  refine MetFree.of_bodyS (code := cc) (maxLocals := maxL) (ret := ret) hy ?_ ?_
  · intro args s m h hn
    obtain ⟨meth, c, h1, h2, h3, h4, h5, h6, -, -⟩ := Cond.code_spec hn (atoms_spec (ws := ws) h _ (by rw [hw]; exact List.mem_cons_self))
    exact ⟨meth, c, h1, h2, h3, h4, h5, h6⟩
  · intro p e s m args below meth c s₁ B hml hP _
    have hh0 : s₁.heap = s.heap := by rw [B.state]; rfl
    have ht : ∀ x ∈ c.exceptionTable.toList, False := by
      obtain ⟨meth9, c9, h1, h2, -, -, -, -, h7, -⟩ := Cond.code_spec B.named (atoms_spec (ws := ws) B.pre _ (by rw [hw]; exact List.mem_cons_self))
      cases Option.some.inj (h1.symm.trans B.method)
      cases Option.some.inj (h2.symm.trans (Stand.of_body B).code)
      intro x hx
      rw [Array.isEmpty_iff.mp h7] at hx
      cases hx
    obtain ⟨t, a1, o, b1, b2, b3⟩ := body p e s m args below meth c s₁ B hml ht hP s₁ hh0 (Stand.of_body B)
    exact ⟨t, o, a1, b1, b2, b3⟩
/-- the table of a body with handlers -/
theorem vx_table {p : Program} {x y : MethodName} {S : Spec} {cc bytes : ByteArray} {maxL maxL' : Nat} {ret ret' : Option FieldType} {e : Env} {s s₁ : State} {m : MethodId} {args : Array Value} {below : List Frame} {meth : Method} {c : Code} {hh : List (Nat × Nat × Nat × Nat)}
    (B : BodyLoose p l y S cc maxL ret e s m args below meth c s₁) (h : (Cond.codeWith y bytes maxL' ret' hh).before args s = true) : c.exceptionTable.toList = tableOf hh := by
  obtain ⟨m9, meth9, c9, hn9, h1, h2, -, -, h6, -⟩ := Cond.codeWith_spec h
  cases Option.some.inj (hn9.symm.trans B.named)
  cases Option.some.inj (h1.symm.trans B.method)
  cases Option.some.inj (h2.symm.trans (Stand.of_body B).code)
  rw [← h6, table_eq]
end Bodies
end VXA
/-! ===== END ===== -/
/-! ===== BEGIN a static call of a method with an exception table ===== -/
section VXS
variable {p : Program} {l : Launch} {e : Env} {R : Room} {s : State} {m : MethodId} {args : Array Value} {below : List Frame} {meth : Method} {c : Code} {T : State} {H : Heap} {locs : List Loc} {cells slots : Nat}
abbrev vx_CSW (R : Room) (s : State) (args : Array Value) (own : String) (index : Nat) (y : MethodName) (bytes : ByteArray) (maxL : Nat) (ret : Option FieldType) (hh : List (Nat × Nat × Nat × Nat)) (ws : List Cond) (rm : Room) (mc ms n : Nat) : Prop :=
  (rm.cells = mc ∧ rm.slots = ms ∧ rm.frames + 1 ≤ R.frames ∧ 8 + (maxL + 11) + rm.locals ≤ R.locals ∧ (∀ w ∈ ws, ∀ (a' : Array Value) (U : State), s.WarmedH U.vm → w.before a' U = true) ∧ Cond.codeWith y bytes maxL ret hh ∈ ws) ∧
  (Cond.codeWith y bytes maxL ret hh).before args s = true ∧ (Cond.initialized y.cls).before args s = true ∧ (y.cls ≠ "java/lang/invoke/MethodHandle" ∧ y.cls ≠ "java/lang/invoke/VarHandle") ∧
  (∀ sig, parseMethodDescriptor y.desc = some sig → n = sig.parameters.length) ∧ (Cond.methodLink own index y).before args s = true ∧ (Cond.static y).before args s = true
theorem vx_cwSW {own : String} {index maxL mc ms : Nat} {y : MethodName} {bytes : ByteArray} {ret : Option FieldType} {hh : List (Nat × Nat × Nat × Nat)} {Ts ws ws' : List Cond} {rm : Room} (n : Nat) (ht : ∀ w ∈ Ts, w.before args s = true) (hT : GoodIn Ts (va_wsS own index y ws)) (hw : ws = Cond.codeWith y bytes maxL ret hh :: ws') (hrc : rm.cells = mc) (hrs : rm.slots = ms)
    (hd : y.cls ≠ "java/lang/invoke/MethodHandle" ∧ y.cls ≠ "java/lang/invoke/VarHandle" ∧ (parseMethodDescriptor y.desc).map (fun d => d.parameters.length) = some n) (hR : rm.frames + 1 ≤ R.frames ∧ 8 + (maxL + 11) + rm.locals ≤ R.locals) :
    vx_CSW R s args own index y bytes maxL ret hh ws rm mc ms n := by
  have ok : ∀ w ∈ va_wsS own index y ws, w.before args s = true := fun w h => ht w (hT w h).1
  have hG : GoodIn Ts ws := fun w h => hT w (by unfold va_wsS; exact List.mem_append_right _ h)
  have hc : Cond.codeWith y bytes maxL ret hh ∈ ws := by rw [hw]; exact List.mem_cons_self
  refine ⟨⟨hrc, hrs, hR.1, hR.2, pay_in ht hG, hc⟩, ht _ (hG _ hc).1, ok _ (by simp [va_wsS]), ⟨hd.1, hd.2.1⟩, fun sig h => ?_, ok _ (by simp [va_wsS]), ok _ (by simp [va_wsS])⟩
  have h2 := hd.2.2
  rw [h] at h2
  exact (Option.some.inj h2).symm
theorem vx_callSW (X : Stand p l e R s m args below meth c T locs cells slots) (hexec : p.tables.exec = Jvm.exec) {own : String} {index : Nat} {y : MethodName} {bytes : ByteArray} {maxL : Nat} {ret : Option FieldType} {hh : List (Nat × Nat × Nat × Nat)}
    (hown : s.vm.findClass own = some m.cls) (hlink : (Cond.methodLink own index y).before args s = true) (hstat : (Cond.static y).before args s = true) (hinit : (Cond.initialized y.cls).before args s = true)
    (hcode : (Cond.codeWith y bytes maxL ret hh).before args s = true) (hy : y.cls ≠ "java/lang/invoke/MethodHandle" ∧ y.cls ≠ "java/lang/invoke/VarHandle")
    {W9 : Nat} {Pre : Pt → Array Value → Prop} {Post : Pt → Array Value → Option Value → Pt → Prop} (hK : Back l R p e below s args y 3 W9 Pre Post)
    {g : JFrame} (hg : g.method = m) (hsize : g.locals.size = c.maxLocals) {argsL rest : List Value} (hlen : ∀ sig, parseMethodDescriptor y.desc = some sig → argsL.length = sig.parameters.length)
    (hstack : g.stack = argsL.reverse ++ rest) (hW : 2 * g.monitorRoom + (rest.map fun v => v.category).sum ≤ W9) (hdg : decode c.code g.pc = .ok (.invokestatic index, 3))
    (hpre : ∀ vm₁, s.WarmedH vm₁ → Pre ⟨T.setVm vm₁, locs, cells, slots⟩ argsL.toArray) :
    ∃ (v : Option Value) (vm₁ : Vm) (B : Pt), s.WarmedH vm₁ ∧ Stand p l e R s m args below meth c B.U B.locs B.cells B.slots ∧ Post ⟨T.setVm vm₁, locs, cells, slots⟩ argsL.toArray v B ∧
      ∀ target, Steps p.tables e below (B.U.setTop { g with pc := g.pc + 3, stack := v.toList ++ rest }) target → Steps p.tables e below (T.setTop g) target := by
  obtain ⟨mk, methM, cM, hnamed, hmethM, -, -, -, -, -, -, hsigM⟩ := Cond.codeWith_spec hcode
  have hstatic : methM.isStatic = true := Cond.static_spec hnamed hmethM hstat
  obtain ⟨kP, hkP, -⟩ := className_of_methodNamed hnamed
  have hinitP : kP.init = .initialized := Cond.initialized_spec (findClass_of_methodNamed hnamed) hkP hinit
  obtain ⟨vm₁, X₁, hstep₁⟩ := X.invokestatic hexec hown hlink hnamed hmethM hstatic hkP hinitP hy (g := g) hg (argsL := argsL) (rest := rest) (hlen _ hsigM) hstack hdg
  obtain ⟨v, B, X', hpost, hsteps⟩ := hK m meth c ⟨T.setVm vm₁, locs, cells, slots⟩ { g with stack := rest } (.invokestatic index) mk argsL.toArray X₁ hg hsize hdg hW (X₁.named hnamed) (hpre vm₁ X₁.warmed)
  exact ⟨v, vm₁, B, X₁.warmed, X', hpost, fun target h => hstep₁ _ fun acts => by rw [doInvoke_state]; exact hsteps.trans h⟩
theorem vx_runSW {y : MethodName} {bytes cc : ByteArray} {maxL nL mc ms n index : Nat} {ret : Option FieldType} {hh : List (Nat × Nat × Nat × Nat)} {ws : List Cond} {rm : Room} {Pc : Array Value → State → Prop} {Qc : Array Value → State → Outcome → State → Prop} {free : Addr → Prop} {Ts : List Cond} {own : String} {As rest : List Value} {g : JFrame}
    (S : CallFix p m c cc nL s args Ts own) (hM : Met l y ws rm Pc Qc mc ms free) (cw : vx_CSW R s args own index y bytes maxL ret hh ws rm mc ms n) (hp : PreS s H Pc As)
    (hg : g.method = m) (hn : As.length = n) (hsize : g.locals.size = nL) (hstack : g.stack = As.reverse ++ rest) (hW : 2 * g.monitorRoom + (rest.map fun v => v.category).sum ≤ 8) (hdg : decode cc g.pc = .ok (.invokestatic index, 3)) (hf : cells + mc ≤ R.cells ∧ slots + ms ≤ R.slots) :
    va_Run p l e R s m args below meth c H locs cells slots mc ms g rest (Qc As.toArray) (free) := by
  obtain ⟨⟨hrc, hrs, hfr, hlo, hws, hcw⟩, hcode, hini, hy, hlen, hl, hstt⟩ := cw
  have hK : Back l R p e below s args y 3 8 (PreOf R mc ms Pc) (PostOf Qc mc ms free) := va_backW (hh := hh) (bytes := bytes) (maxL := maxL) (ret := ret) hM hp.1 hrc hrs hfr hlo hws hcw (fun a' U hW => word_at hW (Or.inl (by first | rfl | simp [Cond.onTables, Cond.keeps, Cond.steady])) hini)
  obtain ⟨hx, hb, hml, ho, -⟩ := S
  intro T hT X
  obtain ⟨v, vm₁, ⟨U', l2, c2, s2⟩, hW₁, X', ⟨g', mk, t, L, e1, e2, hq, h1, hL, h2, h3⟩, st⟩ := vx_callSW X hx (hh := hh) (bytes := bytes) (maxL := maxL) (ret := ret) ho hl hstt hini hcode hy hK hg (hsize.trans hml.symm) (argsL := As) (rest := rest) (fun sig h => hn.trans (hlen sig h)) hstack hW (by rw [hb]; exact hdg)
    (fun vm₁ hW₁ => ⟨hf.1, hf.2, hp.2 (T.setVm vm₁) hT hW₁⟩)
  dsimp only [Pt.U, Pt.locs, Pt.cells, Pt.slots] at X' e1 e2 h1 h2 h3 st
  subst h1; subst h2; subst h3
  exact ⟨v, (T.setVm vm₁).calling g' mk As.toArray, t, U', L, hT, X', hL, e1, e2, hq, st⟩
/-- not caught here, past rows that name other classes: it goes on to the caller -/
theorem vx_outP {p : Program} {l : Launch} {e : Env} {R : Room} {s : State} {m : MethodId} {args : Array Value} {below : List Frame} {meth : Method} {c : Code} {H : Heap} {locs : List Loc} {cells slots : Nat} {free : Addr → Prop} {ls : Array Slot} {rest : List Value} {Qc : Array Value → State → Outcome → State → Prop} {XC : String → State → State → Prop}
    {pc : Nat} {own E : String} {ce : Cell} {q : Addr} {mc ms : Nat} (hown : s.vm.findClass own = some m.cls) (hlocks : meth.locks = false)
    (hpass : ∀ z ∈ c.exceptionTable.toList, covers z pc = false ∨ (z.catchType ≠ 0 ∧ ∃ nm : String, (Cond.classLink own z.catchType nm).before args s = true ∧ va_Nc E nm s)) (hcell : H[q]? = some ce) (hv : ce.vm = .none) (hcl : s.vm.findClass E = some ce.cls)
    (hx : ∀ t : State, t.heap = H → s.vm.Alike t.vm → XC E s t) (hf : ∀ z ∈ locs, free z.base) (hc : cells ≤ mc) (hs : slots ≤ ms) :
    vx_W p l e R s m args below meth c H locs cells slots (vx_MQ below Qc XC args s mc ms free) (F0 m pc ls rest) q := by
  intro T hT X
  have hpl : e.platform.magicAccessors = ({} : Platform).magicAccessors := by rw [X.admits.platform]
  obtain ⟨vm', hW', X', st⟩ := X.outThrough hlocks q (g := F0 m pc ls rest) rfl rfl rfl (cell := ce) (by rw [hT]; exact hcell) (by rw [hv]; rfl)
    (by obtain ⟨k9, h9, -⟩ := Vm.findClass_spec hcl; exact ⟨k9, h9⟩) (fun z hz => by
      rcases hpass z hz with h | ⟨hz0, nm, hl1, hn1⟩
      · exact Or.inl h
      · obtain ⟨c6, hc6, hcl6⟩ := Cond.classLink_spec hown hl1 e.platform hpl
        obtain ⟨a8, b8, h1, h2, h3⟩ := hn1
        cases Option.some.inj (h1.symm.trans hcl)
        cases Option.some.inj (h2.symm.trans hc6)
        exact Or.inr ⟨hz0, _, hcl6, h3⟩)
  obtain ⟨g₀, hfr⟩ := X'.frames_eq
  have hcell9 : ((T.setVm vm').setFrames (.throwing q :: below)).heap[q]? = some ce := by
    show T.heap[q]? = some ce
    rw [hT]; exact hcell
  have hend : Ended ((T.setVm vm').setFrames (.throwing q :: below)) below (.threw q) := State.frames_setFrames _ (State.cur_lt_of_frames hfr)
  refine ⟨(T.setVm vm').setFrames (.throwing q :: below), ?_, .threw q, X'.here.running, hend, Or.inr ⟨q, rfl, E, ce, locs, hx _ hT (X'.ends _).1.alike, hcell9, hv, hcl, (X'.ends _).1, (X'.ends _).2.mono hc hs, hf⟩⟩
  rw [X.pushThrowing_eq]
  exact st
/-- a thing of a world lies in the heap -/
theorem vx_lt {D : va_G} {cl : List vw_C} {ws : va_W} {H1 : Heap} (h : va_P D cl ws H1) {k : Nat} {q : Nat × va_E} (hk : ws[k]? = some q) : q.1 < H1.size := (h k q hk).lt
end VXS
/-! ===== END ===== -/
/-! ===== BEGIN methods with a table of their own: called by a name, returning or throwing ===== -/
section VXH
/-! vx_backW, vx_callVX, vx_callSX, vx_callVW, vx_runVW, vx_runVX, vx_runSX, vx_ofWH follow the same proofs as their sisters above (Free/Laws.lean, Shelf42/LK1.lean); vx_outP calls Shelf42/NT130.lean (outThrough). -/
section
variable {l : Launch} {R : Room} {p : Program} {e : Env} {below : List Frame} {s : State} {sargs : Array Value} {y : MethodName} {len W9 : Nat}
theorem vx_backW {ws : List Cond} {rm : Room} {Pc : Array Value → State → Prop} {Qc : Array Value → State → Outcome → State → Prop} {XC : String → State → State → Prop} {mc ms : Nat} {free : Addr → Prop} {bytes : ByteArray} {maxL : Nat} {ret : Option FieldType} {hh : List (Nat × Nat × Nat × Nat)}
    (hM : vx_Met l y ws rm Pc Qc XC mc ms free) (hblind : FrameBlind Pc) (hrc : rm.cells = mc) (hrs : rm.slots = ms)
    (hframes : rm.frames + 1 ≤ R.frames) (hlocals : W9 + (maxL + 11) + rm.locals ≤ R.locals)
    (hws : ∀ w ∈ ws, ∀ a' U, s.WarmedH U.vm → w.before a' U = true) (hcode : Cond.codeWith y bytes maxL ret hh ∈ ws) (hinit : ∀ a' U, s.WarmedH U.vm → (Cond.initialized y.cls).before a' U = true) :
    vx_Back l R p e below s sargs y len W9 (PreOf R mc ms Pc) (PostOf Qc mc ms free) (vx_Post XC mc ms free) := by
  intro m meth c A g ig mk a X hg hsize hdg hW hn hp
  have h1 : (headSpec ws rm).pre.before a A.U = true := atoms_intro fun w hw => hws w hw _ _ X.warmed
  have h2 : (Cond.codeWith y bytes maxL ret hh).before a A.U = true := hws _ hcode _ _ X.warmed
  have h3 : (Cond.initialized y.cls).before a A.U = true := hinit _ _ X.warmed
  have h4 : A.cells + (headSpec ws rm).room.cells ≤ R.cells := by rw [show (headSpec ws rm).room.cells = mc from hrc]; exact hp.1
  have h5 : A.slots + (headSpec ws rm).room.slots ≤ R.slots := by rw [show (headSpec ws rm).room.slots = ms from hrs]; exact hp.2.1
  have hPc : Pc a (A.U.calling g mk a) := hblind _ _ _ _ hp.2.2
  obtain ⟨U, Ls, c0, s0⟩ := A
  dsimp only [Pt.U, Pt.locs, Pt.cells, Pt.slots] at h1 h2 h3 h4 h5 X hn hPc ⊢
  obtain ⟨m9, methY, cY, hn9, hmY, hcY, -, hlY, -⟩ := Cond.codeWith_spec h2
  cases Option.some.inj (hn9.symm.trans hn)
  obtain ⟨kY, hkY, -⟩ := className_of_methodNamed hn
  have hinitY : kY.init = .initialized := Cond.initialized_spec (findClass_of_methodNamed hn) hkY h3
  have h : At U g.method c below := by rw [hg]; exact X.here
  have hlocals9 : W9 + (maxL + 11) + (headSpec ws rm).room.locals ≤ R.locals := hlocals
  have happ : (headSpec ws rm).appliesLoose y e.platform (U.calling g mk a) = true :=
    Spec.appliesLoose_calling (g := g) h hdg hn hkY hinitY
      (X.room_calling (g := g) (R' := (headSpec ws rm).room) hsize hmY hcY hframes (by rw [hlY]; omega) h4 h5) h1
  obtain ⟨mid, hmid⟩ := h.above
  have hfr : (U.setTop g).frames = (.java g :: mid) ++ below := by rw [State.frames_setTop' g h.top, hmid]; rfl
  obtain ⟨o, s₂, hsteps, -, hend, hq⟩ := Steps.callFree hM p X.admits X.cas X.clock (acts := []) hfr happ hPc trivial
  have hq' : vx_Q Qc XC mc ms free a (U.calling g mk a) o s₂ := hq
  rw [State.frames_setTop' g h.top] at hend
  obtain ⟨g₀, hg0⟩ := Option.isSome_iff_exists.mp h.top
  obtain ⟨r, hr⟩ := State.topJava?_eq_some.mp hg0
  have hr' : (({ U with heap := s₂.heap, slotsUsed := s₂.slotsUsed } : State).setVm s₂.vm).frames = .java g₀ :: r := hr
  rcases hq' with ⟨hqc, L, hfe, hL⟩ | ⟨q, rfl, E, ce, L, hx, hce, hcv, hcl, hW₂, hsm, hL⟩
  · obtain ⟨⟨v, rfl⟩, hW₂, e2, q2, q3, q4, q5, q6⟩ := id hfe
    have e3 : s₂ = ({ (U.calling g mk a).setFrames s₂.frames with heap := s₂.heap, slotsUsed := s₂.slotsUsed } : State).setVm s₂.vm := by
      have : s₂ = ({ s₂ with vm := (U.calling g mk a).vm } : State).setVm s₂.vm := rfl
      rw [e2] at this
      exact this
    obtain ⟨c₂, i₂, len₂, hc₂, hd₂, hf₂⟩ := hend
    have hW' : U.WarmedH s₂.vm := hW₂
    have hcc : c₂ = c := by
      have h1 : s₂.code? g.method = U.code? g.method := by
        rw [State.code?_eq, State.code?_eq, hW'.alike.method?]
      exact Option.some.inj (hc₂.symm.trans (h1.trans h.code))
    subst hcc
    have hlen : len₂ = len := by rw [hdg] at hd₂; cases hd₂; rfl
    subst hlen
    have hs₂ : s₂ = (({ U with heap := s₂.heap, slotsUsed := s₂.slotsUsed } : State).setVm s₂.vm).setTop { g with pc := g.pc + len₂, stack := v.toList ++ g.stack } := by
      refine e3.trans ?_
      rw [hf₂, State.calling_eq h.top, State.setFrames_setFrames, State.setTop_of_frames _ hr', hr]
      rfl
    have hsame : U.sameButNew ({ U with heap := s₂.heap, slotsUsed := s₂.slotsUsed } : State) L mc ms := by
      refine ⟨?_, q2, q3, q4, q5, q6⟩
      obtain ⟨t, ht, -⟩ := State.frames_cons hr
      show ({ U with heap := s₂.heap, slotsUsed := s₂.slotsUsed } : State) = { U.setFrames U.frames with heap := s₂.heap, slotsUsed := s₂.slotsUsed }
      rw [State.setFrames_self ht]
    subst hg
    refine Or.inl ⟨v, ⟨(({ U with heap := s₂.heap, slotsUsed := s₂.slotsUsed } : State).setVm s₂.vm), Ls ++ L, c0 + mc, s0 + ms⟩,
      ⟨X.admits, X.cas, X.clock, X.frames, X.room, X.hears, X.method, X.code, (X.here.setHeapUsed s₂.heap s₂.slotsUsed).setVm hW'.alike, X.tail, State.WarmedH.trans X.warmed hW', X.limits, X.bytes, X.same.trans (hsame.setVm s.vm)⟩,
      ⟨g, mk, s₂, L, rfl, rfl, hqc, rfl, hL, rfl, rfl⟩, ?_⟩
    show Steps p.tables e below _ ((({ U with heap := s₂.heap, slotsUsed := s₂.slotsUsed } : State).setVm s₂.vm).setTop { g with pc := g.pc + len₂, stack := v.toList ++ g.stack })
    rw [← hs₂]
    exact hsteps
  · obtain ⟨e2, q2, q3, q4, q5, q6⟩ := id hsm
    have e3 : s₂ = ({ (U.calling g mk a).setFrames s₂.frames with heap := s₂.heap, slotsUsed := s₂.slotsUsed } : State).setVm s₂.vm := by
      have : s₂ = ({ s₂ with vm := (U.calling g mk a).vm } : State).setVm s₂.vm := rfl
      rw [e2] at this
      exact this
    have hf₂ : s₂.frames = .throwing q :: .java g :: U.frames.tail := hend
    have hW' : U.WarmedH s₂.vm := hW₂
    have hs₂ : s₂ = ((({ U with heap := s₂.heap, slotsUsed := s₂.slotsUsed } : State).setVm s₂.vm).setTop g).pushFrame (.throwing q) := by
      refine e3.trans ?_
      rw [hf₂, State.calling_eq h.top, State.setFrames_setFrames, State.pushFrame, State.frames_setTop _ hr', State.setTop_of_frames _ hr', State.setFrames_setFrames, hr]
      rfl
    have hsame : U.sameButNew ({ U with heap := s₂.heap, slotsUsed := s₂.slotsUsed } : State) L mc ms := by
      refine ⟨?_, q2, q3, q4, q5, q6⟩
      obtain ⟨t, ht, -⟩ := State.frames_cons hr
      show ({ U with heap := s₂.heap, slotsUsed := s₂.slotsUsed } : State) = { U.setFrames U.frames with heap := s₂.heap, slotsUsed := s₂.slotsUsed }
      rw [State.setFrames_self ht]
    subst hg
    refine Or.inr ⟨q, ⟨(({ U with heap := s₂.heap, slotsUsed := s₂.slotsUsed } : State).setVm s₂.vm), Ls ++ L, c0 + mc, s0 + ms⟩,
      ⟨X.admits, X.cas, X.clock, X.frames, X.room, X.hears, X.method, X.code, (X.here.setHeapUsed s₂.heap s₂.slotsUsed).setVm hW'.alike, X.tail, State.WarmedH.trans X.warmed hW', X.limits, X.bytes, X.same.trans (hsame.setVm s.vm)⟩,
      ⟨g, mk, s₂, L, E, ce, rfl, rfl, hx, hce, hcv, hcl, rfl, hL, rfl, rfl⟩, ?_⟩
    show Steps p.tables e below _ (((({ U with heap := s₂.heap, slotsUsed := s₂.slotsUsed } : State).setVm s₂.vm).setTop g).pushFrame (.throwing q))
    rw [← hs₂]
    exact hsteps
end
variable {p : Program} {l : Launch} {e : Env} {R : Room} {s : State} {m : MethodId} {args : Array Value} {below : List Frame} {meth : Method} {c : Code} {T : State} {H : Heap} {locs : List Loc} {cells slots : Nat}
theorem vx_callVX (X : Stand p l e R s m args below meth c T locs cells slots) (hexec : p.tables.exec = Jvm.exec) {own C : String} {index : Nat} {y : MethodName} {bytes : ByteArray} {maxL : Nat} {ret : Option FieldType} {hh : List (Nat × Nat × Nat × Nat)}
    (hown : s.vm.findClass own = some m.cls) (hlink : (Cond.methodLink own index y).before args s = true) (hinst : (Cond.instanceMethod y).before args s = true) (hsel : (Cond.selects C y y).before args s = true)
    (hcode : (Cond.codeWith y bytes maxL ret hh).before args s = true) (hy : y.cls ≠ "java/lang/invoke/MethodHandle" ∧ y.cls ≠ "java/lang/invoke/VarHandle")
    {W9 : Nat} {Pre : Pt → Array Value → Prop} {Post : Pt → Array Value → Option Value → Pt → Prop} {PostX : Pt → Array Value → Addr → Pt → Prop} (hK : vx_Back l R p e below s args y 3 W9 Pre Post PostX)
    {b : Addr} {cellB : Cell} (hcell : T.heap[b]? = some cellB) (hobj : cellB.vm.isStatics = false) (hcls : s.vm.findClass C = some cellB.cls)
    {g : JFrame} (hg : g.method = m) (hsize : g.locals.size = c.maxLocals) {argsL rest : List Value} (hlen : ∀ sig, parseMethodDescriptor y.desc = some sig → argsL.length = sig.parameters.length)
    (hstack : g.stack = argsL.reverse ++ .ref b :: rest) (hW : 2 * g.monitorRoom + (rest.map fun v => v.category).sum ≤ W9) (hdg : decode c.code g.pc = .ok (.invokevirtual index, 3))
    (hpre : ∀ vm₁, s.WarmedH vm₁ → Pre ⟨T.setVm vm₁, locs, cells, slots⟩ (Value.ref b :: argsL).toArray) :
    (∃ (v : Option Value) (vm₁ : Vm) (B : Pt), s.WarmedH vm₁ ∧ Stand p l e R s m args below meth c B.U B.locs B.cells B.slots ∧ Post ⟨T.setVm vm₁, locs, cells, slots⟩ (Value.ref b :: argsL).toArray v B ∧
      ∀ target, Steps p.tables e below (B.U.setTop { g with pc := g.pc + 3, stack := v.toList ++ rest }) target → Steps p.tables e below (T.setTop g) target) ∨
    (∃ (q : Addr) (vm₁ : Vm) (B : Pt), s.WarmedH vm₁ ∧ Stand p l e R s m args below meth c B.U B.locs B.cells B.slots ∧ PostX ⟨T.setVm vm₁, locs, cells, slots⟩ (Value.ref b :: argsL).toArray q B ∧
      Steps p.tables e below (T.setTop g) ((B.U.setTop { g with stack := rest }).pushFrame (.throwing q))) := by
  obtain ⟨mk, methM, hnamed, hmethM, hstM, habM⟩ := Cond.instanceMethod_spec hinst
  obtain ⟨m8, methM', cM, hn8, hmethM', -, -, -, -, -, -, hsigM⟩ := Cond.codeWith_spec hcode
  cases Option.some.inj (hn8.symm.trans hnamed)
  cases hmethM.symm.trans hmethM'
  obtain ⟨c2, r2, m2, q1, q2, q3, q4, kP, hkP, hkPi⟩ := Cond.selects_spec hsel
  cases hcls.symm.trans q1
  cases (State.methodFound?_of_named hnamed hy).symm.trans q2
  cases hnamed.symm.trans q3
  have hselP : selectMethod e.platform s.vm cellB.cls mk = .method mk := by rw [Launch.admits_selectMethod X.admits]; exact q4
  obtain ⟨vm₁, X₁, hstep₁⟩ := X.invokevirtual hexec hown hlink hnamed hmethM hstM hkP hkPi hy (a := b) (cell := cellB) hcell
    (fun z h => by rw [h] at hobj; cases hobj) hselP hmethM habM hkP hkPi (g := g) hg (argsL := argsL) (rest := rest) (hlen _ hsigM) hstack hdg
  rcases hK m meth c ⟨T.setVm vm₁, locs, cells, slots⟩ { g with stack := rest } (.invokevirtual index) mk (Value.ref b :: argsL).toArray X₁ hg hsize hdg hW (X₁.named hnamed) (hpre vm₁ X₁.warmed) with ⟨v, B, X', hpost, hsteps⟩ | ⟨q, B, X', hpost, hsteps⟩
  · exact Or.inl ⟨v, vm₁, B, X₁.warmed, X', hpost, fun target h => hstep₁ _ fun acts => by rw [doInvoke_state]; exact hsteps.trans h⟩
  · exact Or.inr ⟨q, vm₁, B, X₁.warmed, X', hpost, hstep₁ _ fun acts => by rw [doInvoke_state]; exact hsteps⟩
theorem vx_callSX (X : Stand p l e R s m args below meth c T locs cells slots) (hexec : p.tables.exec = Jvm.exec) {own : String} {index : Nat} {y : MethodName} {bytes : ByteArray} {maxL : Nat} {ret : Option FieldType} {hh : List (Nat × Nat × Nat × Nat)}
    (hown : s.vm.findClass own = some m.cls) (hlink : (Cond.methodLink own index y).before args s = true) (hstat : (Cond.static y).before args s = true) (hinit : (Cond.initialized y.cls).before args s = true)
    (hcode : (Cond.codeWith y bytes maxL ret hh).before args s = true) (hy : y.cls ≠ "java/lang/invoke/MethodHandle" ∧ y.cls ≠ "java/lang/invoke/VarHandle")
    {W9 : Nat} {Pre : Pt → Array Value → Prop} {Post : Pt → Array Value → Option Value → Pt → Prop} {PostX : Pt → Array Value → Addr → Pt → Prop} (hK : vx_Back l R p e below s args y 3 W9 Pre Post PostX)
    {g : JFrame} (hg : g.method = m) (hsize : g.locals.size = c.maxLocals) {argsL rest : List Value} (hlen : ∀ sig, parseMethodDescriptor y.desc = some sig → argsL.length = sig.parameters.length)
    (hstack : g.stack = argsL.reverse ++ rest) (hW : 2 * g.monitorRoom + (rest.map fun v => v.category).sum ≤ W9) (hdg : decode c.code g.pc = .ok (.invokestatic index, 3))
    (hpre : ∀ vm₁, s.WarmedH vm₁ → Pre ⟨T.setVm vm₁, locs, cells, slots⟩ argsL.toArray) :
    (∃ (v : Option Value) (vm₁ : Vm) (B : Pt), s.WarmedH vm₁ ∧ Stand p l e R s m args below meth c B.U B.locs B.cells B.slots ∧ Post ⟨T.setVm vm₁, locs, cells, slots⟩ argsL.toArray v B ∧
      ∀ target, Steps p.tables e below (B.U.setTop { g with pc := g.pc + 3, stack := v.toList ++ rest }) target → Steps p.tables e below (T.setTop g) target) ∨
    (∃ (q : Addr) (vm₁ : Vm) (B : Pt), s.WarmedH vm₁ ∧ Stand p l e R s m args below meth c B.U B.locs B.cells B.slots ∧ PostX ⟨T.setVm vm₁, locs, cells, slots⟩ argsL.toArray q B ∧
      Steps p.tables e below (T.setTop g) ((B.U.setTop { g with stack := rest }).pushFrame (.throwing q))) := by
  obtain ⟨mk, methM, cM, hnamed, hmethM, -, -, -, -, -, -, hsigM⟩ := Cond.codeWith_spec hcode
  have hstatic : methM.isStatic = true := Cond.static_spec hnamed hmethM hstat
  obtain ⟨kP, hkP, -⟩ := className_of_methodNamed hnamed
  have hinitP : kP.init = .initialized := Cond.initialized_spec (findClass_of_methodNamed hnamed) hkP hinit
  obtain ⟨vm₁, X₁, hstep₁⟩ := X.invokestatic hexec hown hlink hnamed hmethM hstatic hkP hinitP hy (g := g) hg (argsL := argsL) (rest := rest) (hlen _ hsigM) hstack hdg
  rcases hK m meth c ⟨T.setVm vm₁, locs, cells, slots⟩ { g with stack := rest } (.invokestatic index) mk argsL.toArray X₁ hg hsize hdg hW (X₁.named hnamed) (hpre vm₁ X₁.warmed) with ⟨v, B, X', hpost, hsteps⟩ | ⟨q, B, X', hpost, hsteps⟩
  · exact Or.inl ⟨v, vm₁, B, X₁.warmed, X', hpost, fun target h => hstep₁ _ fun acts => by rw [doInvoke_state]; exact hsteps.trans h⟩
  · exact Or.inr ⟨q, vm₁, B, X₁.warmed, X', hpost, hstep₁ _ fun acts => by rw [doInvoke_state]; exact hsteps⟩
theorem vx_callVW (X : Stand p l e R s m args below meth c T locs cells slots) (hexec : p.tables.exec = Jvm.exec) {own C : String} {index : Nat} {y : MethodName} {bytes : ByteArray} {maxL : Nat} {ret : Option FieldType} {hh : List (Nat × Nat × Nat × Nat)}
    (hown : s.vm.findClass own = some m.cls) (hlink : (Cond.methodLink own index y).before args s = true) (hinst : (Cond.instanceMethod y).before args s = true) (hsel : (Cond.selects C y y).before args s = true)
    (hcode : (Cond.codeWith y bytes maxL ret hh).before args s = true) (hy : y.cls ≠ "java/lang/invoke/MethodHandle" ∧ y.cls ≠ "java/lang/invoke/VarHandle")
    {W9 : Nat} {Pre : Pt → Array Value → Prop} {Post : Pt → Array Value → Option Value → Pt → Prop} (hK : Back l R p e below s args y 3 W9 Pre Post)
    {b : Addr} {cellB : Cell} (hcell : T.heap[b]? = some cellB) (hobj : cellB.vm.isStatics = false) (hcls : s.vm.findClass C = some cellB.cls)
    {g : JFrame} (hg : g.method = m) (hsize : g.locals.size = c.maxLocals) {argsL rest : List Value} (hlen : ∀ sig, parseMethodDescriptor y.desc = some sig → argsL.length = sig.parameters.length)
    (hstack : g.stack = argsL.reverse ++ .ref b :: rest) (hW : 2 * g.monitorRoom + (rest.map fun v => v.category).sum ≤ W9) (hdg : decode c.code g.pc = .ok (.invokevirtual index, 3))
    (hpre : ∀ vm₁, s.WarmedH vm₁ → Pre ⟨T.setVm vm₁, locs, cells, slots⟩ (Value.ref b :: argsL).toArray) :
    ∃ (v : Option Value) (vm₁ : Vm) (B : Pt), s.WarmedH vm₁ ∧ Stand p l e R s m args below meth c B.U B.locs B.cells B.slots ∧ Post ⟨T.setVm vm₁, locs, cells, slots⟩ (Value.ref b :: argsL).toArray v B ∧
      ∀ target, Steps p.tables e below (B.U.setTop { g with pc := g.pc + 3, stack := v.toList ++ rest }) target → Steps p.tables e below (T.setTop g) target := by
  obtain ⟨mk, methM, hnamed, hmethM, hstM, habM⟩ := Cond.instanceMethod_spec hinst
  obtain ⟨m8, methM', cM, hn8, hmethM', -, -, -, -, -, -, hsigM⟩ := Cond.codeWith_spec hcode
  cases Option.some.inj (hn8.symm.trans hnamed)
  cases hmethM.symm.trans hmethM'
  obtain ⟨c2, r2, m2, q1, q2, q3, q4, kP, hkP, hkPi⟩ := Cond.selects_spec hsel
  cases hcls.symm.trans q1
  cases (State.methodFound?_of_named hnamed hy).symm.trans q2
  cases hnamed.symm.trans q3
  have hselP : selectMethod e.platform s.vm cellB.cls mk = .method mk := by rw [Launch.admits_selectMethod X.admits]; exact q4
  obtain ⟨vm₁, X₁, hstep₁⟩ := X.invokevirtual hexec hown hlink hnamed hmethM hstM hkP hkPi hy (a := b) (cell := cellB) hcell
    (fun z h => by rw [h] at hobj; cases hobj) hselP hmethM habM hkP hkPi (g := g) hg (argsL := argsL) (rest := rest) (hlen _ hsigM) hstack hdg
  obtain ⟨v, B, X', hpost, hsteps⟩ := hK m meth c ⟨T.setVm vm₁, locs, cells, slots⟩ { g with stack := rest } (.invokevirtual index) mk (Value.ref b :: argsL).toArray X₁ hg hsize hdg hW (X₁.named hnamed) (hpre vm₁ X₁.warmed)
  exact ⟨v, vm₁, B, X₁.warmed, X', hpost, fun target h => hstep₁ _ fun acts => by rw [doInvoke_state]; exact hsteps.trans h⟩
abbrev vx_CVW (R : Room) (s : State) (args : Array Value) (own C : String) (index : Nat) (y : MethodName) (bytes : ByteArray) (maxL : Nat) (ret : Option FieldType) (hh : List (Nat × Nat × Nat × Nat)) (ws : List Cond) (rm : Room) (mc ms n : Nat) : Prop :=
  (rm.cells = mc ∧ rm.slots = ms ∧ rm.frames + 1 ≤ R.frames ∧ 8 + (maxL + 11) + rm.locals ≤ R.locals ∧ (∀ w ∈ ws, ∀ (a' : Array Value) (U : State), s.WarmedH U.vm → w.before a' U = true) ∧ Cond.codeWith y bytes maxL ret hh ∈ ws) ∧
  (Cond.codeWith y bytes maxL ret hh).before args s = true ∧ (Cond.initialized y.cls).before args s = true ∧ (y.cls ≠ "java/lang/invoke/MethodHandle" ∧ y.cls ≠ "java/lang/invoke/VarHandle") ∧
  (∀ sig, parseMethodDescriptor y.desc = some sig → n = sig.parameters.length) ∧ (Cond.methodLink own index y).before args s = true ∧ (Cond.instanceMethod y).before args s = true ∧ (Cond.selects C y y).before args s = true
theorem vx_cwVW {own C : String} {index maxL mc ms : Nat} {y : MethodName} {bytes : ByteArray} {ret : Option FieldType} {hh : List (Nat × Nat × Nat × Nat)} {Ts ws ws' : List Cond} {rm : Room} (n : Nat) (ht : ∀ w ∈ Ts, w.before args s = true) (hT : GoodIn Ts (wsV own index C y ws)) (hw : ws = Cond.codeWith y bytes maxL ret hh :: ws') (hrc : rm.cells = mc) (hrs : rm.slots = ms)
    (hd : y.cls = C ∧ y.cls ≠ "java/lang/invoke/MethodHandle" ∧ y.cls ≠ "java/lang/invoke/VarHandle" ∧ (parseMethodDescriptor y.desc).map (fun d => d.parameters.length) = some n) (hR : rm.frames + 1 ≤ R.frames ∧ 8 + (maxL + 11) + rm.locals ≤ R.locals) :
    vx_CVW R s args own C index y bytes maxL ret hh ws rm mc ms n := by
  obtain ⟨hC, hd⟩ := hd
  subst hC
  have ok : ∀ w ∈ wsV own index y.cls y ws, w.before args s = true := fun w h => ht w (hT w h).1
  have hG : GoodIn Ts ws := fun w h => hT w (by unfold wsV; exact List.mem_append_right _ h)
  have hc : Cond.codeWith y bytes maxL ret hh ∈ ws := by rw [hw]; exact List.mem_cons_self
  refine ⟨⟨hrc, hrs, hR.1, hR.2, pay_in ht hG, hc⟩, ht _ (hG _ hc).1, ok _ (by simp [wsV]), ⟨hd.1, hd.2.1⟩, fun sig h => ?_, ok _ (by simp [wsV]), ok _ (by simp [wsV]), ok _ (by simp [wsV])⟩
  have h2 := hd.2.2
  rw [h] at h2
  exact (Option.some.inj h2).symm
theorem vx_runVW {y : MethodName} {bytes cc : ByteArray} {maxL nL mc ms n index : Nat} {ret : Option FieldType} {hh : List (Nat × Nat × Nat × Nat)} {ws : List Cond} {rm : Room} {Pc : Array Value → State → Prop} {Qc : Array Value → State → Outcome → State → Prop} {free : Addr → Prop} {Ts : List Cond} {own C : String} {b : Addr} {As rest : List Value} {g : JFrame}
    (S : CallFix p m c cc nL s args Ts own) (hM : Met l y ws rm Pc Qc mc ms free) (cw : vx_CVW R s args own C index y bytes maxL ret hh ws rm mc ms n) (hp : PreV s H C b Pc As)
    (hg : g.method = m) (hn : As.length = n) (hsize : g.locals.size = nL) (hstack : g.stack = As.reverse ++ .ref b :: rest) (hW : 2 * g.monitorRoom + (rest.map fun v => v.category).sum ≤ 8) (hdg : decode cc g.pc = .ok (.invokevirtual index, 3)) (hf : cells + mc ≤ R.cells ∧ slots + ms ≤ R.slots) :
    va_Run p l e R s m args below meth c H locs cells slots mc ms g rest (Qc (Value.ref b :: As).toArray) free := by
  obtain ⟨⟨hrc, hrs, hfr, hlo, hws, hcw⟩, hcode, hini, hy, hlen, hl, hin, hse⟩ := cw
  have hK : Back l R p e below s args y 3 8 (PreOf R mc ms Pc) (PostOf Qc mc ms free) := va_backW (hh := hh) (bytes := bytes) (maxL := maxL) (ret := ret) hM hp.1 hrc hrs hfr hlo hws hcw (fun a' U hW => word_at hW (Or.inl (by first | rfl | simp [Cond.onTables, Cond.keeps, Cond.steady])) hini)
  obtain ⟨hx, hb, hml, ho, -⟩ := S
  obtain ⟨-, ⟨cellB, hcB, hoB, hclB⟩, hPc⟩ := hp
  intro T hT X
  obtain ⟨v, vm₁, ⟨U', l2, c2, s2⟩, hW₁, X', ⟨g', mk, t, L, e1, e2, hq, h1, hL, h2, h3⟩, st⟩ := vx_callVW X hx (C := C) (hh := hh) (bytes := bytes) (maxL := maxL) (ret := ret) ho hl hin hse hcode hy hK (by rw [hT]; exact hcB) hoB hclB hg (hsize.trans hml.symm) (argsL := As) (rest := rest) (fun sig h => hn.trans (hlen sig h)) hstack hW (by rw [hb]; exact hdg)
    (fun vm₁ hW₁ => ⟨hf.1, hf.2, hPc (T.setVm vm₁) hT hW₁⟩)
  dsimp only [Pt.U, Pt.locs, Pt.cells, Pt.slots] at X' e1 e2 h1 h2 h3 st
  subst h1; subst h2; subst h3
  exact ⟨v, (T.setVm vm₁).calling g' mk (Value.ref b :: As).toArray, t, U', L, hT, X', hL, e1, e2, hq, st⟩
section
variable {y : MethodName} {bytes cc : ByteArray} {maxL nL mc ms n index : Nat} {ret : Option FieldType} {ws : List Cond} {rm : Room} {Pc : Array Value → State → Prop} {Qc : Array Value → State → Outcome → State → Prop} {XC : String → State → State → Prop} {free : Addr → Prop} {Ts : List Cond} {own C : String} {b : Addr} {As rest : List Value} {g : JFrame}
theorem vx_runVX {hh : List (Nat × Nat × Nat × Nat)} (S : CallFix p m c cc nL s args Ts own) (hM : vx_Met l y ws rm Pc Qc XC mc ms free) (cw : vx_CVW R s args own C index y bytes maxL ret hh ws rm mc ms n) (hp : PreV s H C b Pc As)
    (hg : g.method = m) (hn : As.length = n) (hsize : g.locals.size = nL) (hstack : g.stack = As.reverse ++ .ref b :: rest) (hW : 2 * g.monitorRoom + (rest.map fun v => v.category).sum ≤ 8) (hdg : decode cc g.pc = .ok (.invokevirtual index, 3)) (hf : cells + mc ≤ R.cells ∧ slots + ms ≤ R.slots) :
    vx_Run p l e R s m args below meth c H locs cells slots mc ms g rest (Qc (Value.ref b :: As).toArray) XC free := by
  obtain ⟨⟨hrc, hrs, hfr, hlo, hws, hcw⟩, hcode, hini, hy, hlen, hl, hin, hse⟩ := cw
  have hK : vx_Back l R p e below s args y 3 8 (PreOf R mc ms Pc) (PostOf Qc mc ms free) (vx_Post XC mc ms free) := vx_backW (hh := hh) (bytes := bytes) (maxL := maxL) (ret := ret) hM hp.1 hrc hrs hfr hlo hws hcw (fun a' U hW => word_at hW (Or.inl (by first | rfl | simp [Cond.onTables, Cond.keeps, Cond.steady])) hini)
  obtain ⟨hx, hb, hml, ho, -⟩ := S
  obtain ⟨-, ⟨cellB, hcB, hoB, hclB⟩, hPc⟩ := hp
  intro T hT X
  rcases vx_callVX X hx (C := C) (hh := hh) (bytes := bytes) (maxL := maxL) (ret := ret) ho hl hin hse hcode hy hK (by rw [hT]; exact hcB) hoB hclB hg (hsize.trans hml.symm) (argsL := As) (rest := rest) (fun sig h => hn.trans (hlen sig h)) hstack hW (by rw [hb]; exact hdg)
    (fun vm₁ hW₁ => ⟨hf.1, hf.2, hPc (T.setVm vm₁) hT hW₁⟩) with ⟨v, vm₁, ⟨U', l2, c2, s2⟩, hW₁, X', ⟨g', mk, t, L, e1, e2, hq, h1, hL, h2, h3⟩, st⟩ | ⟨q, vm₁, ⟨U', l2, c2, s2⟩, hW₁, X', ⟨g', mk, t, L, E, ce, e1, e2, hq, hce, hcv, hcl, h1, hL, h2, h3⟩, st⟩
  · dsimp only [Pt.U, Pt.locs, Pt.cells, Pt.slots] at X' e1 e2 h1 h2 h3 st
    subst h1; subst h2; subst h3
    exact Or.inl ⟨v, (T.setVm vm₁).calling g' mk (Value.ref b :: As).toArray, t, U', L, hT, X', hL, e1, e2, hq, st⟩
  · dsimp only [Pt.U, Pt.locs, Pt.cells, Pt.slots] at X' e1 e2 h1 h2 h3 st hcl
    subst h1; subst h2; subst h3
    exact Or.inr ⟨q, (T.setVm vm₁).calling g' mk (Value.ref b :: As).toArray, t, U', L, E, ce, hT, X', hL, e1, e2, hq, hce, hcv, vx_cls hW₁ hcl, st⟩
theorem vx_runSX {hh : List (Nat × Nat × Nat × Nat)} (S : CallFix p m c cc nL s args Ts own) (hM : vx_Met l y ws rm Pc Qc XC mc ms free) (cw : vx_CSW R s args own index y bytes maxL ret hh ws rm mc ms n) (hp : PreS s H Pc As)
    (hg : g.method = m) (hn : As.length = n) (hsize : g.locals.size = nL) (hstack : g.stack = As.reverse ++ rest) (hW : 2 * g.monitorRoom + (rest.map fun v => v.category).sum ≤ 8) (hdg : decode cc g.pc = .ok (.invokestatic index, 3)) (hf : cells + mc ≤ R.cells ∧ slots + ms ≤ R.slots) :
    vx_Run p l e R s m args below meth c H locs cells slots mc ms g rest (Qc As.toArray) XC free := by
  obtain ⟨⟨hrc, hrs, hfr, hlo, hws, hcw⟩, hcode, hini, hy, hlen, hl, hstt⟩ := cw
  have hK : vx_Back l R p e below s args y 3 8 (PreOf R mc ms Pc) (PostOf Qc mc ms free) (vx_Post XC mc ms free) := vx_backW (hh := hh) (bytes := bytes) (maxL := maxL) (ret := ret) hM hp.1 hrc hrs hfr hlo hws hcw (fun a' U hW => word_at hW (Or.inl (by first | rfl | simp [Cond.onTables, Cond.keeps, Cond.steady])) hini)
  obtain ⟨hx, hb, hml, ho, -⟩ := S
  intro T hT X
  rcases vx_callSX X hx (hh := hh) (bytes := bytes) (maxL := maxL) (ret := ret) ho hl hstt hini hcode hy hK hg (hsize.trans hml.symm) (argsL := As) (rest := rest) (fun sig h => hn.trans (hlen sig h)) hstack hW (by rw [hb]; exact hdg)
    (fun vm₁ hW₁ => ⟨hf.1, hf.2, hp.2 (T.setVm vm₁) hT hW₁⟩) with ⟨v, vm₁, ⟨U', l2, c2, s2⟩, hW₁, X', ⟨g', mk, t, L, e1, e2, hq, h1, hL, h2, h3⟩, st⟩ | ⟨q, vm₁, ⟨U', l2, c2, s2⟩, hW₁, X', ⟨g', mk, t, L, E, ce, e1, e2, hq, hce, hcv, hcl, h1, hL, h2, h3⟩, st⟩
  · dsimp only [Pt.U, Pt.locs, Pt.cells, Pt.slots] at X' e1 e2 h1 h2 h3 st
    subst h1; subst h2; subst h3
    exact Or.inl ⟨v, (T.setVm vm₁).calling g' mk As.toArray, t, U', L, hT, X', hL, e1, e2, hq, st⟩
  · dsimp only [Pt.U, Pt.locs, Pt.cells, Pt.slots] at X' e1 e2 h1 h2 h3 st hcl
    subst h1; subst h2; subst h3
    exact Or.inr ⟨q, (T.setVm vm₁).calling g' mk As.toArray, t, U', L, E, ce, hT, X', hL, e1, e2, hq, hce, hcv, vx_cls hW₁ hcl, st⟩
end
end VXH
theorem vx_ofWH {l : Launch} {y : MethodName} {ws ws' : List Cond} {rm : Room} {Pc : Array Value → State → Prop} {Qc : Array Value → State → Outcome → State → Prop} {XC : String → State → State → Prop} {mc ms : Nat} {free : Addr → Prop} {cc : ByteArray} {maxL : Nat} {ret : Option FieldType} {hh : List (Nat × Nat × Nat × Nat)}
    (hy : plainName y.cls = true) (hw : ws = Cond.codeWith y cc maxL ret hh :: ws')
    (body : ∀ p e s m args below meth c s₁, BodyLoose p l y (headSpec ws rm) cc maxL ret e s m args below meth c s₁ → c.maxLocals = maxL → Pc args s →
      W p l e (headSpec ws rm).room s m args below meth c s.heap [] 0 0 (vx_MQ below Qc XC args s mc ms free) (entryFrame m args maxL)) : vx_Met l y ws rm Pc Qc XC mc ms free := by
  refine MetFree.of_bodyS (code := cc) (maxLocals := maxL) (ret := ret) hy ?_ ?_
  · intro args s m h hn
    obtain ⟨m9, meth, c, hn9, h1, h2, h3, h4, -, h5, h6, -⟩ := Cond.codeWith_spec (atoms_spec (ws := ws) h _ (by rw [hw]; exact List.mem_cons_self))
    cases hn.symm.trans hn9
    exact ⟨meth, c, h1, h2, h3, h4, h5, h6⟩
  · intro p e s m args below meth c s₁ B hml hP _
    have hh0 : s₁.heap = s.heap := by rw [B.state]; rfl
    obtain ⟨t, a1, o, b1, b2, b3⟩ := body p e s m args below meth c s₁ B hml hP s₁ hh0 (Stand.of_body B)
    exact ⟨t, o, a1, b1, b2, b3⟩
/-! ===== END ===== -/
/-! ===== BEGIN a constructor that throws (launches without stack traces) ===== -/
section VXIA
variable {p : Program} {l : Launch} {e : Env} {R : Room} {s : State} {m : MethodId} {args : Array Value} {below : List Frame} {meth : Method} {c : Code} {T : State} {locs : List Loc} {cells slots : Nat}
theorem vx_callI (X : Stand p l e R s m args below meth c T locs cells slots) (hexec : p.tables.exec = Jvm.exec) {own : String} {index : Nat} {y : MethodName} {bytes : ByteArray} {maxL : Nat}
    (hown : s.vm.findClass own = some m.cls) (hy1 : y.name = "<init>") (hlink : (Cond.methodLink own index y).before args s = true) (hinst : (Cond.instanceMethod y).before args s = true)
    (hcode : (Cond.code y bytes maxL none).before args s = true) (hy : y.cls ≠ "java/lang/invoke/MethodHandle" ∧ y.cls ≠ "java/lang/invoke/VarHandle")
    {W9 : Nat} {Pre : Pt → Array Value → Prop} {Post : Pt → Array Value → Option Value → Pt → Prop} {PostX : Pt → Array Value → Addr → Pt → Prop} (hK : vx_Back l R p e below s args y 3 W9 Pre Post PostX)
    {g : JFrame} (hg : g.method = m) (hsize : g.locals.size = c.maxLocals) {a : Addr} {argsL rest : List Value} (hlen : ∀ sig, parseMethodDescriptor y.desc = some sig → argsL.length = sig.parameters.length)
    (hstack : g.stack = argsL.reverse ++ .ref a :: rest) (hW : 2 * g.monitorRoom + (rest.map fun v => v.category).sum ≤ W9) (hdg : decode c.code g.pc = .ok (.invokespecial index, 3))
    (hpre : ∀ vm₁, s.WarmedH vm₁ → Pre ⟨T.setVm vm₁, locs, cells, slots⟩ (Value.ref a :: argsL).toArray) :
    (∃ (v : Option Value) (vm₁ : Vm) (B : Pt), s.WarmedH vm₁ ∧ Stand p l e R s m args below meth c B.U B.locs B.cells B.slots ∧ Post ⟨T.setVm vm₁, locs, cells, slots⟩ (Value.ref a :: argsL).toArray v B ∧
      ∀ target, Steps p.tables e below (B.U.setTop { g with pc := g.pc + 3, stack := v.toList ++ rest }) target → Steps p.tables e below (T.setTop g) target) ∨
    (∃ (q : Addr) (vm₁ : Vm) (B : Pt), s.WarmedH vm₁ ∧ Stand p l e R s m args below meth c B.U B.locs B.cells B.slots ∧ PostX ⟨T.setVm vm₁, locs, cells, slots⟩ (Value.ref a :: argsL).toArray q B ∧
      Steps p.tables e below (T.setTop g) ((B.U.setTop { g with stack := rest }).pushFrame (.throwing q))) := by
  subst hg
  have hpl : e.platform.magicAccessors = ({} : Platform).magicAccessors := by rw [X.admits.platform]
  obtain ⟨mk, methM, cM, kP, vm₁, hnamed, hmethM, hcodeM, -, hlocalsM, -, hkP, -, hW₁, hstep₁⟩ := Steps.initColdArgs (e := e) X.here hexec X.warmed hpl hown hy1 hy hlink hinst hcode (f := g) rfl hlen hstack hdg
  have X₁ := X.noted hW₁
  rcases hK g.method meth c ⟨T.setVm vm₁, locs, cells, slots⟩ { g with stack := rest } (.invokespecial index) mk (Value.ref a :: argsL).toArray X₁ rfl hsize hdg hW (X₁.named hnamed) (hpre vm₁ X₁.warmed) with ⟨v, B, X', hpost, hsteps⟩ | ⟨q, B, X', hpost, hsteps⟩
  · exact Or.inl ⟨v, vm₁, B, X₁.warmed, X', hpost, fun target h => hstep₁ _ fun acts => by rw [doInvoke_state]; exact hsteps.trans h⟩
  · exact Or.inr ⟨q, vm₁, B, X₁.warmed, X', hpost, hstep₁ _ fun acts => by rw [doInvoke_state]; exact hsteps⟩
end VXIA
section VXIB
variable {p : Program} {l : Launch} {e : Env} {R : Room} {s : State} {m : MethodId} {args : Array Value} {below : List Frame} {meth : Method} {c : Code} {H : Heap} {locs : List Loc} {cells slots : Nat}
variable {y : MethodName} {bytes cc : ByteArray} {maxL nL mc ms n index : Nat} {ret : Option FieldType} {ws : List Cond} {rm : Room} {Pc : Array Value → State → Prop} {Qc : Array Value → State → Outcome → State → Prop} {XC : String → State → State → Prop} {free : Addr → Prop} {Ts : List Cond} {own C : String} {b : Addr} {As rest : List Value} {g : JFrame}
theorem vx_runI (S : CallFix p m c cc nL s args Ts own) (hM : vx_Met l y ws rm Pc Qc XC mc ms free) (cw : CallB R s args own index y bytes maxL none ws rm mc ms n ∧ y.name = "<init>" ∧ (Cond.instanceMethod y).before args s = true) (hp : PreS s H Pc (.ref b :: As))
    (hg : g.method = m) (hn : As.length = n) (hsize : g.locals.size = nL) (hstack : g.stack = As.reverse ++ .ref b :: rest) (hW : 2 * g.monitorRoom + (rest.map fun v => v.category).sum ≤ 8) (hdg : decode cc g.pc = .ok (.invokespecial index, 3)) (hf : cells + mc ≤ R.cells ∧ slots + ms ≤ R.slots) :
    vx_Run p l e R s m args below meth c H locs cells slots mc ms g rest (Qc (Value.ref b :: As).toArray) XC free := by
  have hK : vx_Back l R p e below s args y 3 8 (PreOf R mc ms Pc) (PostOf Qc mc ms free) (vx_Post XC mc ms free) := vx_callBack cw.1 hM hp.1
  obtain ⟨⟨-, -, -, -, -, -, hcode, -, hy, hlen, hl⟩, hy1, hin⟩ := cw
  obtain ⟨hx, hb, hml, ho, -⟩ := S
  have hPc := hp.2
  intro T hT X
  rcases vx_callI X hx (bytes := bytes) (maxL := maxL) ho hy1 hl hin hcode hy hK hg (hsize.trans hml.symm) (a := b) (argsL := As) (rest := rest) (fun sig h => hn.trans (hlen sig h)) hstack hW (by rw [hb]; exact hdg)
    (fun vm₁ hW₁ => ⟨hf.1, hf.2, hPc (T.setVm vm₁) hT hW₁⟩) with ⟨v, vm₁, ⟨U', l2, c2, s2⟩, hW₁, X', ⟨g', mk, t, L, e1, e2, hq, h1, hL, h2, h3⟩, st⟩ | ⟨q, vm₁, ⟨U', l2, c2, s2⟩, hW₁, X', ⟨g', mk, t, L, E, ce, e1, e2, hq, hce, hcv, hcl, h1, hL, h2, h3⟩, st⟩
  · dsimp only [Pt.U, Pt.locs, Pt.cells, Pt.slots] at X' e1 e2 h1 h2 h3 st
    subst h1; subst h2; subst h3
    exact Or.inl ⟨v, (T.setVm vm₁).calling g' mk (Value.ref b :: As).toArray, t, U', L, hT, X', hL, e1, e2, hq, st⟩
  · dsimp only [Pt.U, Pt.locs, Pt.cells, Pt.slots] at X' e1 e2 h1 h2 h3 st hcl
    subst h1; subst h2; subst h3
    exact Or.inr ⟨q, (T.setVm vm₁).calling g' mk (Value.ref b :: As).toArray, t, U', L, E, ce, hT, X', hL, e1, e2, hq, hce, hcv, vx_cls hW₁ hcl, st⟩
end VXIB
/-! ===== END ===== -/
/-! ===== BEGIN a private constructor of a nest mate that throws ===== -/
section VXIC
variable {p : Program} {l : Launch} {e : Env} {R : Room} {s : State} {m : MethodId} {args : Array Value} {below : List Frame} {meth : Method} {c : Code} {T : State} {locs : List Loc} {cells slots : Nat}
theorem vx_callIN (X : Stand p l e R s m args below meth c T locs cells slots) (hexec : p.tables.exec = Jvm.exec) {own : String} {index : Nat} {host : String} {y : MethodName} {bytes : ByteArray} {maxL : Nat}
    (hown : s.vm.findClass own = some m.cls) (hy1 : y.name = "<init>") (hlink : (Cond.methodLinkNest own index y host).before args s = true) (hinst : (Cond.instanceMethod y).before args s = true)
    (hcode : (Cond.code y bytes maxL none).before args s = true) (hy : y.cls ≠ "java/lang/invoke/MethodHandle" ∧ y.cls ≠ "java/lang/invoke/VarHandle")
    {W9 : Nat} {Pre : Pt → Array Value → Prop} {Post : Pt → Array Value → Option Value → Pt → Prop} {PostX : Pt → Array Value → Addr → Pt → Prop} (hK : vx_Back l R p e below s args y 3 W9 Pre Post PostX)
    {g : JFrame} (hg : g.method = m) (hsize : g.locals.size = c.maxLocals) {a : Addr} {argsL rest : List Value} (hlen : ∀ sig, parseMethodDescriptor y.desc = some sig → argsL.length = sig.parameters.length)
    (hstack : g.stack = argsL.reverse ++ .ref a :: rest) (hW : 2 * g.monitorRoom + (rest.map fun v => v.category).sum ≤ W9) (hdg : decode c.code g.pc = .ok (.invokespecial index, 3))
    (hpre : ∀ vm₁, s.WarmedH vm₁ → Pre ⟨T.setVm vm₁, locs, cells, slots⟩ (Value.ref a :: argsL).toArray) :
    (∃ (v : Option Value) (vm₁ : Vm) (B : Pt), s.WarmedH vm₁ ∧ Stand p l e R s m args below meth c B.U B.locs B.cells B.slots ∧ Post ⟨T.setVm vm₁, locs, cells, slots⟩ (Value.ref a :: argsL).toArray v B ∧
      ∀ target, Steps p.tables e below (B.U.setTop { g with pc := g.pc + 3, stack := v.toList ++ rest }) target → Steps p.tables e below (T.setTop g) target) ∨
    (∃ (q : Addr) (vm₁ : Vm) (B : Pt), s.WarmedH vm₁ ∧ Stand p l e R s m args below meth c B.U B.locs B.cells B.slots ∧ PostX ⟨T.setVm vm₁, locs, cells, slots⟩ (Value.ref a :: argsL).toArray q B ∧
      Steps p.tables e below (T.setTop g) ((B.U.setTop { g with stack := rest }).pushFrame (.throwing q))) := by
  subst hg
  have hpl : e.platform.magicAccessors = ({} : Platform).magicAccessors := by rw [X.admits.platform]
  obtain ⟨mk, methM, cM, kP, vm₁, hnamed, hmethM, hcodeM, -, hlocalsM, -, hkP, -, hW₁, hstep₁⟩ := Steps.initColdArgsNest (e := e) X.here hexec X.warmed hpl hown hy1 hy hlink hinst hcode (f := g) rfl hlen hstack hdg
  have X₁ := X.noted hW₁
  rcases hK g.method meth c ⟨T.setVm vm₁, locs, cells, slots⟩ { g with stack := rest } (.invokespecial index) mk (Value.ref a :: argsL).toArray X₁ rfl hsize hdg hW (X₁.named hnamed) (hpre vm₁ X₁.warmed) with ⟨v, B, X', hpost, hsteps⟩ | ⟨q, B, X', hpost, hsteps⟩
  · exact Or.inl ⟨v, vm₁, B, X₁.warmed, X', hpost, fun target h => hstep₁ _ fun acts => by rw [doInvoke_state]; exact hsteps.trans h⟩
  · exact Or.inr ⟨q, vm₁, B, X₁.warmed, X', hpost, hstep₁ _ fun acts => by rw [doInvoke_state]; exact hsteps⟩
end VXIC
section VXID
variable {p : Program} {l : Launch} {e : Env} {R : Room} {s : State} {m : MethodId} {args : Array Value} {below : List Frame} {meth : Method} {c : Code} {H : Heap} {locs : List Loc} {cells slots : Nat}
theorem vx_runIN {y : MethodName} {bytes cc : ByteArray} {maxL nL mc ms n index : Nat} {ws : List Cond} {rm : Room} {Pc : Array Value → State → Prop} {Qc : Array Value → State → Outcome → State → Prop} {XC : String → State → State → Prop} {free : Addr → Prop} {Ts : List Cond} {own host : String} {b : Addr} {As rest : List Value} {g : JFrame}
    (S : CallFix p m c cc nL s args Ts own) (hM : vx_Met l y ws rm Pc Qc XC mc ms free) (cw : va_CN R s args own index y host bytes maxL none ws rm mc ms n ∧ y.name = "<init>" ∧ (Cond.instanceMethod y).before args s = true) (hp : PreS s H Pc (.ref b :: As))
    (hg : g.method = m) (hn : As.length = n) (hsize : g.locals.size = nL) (hstack : g.stack = As.reverse ++ .ref b :: rest) (hW : 2 * g.monitorRoom + (rest.map fun v => v.category).sum ≤ 8) (hdg : decode cc g.pc = .ok (.invokespecial index, 3)) (hf : cells + mc ≤ R.cells ∧ slots + ms ≤ R.slots) :
    vx_Run p l e R s m args below meth c H locs cells slots mc ms g rest (Qc (Value.ref b :: As).toArray) XC free := by
  obtain ⟨⟨⟨hrc, hrs, hfr, hlo, hws, hcw⟩, hcode, hini, hy, hlen, hl⟩, hx1, hx2⟩ := cw
  have hK : vx_Back l R p e below s args y 3 8 (PreOf R mc ms Pc) (PostOf Qc mc ms free) (vx_Post XC mc ms free) := vx_back (bytes := bytes) (maxL := maxL) (ret := none) hM hp.1 hrc hrs hfr hlo hws hcw (fun a' U hW => word_at hW (Or.inl (by first | rfl | simp [Cond.onTables, Cond.keeps, Cond.steady])) hini)
  obtain ⟨hx, hb, hml, ho, -⟩ := S
  have hPc := hp.2
  intro T hT X
  rcases vx_callIN X hx (bytes := bytes) (maxL := maxL) ho hx1 hl hx2 hcode hy hK hg (hsize.trans hml.symm) (a := b) (argsL := As) (rest := rest) (fun sig h => hn.trans (hlen sig h)) hstack hW (by rw [hb]; exact hdg)
    (fun vm₁ hW₁ => ⟨hf.1, hf.2, hPc (T.setVm vm₁) hT hW₁⟩) with ⟨v, vm₁, ⟨U', l2, c2, s2⟩, hW₁, X', ⟨g', mk, t, L, e1, e2, hq, h1, hL, h2, h3⟩, st⟩ | ⟨q, vm₁, ⟨U', l2, c2, s2⟩, hW₁, X', ⟨g', mk, t, L, E, ce, e1, e2, hq, hce, hcv, hcl, h1, hL, h2, h3⟩, st⟩
  · dsimp only [Pt.U, Pt.locs, Pt.cells, Pt.slots] at X' e1 e2 h1 h2 h3 st
    subst h1; subst h2; subst h3
    exact Or.inl ⟨v, (T.setVm vm₁).calling g' mk (Value.ref b :: As).toArray, t, U', L, hT, X', hL, e1, e2, hq, st⟩
  · dsimp only [Pt.U, Pt.locs, Pt.cells, Pt.slots] at X' e1 e2 h1 h2 h3 st hcl
    subst h1; subst h2; subst h3
    exact Or.inr ⟨q, (T.setVm vm₁).calling g' mk (Value.ref b :: As).toArray, t, U', L, E, ce, hT, X', hL, e1, e2, hq, hce, hcv, vx_cls hW₁ hcl, st⟩
end VXID
/-! ===== END ===== -/
/-! ===== BEGIN a private method of a nest mate that may throw (follows va_callVN, va_callSN, va_runVN, va_runSN) ===== -/
section
variable {p : Program} {l : Launch} {e : Env} {R : Room} {s : State} {m : MethodId} {args : Array Value} {below : List Frame} {meth : Method} {c : Code} {H : Heap} {locs : List Loc} {cells slots : Nat}
variable {T : State}
theorem vx_callVN (X : Stand p l e R s m args below meth c T locs cells slots) (hexec : p.tables.exec = Jvm.exec) {own C : String} {index : Nat} {host : String} {y : MethodName} {bytes : ByteArray} {maxL : Nat} {ret : Option FieldType}
    (hown : s.vm.findClass own = some m.cls) (hlink : (Cond.methodLinkNest own index y host).before args s = true) (hinst : (Cond.instanceMethod y).before args s = true) (hsel : (Cond.selects C y y).before args s = true)
    (hcode : (Cond.code y bytes maxL ret).before args s = true) (hy : y.cls ≠ "java/lang/invoke/MethodHandle" ∧ y.cls ≠ "java/lang/invoke/VarHandle")
    {W : Nat} {Pre : Pt → Array Value → Prop} {Post : Pt → Array Value → Option Value → Pt → Prop} {PostX : Pt → Array Value → Addr → Pt → Prop} (hK : vx_Back l R p e below s args y 3 W Pre Post PostX)
    {b : Addr} {cellB : Cell} (hcell : T.heap[b]? = some cellB) (hobj : cellB.vm.isStatics = false) (hcls : s.vm.findClass C = some cellB.cls)
    {g : JFrame} (hg : g.method = m) (hsize : g.locals.size = c.maxLocals) {argsL rest : List Value} (hlen : ∀ sig, parseMethodDescriptor y.desc = some sig → argsL.length = sig.parameters.length)
    (hstack : g.stack = argsL.reverse ++ .ref b :: rest) (hW : 2 * g.monitorRoom + (rest.map fun v => v.category).sum ≤ W) (hdg : decode c.code g.pc = .ok (.invokevirtual index, 3))
    (hpre : ∀ vm₁, s.WarmedH vm₁ → Pre ⟨T.setVm vm₁, locs, cells, slots⟩ (Value.ref b :: argsL).toArray) :
    (∃ (v : Option Value) (vm₁ : Vm) (B : Pt), s.WarmedH vm₁ ∧ Stand p l e R s m args below meth c B.U B.locs B.cells B.slots ∧ Post ⟨T.setVm vm₁, locs, cells, slots⟩ (Value.ref b :: argsL).toArray v B ∧
      ∀ target, Steps p.tables e below (B.U.setTop { g with pc := g.pc + 3, stack := v.toList ++ rest }) target → Steps p.tables e below (T.setTop g) target) ∨
    (∃ (q : Addr) (vm₁ : Vm) (B : Pt), s.WarmedH vm₁ ∧ Stand p l e R s m args below meth c B.U B.locs B.cells B.slots ∧ PostX ⟨T.setVm vm₁, locs, cells, slots⟩ (Value.ref b :: argsL).toArray q B ∧
      Steps p.tables e below (T.setTop g) ((B.U.setTop { g with stack := rest }).pushFrame (.throwing q))) := by
  obtain ⟨mk, methM, hnamed, hmethM, hstM, habM⟩ := Cond.instanceMethod_spec hinst
  obtain ⟨methM', cM, hmethM', -, -, -, -, -, -, hsigM⟩ := Cond.code_spec hnamed hcode
  cases hmethM.symm.trans hmethM'
  obtain ⟨c2, r2, m2, q1, q2, q3, q4, kP, hkP, hkPi⟩ := Cond.selects_spec hsel
  cases hcls.symm.trans q1
  cases (State.methodFound?_of_named hnamed hy).symm.trans q2
  cases hnamed.symm.trans q3
  have hselP : selectMethod e.platform s.vm cellB.cls mk = .method mk := by rw [Launch.admits_selectMethod X.admits]; exact q4
  obtain ⟨vm₁, X₁, hstep₁⟩ := X.invokevirtualNest hexec hown hlink hnamed hmethM hstM hkP hkPi hy (a := b) (cell := cellB) hcell
    (fun z h => by rw [h] at hobj; cases hobj) hselP hmethM habM hkP hkPi (g := g) hg (argsL := argsL) (rest := rest) (hlen _ hsigM) hstack hdg
  rcases hK m meth c ⟨T.setVm vm₁, locs, cells, slots⟩ { g with stack := rest } (.invokevirtual index) mk (Value.ref b :: argsL).toArray X₁ hg hsize hdg hW (X₁.named hnamed) (hpre vm₁ X₁.warmed) with ⟨v, B, X', hpost, hsteps⟩ | ⟨q, B, X', hpost, hsteps⟩
  · exact Or.inl ⟨v, vm₁, B, X₁.warmed, X', hpost, fun target h => hstep₁ _ fun acts => by rw [doInvoke_state]; exact hsteps.trans h⟩
  · exact Or.inr ⟨q, vm₁, B, X₁.warmed, X', hpost, hstep₁ _ fun acts => by rw [doInvoke_state]; exact hsteps⟩
theorem vx_callSN (X : Stand p l e R s m args below meth c T locs cells slots) (hexec : p.tables.exec = Jvm.exec) {own : String} {index : Nat} {host : String} {y : MethodName} {bytes : ByteArray} {maxL : Nat} {ret : Option FieldType}
    (hown : s.vm.findClass own = some m.cls) (hlink : (Cond.methodLinkNest own index y host).before args s = true) (hstat : (Cond.static y).before args s = true) (hinit : (Cond.initialized y.cls).before args s = true)
    (hcode : (Cond.code y bytes maxL ret).before args s = true) (hy : y.cls ≠ "java/lang/invoke/MethodHandle" ∧ y.cls ≠ "java/lang/invoke/VarHandle")
    {W : Nat} {Pre : Pt → Array Value → Prop} {Post : Pt → Array Value → Option Value → Pt → Prop} {PostX : Pt → Array Value → Addr → Pt → Prop} (hK : vx_Back l R p e below s args y 3 W Pre Post PostX)
    {g : JFrame} (hg : g.method = m) (hsize : g.locals.size = c.maxLocals) {argsL rest : List Value} (hlen : ∀ sig, parseMethodDescriptor y.desc = some sig → argsL.length = sig.parameters.length)
    (hstack : g.stack = argsL.reverse ++ rest) (hW : 2 * g.monitorRoom + (rest.map fun v => v.category).sum ≤ W) (hdg : decode c.code g.pc = .ok (.invokestatic index, 3))
    (hpre : ∀ vm₁, s.WarmedH vm₁ → Pre ⟨T.setVm vm₁, locs, cells, slots⟩ argsL.toArray) :
    (∃ (v : Option Value) (vm₁ : Vm) (B : Pt), s.WarmedH vm₁ ∧ Stand p l e R s m args below meth c B.U B.locs B.cells B.slots ∧ Post ⟨T.setVm vm₁, locs, cells, slots⟩ argsL.toArray v B ∧
      ∀ target, Steps p.tables e below (B.U.setTop { g with pc := g.pc + 3, stack := v.toList ++ rest }) target → Steps p.tables e below (T.setTop g) target) ∨
    (∃ (q : Addr) (vm₁ : Vm) (B : Pt), s.WarmedH vm₁ ∧ Stand p l e R s m args below meth c B.U B.locs B.cells B.slots ∧ PostX ⟨T.setVm vm₁, locs, cells, slots⟩ argsL.toArray q B ∧
      Steps p.tables e below (T.setTop g) ((B.U.setTop { g with stack := rest }).pushFrame (.throwing q))) := by
  obtain ⟨mk, hnamed⟩ := Cond.code_named hcode
  obtain ⟨methM, cM, hmethM, -, -, -, -, -, -, hsigM⟩ := Cond.code_spec hnamed hcode
  have hstatic : methM.isStatic = true := Cond.static_spec hnamed hmethM hstat
  obtain ⟨kP, hkP, -⟩ := className_of_methodNamed hnamed
  have hinitP : kP.init = .initialized := Cond.initialized_spec (findClass_of_methodNamed hnamed) hkP hinit
  obtain ⟨vm₁, X₁, hstep₁⟩ := X.invokestaticNest hexec hown hlink hnamed hmethM hstatic hkP hinitP hy (g := g) hg (argsL := argsL) (rest := rest) (hlen _ hsigM) hstack hdg
  rcases hK m meth c ⟨T.setVm vm₁, locs, cells, slots⟩ { g with stack := rest } (.invokestatic index) mk argsL.toArray X₁ hg hsize hdg hW (X₁.named hnamed) (hpre vm₁ X₁.warmed) with ⟨v, B, X', hpost, hsteps⟩ | ⟨q, B, X', hpost, hsteps⟩
  · exact Or.inl ⟨v, vm₁, B, X₁.warmed, X', hpost, fun target h => hstep₁ _ fun acts => by rw [doInvoke_state]; exact hsteps.trans h⟩
  · exact Or.inr ⟨q, vm₁, B, X₁.warmed, X', hpost, hstep₁ _ fun acts => by rw [doInvoke_state]; exact hsteps⟩
theorem vx_runVN {y : MethodName} {bytes cc : ByteArray} {maxL nL mc ms n index : Nat} {ret : Option FieldType} {ws : List Cond} {rm : Room} {Pc : Array Value → State → Prop} {Qc : Array Value → State → Outcome → State → Prop} {XC : String → State → State → Prop} {free : Addr → Prop} {Ts : List Cond} {own C host : String} {b : Addr} {As rest : List Value} {g : JFrame}
    (S : CallFix p m c cc nL s args Ts own) (hM : vx_Met l y ws rm Pc Qc XC mc ms free) (cw : va_CN R s args own index y host bytes maxL ret ws rm mc ms n ∧ (Cond.instanceMethod y).before args s = true ∧ (Cond.selects C y y).before args s = true) (hp : PreV s H C b Pc As)
    (hg : g.method = m) (hn : As.length = n) (hsize : g.locals.size = nL) (hstack : g.stack = As.reverse ++ .ref b :: rest) (hW : 2 * g.monitorRoom + (rest.map fun v => v.category).sum ≤ 8) (hdg : decode cc g.pc = .ok (.invokevirtual index, 3)) (hf : cells + mc ≤ R.cells ∧ slots + ms ≤ R.slots) :
    vx_Run p l e R s m args below meth c H locs cells slots mc ms g rest (Qc (Value.ref b :: As).toArray) XC free := by
  obtain ⟨⟨⟨hrc, hrs, hfr, hlo, hws, hcw⟩, hcode, hini, hy, hlen, hl⟩, hx1, hx2⟩ := cw
  have hK : vx_Back l R p e below s args y 3 8 (PreOf R mc ms Pc) (PostOf Qc mc ms free) (vx_Post XC mc ms free) := vx_back (bytes := bytes) (maxL := maxL) (ret := ret) hM hp.1 hrc hrs hfr hlo hws hcw (fun a' U hW => word_at hW (Or.inl (by first | rfl | simp [Cond.onTables, Cond.keeps, Cond.steady])) hini)
  obtain ⟨hx, hb, hml, ho, -⟩ := S
  obtain ⟨-, ⟨cellB, hcB, hoB, hclB⟩, hPc⟩ := hp
  intro T hT X
  rcases vx_callVN X hx (C := C) (bytes := bytes) (maxL := maxL) (ret := ret) ho hl hx1 hx2 hcode hy hK (by rw [hT]; exact hcB) hoB hclB hg (hsize.trans hml.symm) (argsL := As) (rest := rest) (fun sig h => hn.trans (hlen sig h)) hstack hW (by rw [hb]; exact hdg)
    (fun vm₁ hW₁ => ⟨hf.1, hf.2, hPc (T.setVm vm₁) hT hW₁⟩) with ⟨v, vm₁, ⟨U', l2, c2, s2⟩, hW₁, X', ⟨g', mk, t, L, e1, e2, hq, h1, hL, h2, h3⟩, st⟩ | ⟨q, vm₁, ⟨U', l2, c2, s2⟩, hW₁, X', ⟨g', mk, t, L, E, ce, e1, e2, hq, hce, hcv, hcl, h1, hL, h2, h3⟩, st⟩
  · dsimp only [Pt.U, Pt.locs, Pt.cells, Pt.slots] at X' e1 e2 h1 h2 h3 st
    subst h1; subst h2; subst h3
    exact Or.inl ⟨v, (T.setVm vm₁).calling g' mk (Value.ref b :: As).toArray, t, U', L, hT, X', hL, e1, e2, hq, st⟩
  · dsimp only [Pt.U, Pt.locs, Pt.cells, Pt.slots] at X' e1 e2 h1 h2 h3 st hcl
    subst h1; subst h2; subst h3
    exact Or.inr ⟨q, (T.setVm vm₁).calling g' mk (Value.ref b :: As).toArray, t, U', L, E, ce, hT, X', hL, e1, e2, hq, hce, hcv, vx_cls hW₁ hcl, st⟩
theorem vx_runSN {y : MethodName} {bytes cc : ByteArray} {maxL nL mc ms n index : Nat} {ret : Option FieldType} {ws : List Cond} {rm : Room} {Pc : Array Value → State → Prop} {Qc : Array Value → State → Outcome → State → Prop} {XC : String → State → State → Prop} {free : Addr → Prop} {Ts : List Cond} {own host : String} {As rest : List Value} {g : JFrame}
    (S : CallFix p m c cc nL s args Ts own) (hM : vx_Met l y ws rm Pc Qc XC mc ms free) (cw : va_CN R s args own index y host bytes maxL ret ws rm mc ms n ∧ (Cond.static y).before args s = true ∧ True) (hp : PreS s H Pc As)
    (hg : g.method = m) (hn : As.length = n) (hsize : g.locals.size = nL) (hstack : g.stack = As.reverse ++ rest) (hW : 2 * g.monitorRoom + (rest.map fun v => v.category).sum ≤ 8) (hdg : decode cc g.pc = .ok (.invokestatic index, 3)) (hf : cells + mc ≤ R.cells ∧ slots + ms ≤ R.slots) :
    vx_Run p l e R s m args below meth c H locs cells slots mc ms g rest (Qc As.toArray) XC free := by
  obtain ⟨⟨⟨hrc, hrs, hfr, hlo, hws, hcw⟩, hcode, hini, hy, hlen, hl⟩, hx1, hx2⟩ := cw
  have hK : vx_Back l R p e below s args y 3 8 (PreOf R mc ms Pc) (PostOf Qc mc ms free) (vx_Post XC mc ms free) := vx_back (bytes := bytes) (maxL := maxL) (ret := ret) hM hp.1 hrc hrs hfr hlo hws hcw (fun a' U hW => word_at hW (Or.inl (by first | rfl | simp [Cond.onTables, Cond.keeps, Cond.steady])) hini)
  obtain ⟨hx, hb, hml, ho, -⟩ := S
  have hPc := hp.2
  intro T hT X
  rcases vx_callSN X hx (bytes := bytes) (maxL := maxL) (ret := ret) ho hl hx1 hini hcode hy hK hg (hsize.trans hml.symm) (argsL := As) (rest := rest) (fun sig h => hn.trans (hlen sig h)) hstack hW (by rw [hb]; exact hdg)
    (fun vm₁ hW₁ => ⟨hf.1, hf.2, hPc (T.setVm vm₁) hT hW₁⟩) with ⟨v, vm₁, ⟨U', l2, c2, s2⟩, hW₁, X', ⟨g', mk, t, L, e1, e2, hq, h1, hL, h2, h3⟩, st⟩ | ⟨q, vm₁, ⟨U', l2, c2, s2⟩, hW₁, X', ⟨g', mk, t, L, E, ce, e1, e2, hq, hce, hcv, hcl, h1, hL, h2, h3⟩, st⟩
  · dsimp only [Pt.U, Pt.locs, Pt.cells, Pt.slots] at X' e1 e2 h1 h2 h3 st
    subst h1; subst h2; subst h3
    exact Or.inl ⟨v, (T.setVm vm₁).calling g' mk As.toArray, t, U', L, hT, X', hL, e1, e2, hq, st⟩
  · dsimp only [Pt.U, Pt.locs, Pt.cells, Pt.slots] at X' e1 e2 h1 h2 h3 st hcl
    subst h1; subst h2; subst h3
    exact Or.inr ⟨q, (T.setVm vm₁).calling g' mk As.toArray, t, U', L, E, ce, hT, X', hL, e1, e2, hq, hce, hcv, vx_cls hW₁ hcl, st⟩
end
/-! ===== END ===== -/
end
section
/-! ===== an abstract machine: one frame over numbered cells; calls by a function of smaller depth ===== -/
abbrev aC : Type := (FieldType × vp_A) ⊕ (Nat × List Value)
abbrev aHf : Type := Nat → Option aC
/-- cells by their addresses; how long the heap is; how many slots were made; two objects that statics hold (the steps; the library's access to memory) -/
abbrev aH : Type := aHf × Nat × Nat × Nat × Nat
abbrev aLs : Type := List (Option Value)
abbrev aO : Type := (Option Value) ⊕ String
abbrev aR : Type := Option (aO × aH)
abbrev aQ : Type := Nat × aLs × List Value × aH
def aup (h : aHf) (a : Nat) (c : aC) : aHf := fun q => if q = a then some c else h q
def aI (ty : FieldType) (N : Nat) (f : Nat → Int32) : aC := .inl (ty, N, .inl f)
def aL (N : Nat) (f : Nat → Int64) : aC := .inl (.long, N, .inr (.inl f))
def aP (ty : FieldType) (N : Nat) (f : Nat → Option Nat) : aC := .inl (ty, N, .inr (.inr (.inr (.inr f))))
def aB (ci : Nat) (fs : List Value) : aC := .inr (ci, fs)
/-- an int as a whole number, a long as a whole number -/
def iI (z : Int) : Int32 := Int32.ofInt z
def lI (z : Int) : Int64 := Int64.ofInt z
/-! locals -/
def ldL (ls : aLs) (i : Nat) : Option Value := match ls[i]? with
  | some (some v) => some v
  | _ => none
def klL : Option Value → Option Value
  | some (.long _) => none
  | some (.double _) => none
  | v => v
def klA (ls : aLs) : Nat → aLs
  | 0 => ls
  | j + 1 => ls.modify j klL
def stL1 (ls : aLs) (i : Nat) (v : Value) : aLs := (klA ls i).set i (some v)
def stL2 (ls : aLs) (i : Nat) (v : Value) : aLs := ((klA ls i).set i (some v)).set (i + 1) none
def stL (ls : aLs) (i : Nat) (v : Value) : Option aLs :=
  if v.category = 2 then (if i + 1 < ls.length then some (stL2 ls i v) else none) else (if i < ls.length then some (stL1 ls i v) else none)
/-- the locals of a frame that begins -/
def entA : List Value → aLs
  | [] => []
  | v :: vs => if v.category = 2 then some v :: none :: entA vs else some v :: entA vs
def entL (vs : List Value) (n : Nat) : aLs := entA vs ++ List.replicate (n - (entA vs).length) none
/-! kinds of values -/
def kI : Value → Bool | .int _ => true | _ => false
def kL : Value → Bool | .long _ => true | _ => false
def kD : Value → Bool | .double _ => true | _ => false
def kA : Value → Bool | .ref _ => true | .null => true | _ => false
/-- a field's or an answer's kind: 0 int, 1 boolean, 2 long, 3 a reference, 4 double -/
def fitK : Nat → Value → Bool
  | 0, .int _ => true
  | 1, .int x => x == 0 || x == 1
  | 2, .long _ => true
  | 3, .ref _ => true
  | 3, .null => true
  | 4, .double _ => true
  | _, _ => false
def dflK : Nat → Value
  | 2 => .long 0
  | 3 => .null
  | 4 => .double 0
  | _ => .int 0
/-! cells -/
def inB (i : Int32) (N : Nat) : Bool := !(decide (i < 0)) && decide (i.toNatClampNeg < N)
def gI (c : Option aC) (i : Int32) : Option Int32 := match c with
  | some (.inl (.int, N, .inl f)) => if inB i N then some (f i.toNatClampNeg) else none
  | some (.inl (.float, N, .inl f)) => if inB i N then some (f i.toNatClampNeg) else none
  | _ => none
def gL (c : Option aC) (i : Int32) : Option Int64 := match c with
  | some (.inl (_, N, .inr (.inl f))) => if inB i N then some (f i.toNatClampNeg) else none
  | _ => none
def gP (c : Option aC) (i : Int32) : Option Value := match c with
  | some (.inl (_, N, .inr (.inr (.inr (.inr f))))) => if inB i N then some (va_rf (f i.toNatClampNeg)) else none
  | _ => none
def gF (c : Option aC) (ci k : Nat) : Option Value := match c with
  | some (.inr (cj, fs)) => if cj = ci then fs[k]? else none
  | _ => none
def gN (c : Option aC) : Option Nat := match c with
  | some (.inl (_, N, _)) => some N
  | _ => none
def updO (f : Nat → Option Nat) (k : Nat) (x : Option Nat) : Nat → Option Nat := fun j => if j = k then x else f j
def sI (c : Option aC) (i : Int32) (x : Int32) : Option aC := match c with
  | some (.inl (.int, N, .inl f)) => if inB i N then some (aI .int N (upd f i.toNatClampNeg x)) else none
  | _ => none
def sZ (c : Option aC) (i : Int32) (x : Int32) : Option aC := match c with
  | some (.inl (.boolean, N, .inl f)) => if inB i N && (x == 0 || x == 1) then some (aI .boolean N (upd f i.toNatClampNeg x)) else none
  | _ => none
def gZ (c : Option aC) (i : Int32) : Option Int32 := match c with
  | some (.inl (.boolean, N, .inl f)) => if inB i N then some (f i.toNatClampNeg) else none
  | _ => none
def sL (c : Option aC) (i : Int32) (x : Int64) : Option aC := match c with
  | some (.inl (.long, N, .inr (.inl f))) => if inB i N then some (aL N (vp_updL f i.toNatClampNeg x)) else none
  | _ => none
def sF (c : Option aC) (ci k tc : Nat) (v : Value) : Option aC := match c with
  | some (.inr (cj, fs)) => if cj = ci ∧ k < fs.length ∧ fitK tc v = true then some (aB ci (fs.set k v)) else none
  | _ => none
/-- writes a cell; what is only read bears another type (float) -/
def wr (h : aHf) (a : Nat) (c : Option aC) : Option aHf := c.map (aup h a)
def sP (c v : Option aC) (i : Int32) (q : Nat) : Option aC := match c with
  | some (.inl (.object C, N, .inr (.inr (.inr (.inr f))))) => match v with
    | some (.inr (cj, _)) => if inB i N = true ∧ (aCl[cj]?).map (·.1) = some C then some (aP (.object C) N (updO f i.toNatClampNeg (some q))) else none
    | _ => none
  | some (.inl (.array .int, N, .inr (.inr (.inr (.inr f))))) => match v with
    | some (.inl (.int, _, .inl _)) => if inB i N then some (aP (.array .int) N (updO f i.toNatClampNeg (some q))) else none
    | _ => none
  | _ => none
/-- makes a cell of so many slots -/
def mk (H : aH) (c : aC) (s : Nat) : aH := (aup H.1 H.2.1 c, H.2.1 + 1, H.2.2.1 + s, H.2.2.2)
def mk2 (H : aH) (n c : Nat) : aH :=
  (fun q => if q = H.2.1 then some (aP (.array .int) n (fun i => if i < n then some (H.2.1 + 1 + i) else none)) else if H.2.1 < q ∧ q ≤ H.2.1 + n then some (aI .int c (fun _ => 0)) else H.1 q, H.2.1 + 1 + n, H.2.2.1 + n + n * c, H.2.2.2)
def nwA (t : ArrayType) (n : Nat) : Option aC := match t with
  | .int => some (aI .int n (fun _ => 0))
  | .long => some (aL n (fun _ => 0))
  | _ => none
/-! branches -/
def aTg (pc : Nat) (off : Int) : Option Nat := if 0 ≤ (pc : Int) + off then some ((pc : Int) + off).toNat else none
def aBr {α : Type} (c : Jvm.ClassFile.Cond) (x y : Int32) (t f : α) : α := match c with
  | .eq => if x = y then t else f
  | .ne => if x = y then f else t
  | .lt => if x < y then t else f
  | .ge => if y ≤ x then t else f
  | .gt => if y < x then t else f
  | .le => if x ≤ y then t else f
def go (pc : Nat) (ls : aLs) (st : List Value) (H : aH) : Option (aQ ⊕ (aO × aH)) := some (.inl (pc, ls, st, H))
/-! look-ups -/
def fnd3 {α : Type} (l : List (Nat × Nat × α)) (a b : Nat) : Option α := match l with
  | [] => none
  | (x, y, z) :: t => if x == a && y == b then some z else fnd3 t a b
def aRec (M : Nat) : Option aMR := aMT[M]?
def rY (r : aMR) : MethodName := r.1
def rB (r : aMR) : ByteArray := r.2.1
def rML (r : aMR) : Nat := r.2.2.1
def rRet (r : aMR) : Option FieldType := r.2.2.2.1
def rHH (r : aMR) : List (Nat × Nat × Nat × Nat) := r.2.2.2.2.1
def rNA (r : aMR) : Nat := r.2.2.2.2.2.1
def rKd (r : aMR) : Nat := r.2.2.2.2.2.2.1
def rTmp (r : aMR) : Bool := r.2.2.2.2.2.2.2.1
def rCi (r : aMR) : Nat := r.2.2.2.2.2.2.2.2.1
def rOc (r : aMR) : Nat := r.2.2.2.2.2.2.2.2.2.1
/-- how long an instruction is in its short form; 0: any length -/
def ilen : Instr → Nat
  | .tableswitch .. => 0
  | .bipush _ => 2
  | .ldc _ => 2
  | .iload _ => 2
  | .lload _ => 2
  | .dload _ => 2
  | .aload _ => 2
  | .istore _ => 2
  | .lstore _ => 2
  | .dstore _ => 2
  | .astore _ => 2
  | .newarray _ => 2
  | .sipush _ => 3
  | .ldc_w _ => 3
  | .ldc2_w _ => 3
  | .iinc .. => 3
  | .goto _ => 3
  | .ifCond .. => 3
  | .if_icmp .. => 3
  | .if_acmp .. => 3
  | .ifnull _ => 3
  | .ifnonnull _ => 3
  | .getfield _ => 3
  | .putfield _ => 3
  | .getstatic _ => 3
  | .invokevirtual _ => 3
  | .invokestatic _ => 3
  | .invokespecial _ => 3
  | .new _ => 3
  | .anewarray _ => 3
  | .multianewarray .. => 4
  | _ => 1
def mDec (M pc : Nat) : Option (Instr × Nat) := match aRec M with
  | none => none
  | some r => match decode (rB r) pc with
    | .ok q => if ilen q.1 = 0 ∨ ilen q.1 = q.2 then some q else none
    | .error _ => none
def mNm (M : Nat) : String := match aRec M with | some r => (rY r).name | none => ""
def mOc (M : Nat) : Nat := match aRec M with | some r => rOc r | none => 99
def mRet (M : Nat) : Option FieldType := match aRec M with | some r => rRet r | none => none
def mHH (M : Nat) : List (Nat × Nat × Nat × Nat) := match aRec M with | some r => rHH r | none => []
def mKd (M : Nat) : Nat := match aRec M with | some r => rKd r | none => 99
def mNA (M : Nat) : Nat := match aRec M with | some r => rNA r | none => 0
def mCi (M : Nat) : Nat := match aRec M with | some r => rCi r | none => 99
def mML (M : Nat) : Nat := match aRec M with | some r => rML r | none => 0
def mTmp (M : Nat) : Bool := match aRec M with | some r => rTmp r | none => false
/-- what a method wants of frames and of words of locals -/
def mFR (M : Nat) : Nat := (aRQ[M]?.getD (0, 0)).1
def mLO (M : Nat) : Nat := (aRQ[M]?.getD (0, 0)).2
/-- the room of a call, of a throw, of an object's first call -/
def rqC (M M' : Nat) : Bool := Nat.ble (mFR M' + 1) (mFR M) && Nat.ble (19 + mML M' + mLO M') (mLO M)
def rqT (M : Nat) : Bool := Nat.ble 6 (mFR M) && Nat.ble 82 (mLO M)
def rqP (M : Nat) : Bool := Nat.ble 1 (mFR M) && Nat.ble 20 (mLO M)
/-- a final field is written by a constructor of its own class alone -/
def finB (M ci j : Nat) : Bool := match aCl[ci]? with
  | some (C, T, _) => !(T j).2.2.2 || (mNm M == "<init>" && aON[mOc M]? == some C)
  | none => false
/-- what an answer of a type may be -/
def retK : Option FieldType → Value → Bool
  | some .int, .int _ => true
  | some .boolean, .int x => x == 0 || x == 1
  | some .long, .long _ => true
  | some .double, .double _ => true
  | some (.object _), .ref _ => true
  | some (.object _), .null => true
  | some (.array _), .ref _ => true
  | some (.array _), .null => true
  | _, _ => false
def catS (l : List Value) : Nat := (l.map fun v => v.category).sum
/-- pairs of classes: the first is none of the second -/
def aNC : List (String × String) := [("java/lang/IllegalArgumentException", "java/lang/IllegalStateException"), ("java/lang/IllegalArgumentException", "java/lang/IndexOutOfBoundsException"), ("java/lang/IllegalStateException", "java/lang/IllegalArgumentException"), ("java/lang/IllegalStateException", "java/lang/IndexOutOfBoundsException"), ("java/lang/IndexOutOfBoundsException", "java/lang/IllegalArgumentException"), ("java/lang/IndexOutOfBoundsException", "java/lang/IllegalStateException")]
/-- the handler that takes an exception of class E thrown at pc: none: not told; some none: none takes it -/
def hnd (oc : Nat) (pc : Nat) (E : String) : List (Nat × Nat × Nat × Nat) → Option (Option Nat)
  | [] => some none
  | (a, b, h, t) :: r => if a ≤ pc ∧ pc < b then (match fnd3 aCT oc t with
      | some nm => if nm.1 = E then some (some h) else if (E, nm.1) ∈ aNC then hnd oc pc E r else none
      | none => none) else hnd oc pc E r
/-- what a static holds: the two objects are told by their places -/
def gsV (H : aH) : Value → Value
  | .ref 1 => .ref H.2.2.2.1
  | .ref 2 => .ref H.2.2.2.2
  | v => v
/-! one step that calls nothing and ends nothing -/
def aS (M pc len : Nat) (i : Instr) (ls : aLs) (st : List Value) (H : aH) : Option (aQ ⊕ (aO × aH)) :=
  match i with
  | .iconst n => go (pc + len) ls (.int (Int32.ofInt n) :: st) H
  | .bipush n => go (pc + len) ls (.int (Int8.ofInt n).toInt32 :: st) H
  | .sipush n => go (pc + len) ls (.int (Int16.ofInt n).toInt32 :: st) H
  | .lconst n => go (pc + len) ls (.long (Int64.ofNat (n : Nat)) :: st) H
  | .dconst n => if n = 0 then go (pc + len) ls (.double FP.dconst0 :: st) H else none
  | .aconst_null => go (pc + len) ls (.null :: st) H
  | .ldc k => (fnd3 aIT (mOc M) k).bind fun v => go (pc + len) ls (.int v.1 :: st) H
  | .ldc_w k => (fnd3 aIT (mOc M) k).bind fun v => go (pc + len) ls (.int v.1 :: st) H
  | .ldc2_w k => (fnd3 aLT (mOc M) k).bind fun v => go (pc + len) ls (.long v.1 :: st) H
  | .iload k => (ldL ls k).bind fun v => if kI v then go (pc + len) ls (v :: st) H else none
  | .iload_n k => (ldL ls k).bind fun v => if kI v then go (pc + len) ls (v :: st) H else none
  | .lload k => (ldL ls k).bind fun v => if kL v then go (pc + len) ls (v :: st) H else none
  | .lload_n k => (ldL ls k).bind fun v => if kL v then go (pc + len) ls (v :: st) H else none
  | .dload k => (ldL ls k).bind fun v => if kD v then go (pc + len) ls (v :: st) H else none
  | .dload_n k => (ldL ls k).bind fun v => if kD v then go (pc + len) ls (v :: st) H else none
  | .aload k => (ldL ls k).bind fun v => if kA v then go (pc + len) ls (v :: st) H else none
  | .aload_n k => (ldL ls k).bind fun v => if kA v then go (pc + len) ls (v :: st) H else none
  | .istore k => match st with | v :: t => if kI v then (stL ls k v).bind fun ls => go (pc + len) ls t H else none | _ => none
  | .istore_n k => match st with | v :: t => if kI v then (stL ls k v).bind fun ls => go (pc + len) ls t H else none | _ => none
  | .lstore k => match st with | v :: t => if kL v then (stL ls k v).bind fun ls => go (pc + len) ls t H else none | _ => none
  | .lstore_n k => match st with | v :: t => if kL v then (stL ls k v).bind fun ls => go (pc + len) ls t H else none | _ => none
  | .dstore k => match st with | v :: t => if kD v then (stL ls k v).bind fun ls => go (pc + len) ls t H else none | _ => none
  | .dstore_n k => match st with | v :: t => if kD v then (stL ls k v).bind fun ls => go (pc + len) ls t H else none | _ => none
  | .astore k => match st with | v :: t => if kA v then (stL ls k v).bind fun ls => go (pc + len) ls t H else none | _ => none
  | .astore_n k => match st with | v :: t => if kA v then (stL ls k v).bind fun ls => go (pc + len) ls t H else none | _ => none
  | .iinc k n => match ldL ls k with | some (.int x) => (stL ls k (.int (x + Int32.ofInt n))).bind fun ls => go (pc + len) ls st H | _ => none
  | .iadd => match st with | .int y :: .int x :: t => go (pc + len) ls (.int (x + y) :: t) H | _ => none
  | .isub => match st with | .int y :: .int x :: t => go (pc + len) ls (.int (x - y) :: t) H | _ => none
  | .imul => match st with | .int y :: .int x :: t => go (pc + len) ls (.int (x * y) :: t) H | _ => none
  | .iand => match st with | .int y :: .int x :: t => go (pc + len) ls (.int (x &&& y) :: t) H | _ => none
  | .ior => match st with | .int y :: .int x :: t => go (pc + len) ls (.int (x ||| y) :: t) H | _ => none
  | .ixor => match st with | .int y :: .int x :: t => go (pc + len) ls (.int (x ^^^ y) :: t) H | _ => none
  | .idiv => match st with | .int y :: .int x :: t => if y = 0 then none else go (pc + len) ls (.int (x / y) :: t) H | _ => none
  | .irem => match st with | .int y :: .int x :: t => if y = 0 then none else go (pc + len) ls (.int (x - x / y * y) :: t) H | _ => none
  | .ineg => match st with | .int x :: t => go (pc + len) ls (.int (-x) :: t) H | _ => none
  | .ishl => match st with | .int y :: .int x :: t => go (pc + len) ls (.int (x <<< (y &&& 31)) :: t) H | _ => none
  | .ishr => match st with | .int y :: .int x :: t => go (pc + len) ls (.int (x >>> (y &&& 31)) :: t) H | _ => none
  | .iushr => match st with | .int y :: .int x :: t => go (pc + len) ls (.int ((x.toUInt32 >>> (y.toUInt32 &&& Int32.toUInt32 31)).toInt32) :: t) H | _ => none
  | .ladd => match st with | .long y :: .long x :: t => go (pc + len) ls (.long (x + y) :: t) H | _ => none
  | .lsub => match st with | .long y :: .long x :: t => go (pc + len) ls (.long (x - y) :: t) H | _ => none
  | .lmul => match st with | .long y :: .long x :: t => go (pc + len) ls (.long (x * y) :: t) H | _ => none
  | .land => match st with | .long y :: .long x :: t => go (pc + len) ls (.long (x &&& y) :: t) H | _ => none
  | .lor => match st with | .long y :: .long x :: t => go (pc + len) ls (.long (x ||| y) :: t) H | _ => none
  | .lxor => match st with | .long y :: .long x :: t => go (pc + len) ls (.long (x ^^^ y) :: t) H | _ => none
  | .ldiv => match st with | .long y :: .long x :: t => if y = 0 then none else go (pc + len) ls (.long (x / y) :: t) H | _ => none
  | .lshl => match st with | .int y :: .long x :: t => go (pc + len) ls (.long (x <<< (y.toInt64 &&& 63)) :: t) H | _ => none
  | .lshr => match st with | .int y :: .long x :: t => go (pc + len) ls (.long (x >>> (y.toInt64 &&& 63)) :: t) H | _ => none
  | .lushr => match st with | .int y :: .long x :: t => go (pc + len) ls (.long ((x.toUInt64 >>> (y.toInt64.toUInt64 &&& Int64.toUInt64 63)).toInt64) :: t) H | _ => none
  | .lcmp => match st with | .long y :: .long x :: t => go (pc + len) ls (.int (lg_cmp x y) :: t) H | _ => none
  | .i2l => match st with | .int x :: t => go (pc + len) ls (.long x.toInt64 :: t) H | _ => none
  | .l2i => match st with | .long x :: t => go (pc + len) ls (.int x.toInt32 :: t) H | _ => none
  | .i2d => match st with | .int x :: t => go (pc + len) ls (.double (FP.i2d x) :: t) H | _ => none
  | .ddiv => match st with | .double y :: .double x :: t => if FP.ddiv x y &&& 0x7fffffffffffffff ≤ 0x7ff0000000000000 then go (pc + len) ls (.double (FP.ddiv x y) :: t) H else none | _ => none
  | .dcmp o => match st with | .double y :: .double x :: t => go (pc + len) ls (.int (Op.cmpValue (FP.dcmp x y) o) :: t) H | _ => none
  | .dup => match st with | v :: t => if v.category = 1 then go (pc + len) ls (v :: v :: t) H else none | _ => none
  | .pop => match st with | v :: t => if v.category = 1 then go (pc + len) ls t H else none | _ => none
  | .dup2 => match st with | v :: u :: t => if v.category = 1 ∧ u.category = 1 then go (pc + len) ls (v :: u :: v :: u :: t) H else none | _ => none
  | .goto o => (aTg pc o).bind fun tg => go tg ls st H
  | .ifCond c o => match st with | .int x :: t => (aTg pc o).bind fun tg => aBr c x 0 (go tg ls t H) (go (pc + len) ls t H) | _ => none
  | .if_icmp c o => match st with | .int y :: .int x :: t => (aTg pc o).bind fun tg => aBr c x y (go tg ls t H) (go (pc + len) ls t H) | _ => none
  | .ifnull o => match st with | .ref _ :: t => go (pc + len) ls t H | .null :: t => (aTg pc o).bind fun tg => go tg ls t H | _ => none
  | .ifnonnull o => match st with | .ref _ :: t => (aTg pc o).bind fun tg => go tg ls t H | .null :: t => go (pc + len) ls t H | _ => none
  | .if_acmp .ne o => match st with | .ref b :: .ref a :: t => if (H.1 a).isSome = true ∧ (H.1 b).isSome = true then (aTg pc o).bind fun tg => if a = b then go (pc + len) ls t H else go tg ls t H else none | _ => none
  | .tableswitch df lo hi offs => match st with
    | .int x :: t => if x.toInt < lo ∨ hi < x.toInt then (aTg pc df).bind fun tg => go tg ls t H
      else (offs[(x.toInt - lo).toNat]?).bind fun o => (aTg pc o).bind fun tg => go tg ls t H
    | _ => none
  | .getfield k => match st with
    | .ref a :: t => (fnd3 aFT (mOc M) k).bind fun q => (gF (H.1 a) q.1 q.2.1).bind fun v => go (pc + len) ls (v :: t) H
    | _ => none
  | .putfield k => match st with
    | v :: .ref a :: t => (fnd3 aFT (mOc M) k).bind fun q => if finB M q.1 q.2.1 then (wr H.1 a (sF (H.1 a) q.1 q.2.1 q.2.2.1 v)).bind fun h => go (pc + len) ls t (h, H.2) else none
    | _ => none
  | .arraylength => match st with | .ref a :: t => (gN (H.1 a)).bind fun n => go (pc + len) ls (.int (nI n) :: t) H | _ => none
  | .iaload => match st with | .int j :: .ref a :: t => (gI (H.1 a) j).bind fun v => go (pc + len) ls (.int v :: t) H | _ => none
  | .laload => match st with | .int j :: .ref a :: t => (gL (H.1 a) j).bind fun v => go (pc + len) ls (.long v :: t) H | _ => none
  | .baload => match st with | .int j :: .ref a :: t => (gZ (H.1 a) j).bind fun v => go (pc + len) ls (.int v :: t) H | _ => none
  | .aaload => match st with | .int j :: .ref a :: t => (gP (H.1 a) j).bind fun v => go (pc + len) ls (v :: t) H | _ => none
  | .iastore => match st with | .int x :: .int j :: .ref a :: t => (wr H.1 a (sI (H.1 a) j x)).bind fun h => go (pc + len) ls t (h, H.2) | _ => none
  | .lastore => match st with | .long x :: .int j :: .ref a :: t => (wr H.1 a (sL (H.1 a) j x)).bind fun h => go (pc + len) ls t (h, H.2) | _ => none
  | .aastore => match st with | .ref v :: .int j :: .ref a :: t => (wr H.1 a (sP (H.1 a) (H.1 v) j v)).bind fun h => go (pc + len) ls t (h, H.2) | _ => none
  | .newarray ty => match st with | .int c :: t => if c < 0 ∨ 60000000 < c.toNatClampNeg then none else (nwA ty c.toNatClampNeg).bind fun x => go (pc + len) ls (.ref H.2.1 :: t) (mk H x c.toNatClampNeg) | _ => none
  | .anewarray k => match st with | .int c :: t => if c < 0 ∨ 60000000 < c.toNatClampNeg then none else (fnd3 aAT (mOc M) k).bind fun C => go (pc + len) ls (.ref H.2.1 :: t) (mk H (aP (.object C.1) c.toNatClampNeg (fun _ => none)) c.toNatClampNeg) | _ => none
  | .getstatic k => (fnd3 aGT (mOc M) k).bind fun v => go (pc + len) ls (gsV H v.1 :: st) H
  | .bastore => match st with | .int x :: .int j :: .ref a :: t => (wr H.1 a (sZ (H.1 a) j x)).bind fun h => go (pc + len) ls t (h, H.2) | _ => none
  | _ => none
/-! calls -/
def aArgs (n : Nat) (st : List Value) : Option (List Value × List Value) := if n ≤ st.length then some ((st.take n).reverse, st.drop n) else none
/-- arraycopy -/
def isIA (c : Option aC) : Bool := match c with
  | some (.inl (.int, _, .inl _)) => true
  | _ => false
def cpC (h : aHf) (s d : Option aC) (sp dp n : Int32) : Option aC := match s, d with
  | some (.inl (.int, N, .inl f)), some (.inl (.int, K, .inl g)) => if sp < 0 ∨ dp < 0 ∨ n < 0 ∨ N < sp.toNatClampNeg + n.toNatClampNeg ∨ K < dp.toNatClampNeg + n.toNatClampNeg then none
      else some (aI .int K (va_cpy f g sp.toNatClampNeg dp.toNatClampNeg n.toNatClampNeg))
  | some (.inl (.array .int, N, .inr (.inr (.inr (.inr f))))), some (.inl (.array .int, K, .inr (.inr (.inr (.inr g))))) => if sp < 0 ∨ dp < 0 ∨ n < 0 ∨ N < sp.toNatClampNeg + n.toNatClampNeg ∨ K < dp.toNatClampNeg + n.toNatClampNeg ∨ ((List.range n.toNatClampNeg).all fun i => match f (sp.toNatClampNeg + i) with | some y => isIA (h y) | none => true) = false then none
      else some (aP (.array .int) K (va_cpy f g sp.toNatClampNeg dp.toNatClampNeg n.toNatClampNeg))
  | _, _ => none
/-- two ints as a long -/
def lJ (lo hi : Int32) : Int64 := (lo.toUInt32.toNat + hi.toUInt32.toNat * 4294967296).toUInt64.toInt64
def pGL (c : Option aC) (off : Int64) : Option Int64 := match c with
  | some (.inl (.int, N, .inl f)) => if 16 ≤ off.toInt ∧ off.toInt % 8 = 0 ∧ ((off.toInt - 16) / 4).toNat + 1 < N then some (lJ (f ((off.toInt - 16) / 4).toNat) (f (((off.toInt - 16) / 4).toNat + 1))) else none
  | _ => none
/-- the receiver's class -/
def recv (kd ci : Nat) (as : List Value) (H : aH) : Bool := match kd with
  | 1 => true
  | 2 => match as with | .ref _ :: _ => true | _ => false
  | _ => match as with
    | .ref a :: _ => if ci = 11 then false else (match H.1 a with
      | some (.inr (cj, _)) => cj == ci
      | _ => false)
    | _ => false
/-- what the library does without bytes -/
def aPrim (p : Nat) (as : List Value) (H : aH) : aR := match p, as with
  | 1000, [.ref _] => some (.inl none, H)
  | _, _ => none
def pNA (p : Nat) : Nat := match p with | 1000 => 1 | 1001 => 5 | 1002 => 3 | _ => 0
def pKd (p : Nat) : Nat := match p with | 1000 => 2 | 1001 => 1 | 1002 => 0 | _ => 99
/-- what is done with a callee's end -/
def aBack (M pc : Nat) (ls : aLs) (rest : List Value) (x : aR) : Option (aQ ⊕ (aO × aH)) := match x with
  | none => none
  | some (.inl v, H) => go (pc + 3) ls (v.toList ++ rest) H
  | some (.inr E, H) => match hnd (mOc M) pc E (mHH M) with
    | none => none
    | some (some hp) => match mDec M hp with
      | some (.astore k, len) => if k < ls.length then go (hp + len) ((klA ls k).set k none) [] H else none
      | some (.astore_n k, len) => if (k : Nat) < ls.length then go (hp + len) ((klA ls k).set k none) [] H else none
      | _ => none
    | some none => if mHH M = [] then some (.inr (.inr E, H)) else none
def aCall (EE : Nat → List Value → aH → aR) (M pc kd k : Nat) (ls : aLs) (st : List Value) (H : aH) : Option (aQ ⊕ (aO × aH)) :=
  match fnd3 aKT (mOc M) k with
  | none => none
  | some q =>
    if 1000 ≤ q.1 then
      (if pKd q.1 = kd ∧ rqP M = true then (aArgs (pNA q.1) st).bind fun a => if catS a.2 ≤ 8 then aBack M pc ls a.2 (aPrim q.1 a.1 H) else none else none)
    else
      (if mKd q.1 = kd ∧ rqC M q.1 = true then (aArgs (mNA q.1 + (if kd = 1 then 0 else 1)) st).bind fun a => if catS a.2 ≤ 8 ∧ recv kd (mCi q.1) a.1 H = true then aBack M pc ls a.2 (EE q.1 a.1 H) else none else none)
def aAct2 (EE : Nat → List Value → aH → aR) (d M pc : Nat) (ls : aLs) (st : List Value) (H : aH) (il : Instr × Nat) : Option (aQ ⊕ (aO × aH)) :=
  match il with
  | (.invokevirtual k, _) => aCall EE M pc 0 k ls st H
  | (.invokestatic k, _) => aCall EE M pc 1 k ls st H
  | (.invokespecial k, _) => aCall EE M pc 2 k ls st H
  | (.ireturn, _) => match st with | [v] => if kI v && retK (mRet M) v then some (.inr (.inl (some v), H)) else none | _ => none
  | (.lreturn, _) => match st with | [v] => if kL v && retK (mRet M) v then some (.inr (.inl (some v), H)) else none | _ => none
  | (.dreturn, _) => match st with | [v] => if kD v && retK (mRet M) v then some (.inr (.inl (some v), H)) else none | _ => none
  | (.areturn, _) => match st with | [v] => if kA v && retK (mRet M) v then some (.inr (.inl (some v), H)) else none | _ => none
  | (.return_, _) => match st with | [] => if (mRet M).isNone then some (.inr (.inl none, H)) else none | _ => none
  | (.new k, len) => match fnd3 aXT M pc with
    | some x => match st with | [] => if 8 ≤ d ∧ rqT M = true then some (.inr (.inr x.1, (H.1, H.2.1 + 1, H.2.2.1 + 6, H.2.2.2))) else none | _ => none
    | none => (fnd3 aNT (mOc M) k).bind fun q => (aFK[q.1]?).bind fun ks => go (pc + len) ls (.ref H.2.1 :: st) (mk H (aB q.1 (ks.map dflK)) ks.length)
  | (i, len) => aS M pc len i ls st H
def aAct (EE : Nat → List Value → aH → aR) (d M pc : Nat) (ls : aLs) (st : List Value) (H : aH) : Option (aQ ⊕ (aO × aH)) :=
  match mDec M pc with
  | none => none
  | some il => aAct2 EE d M pc ls st H il
def aRun (EE : Nat → List Value → aH → aR) (d M : Nat) : Nat → Nat → aLs → List Value → aH → aR
  | 0, _, _, _, _ => none
  | f + 1, pc, ls, st, H => match aAct EE d M pc ls st H with
    | none => none
    | some (.inr x) => some x
    | some (.inl q) => aRun EE d M f q.1 q.2.1 q.2.2.1 q.2.2.2
noncomputable def aLim (g : Nat → aR) : aR := @dite _ (∃ f, (g f).isSome = true) (Classical.propDecidable _) (fun h => g (Classical.choose h)) (fun _ => none)
/-- a method whose cells die with it -/
def aFin (tmp : Bool) (H : aH) (x : aR) : aR := if tmp then (match x with
    | some (o, H') => some (o, (fun q => if q < H.2.1 then H'.1 q else H.1 q, H'.2))
    | none => none) else x
noncomputable def aE : Nat → Nat → List Value → aH → aR
  | 0, _, _, _ => none
  | d + 1, M, as, H => if (entA as).length ≤ mML M then aFin (mTmp M) H (aLim fun f => aRun (aE d) d M f 0 (entL as (mML M)) [] H) else none
noncomputable def L (d M pc : Nat) (ls : aLs) (st : List Value) (H : aH) : aR := aLim fun f => aRun (aE d) d M f pc ls st H
theorem aRun_mono {EE : Nat → List Value → aH → aR} {d M : Nat} {x : aO × aH} : ∀ (f pc : Nat) (ls : aLs) (st : List Value) (H : aH), aRun EE d M f pc ls st H = some x → aRun EE d M (f + 1) pc ls st H = some x := by
  intro f
  induction f with
  | zero => intro pc ls st H h; cases h
  | succ f ih =>
    intro pc ls st H h
    rw [aRun] at h ⊢
    cases ha : aAct EE d M pc ls st H with
    | none => rw [ha] at h; exact absurd h (by simp)
    | some y =>
      rw [ha] at h
      cases y with
      | inl q => exact ih _ _ _ _ h
      | inr r => exact h
theorem aRun_le {EE : Nat → List Value → aH → aR} {d M : Nat} {x : aO × aH} {f g : Nat} (hfg : f ≤ g) {pc : Nat} {ls : aLs} {st : List Value} {H : aH} (h : aRun EE d M f pc ls st H = some x) : aRun EE d M g pc ls st H = some x := by
  induction hfg with
  | refl => exact h
  | step _ ih => exact aRun_mono _ _ _ _ _ ih
theorem aLim_some {g : Nat → aR} (hm : ∀ f f' x, f ≤ f' → g f = some x → g f' = some x) {x : aO × aH} : aLim g = some x ↔ ∃ f, g f = some x := by
  unfold aLim
  by_cases h : ∃ f, (g f).isSome = true
  · rw [dif_pos h]
    constructor
    · intro e; exact ⟨_, e⟩
    · rintro ⟨f, e⟩
      have hc := Classical.choose_spec h
      obtain ⟨y, hy⟩ := Option.isSome_iff_exists.mp hc
      rcases Nat.le_total f (Classical.choose h) with q | q
      · exact hm _ _ _ q e
      · have := hm _ _ _ q hy
        rw [e] at this
        rw [hy]; exact this.symm
  · rw [dif_neg h]
    constructor
    · intro e; cases e
    · rintro ⟨f, e⟩; exact absurd ⟨f, by rw [e]; rfl⟩ h
theorem L_some {d M pc : Nat} {ls : aLs} {st : List Value} {H : aH} {x : aO × aH} : L d M pc ls st H = some x ↔ ∃ f, aRun (aE d) d M f pc ls st H = some x :=
  aLim_some (fun _ _ _ hf h => aRun_le hf h)
theorem L_eq (d M pc : Nat) (ls : aLs) (st : List Value) (H : aH) : L d M pc ls st H = (match aAct (aE d) d M pc ls st H with
    | none => none
    | some (.inr x) => some x
    | some (.inl q) => L d M q.1 q.2.1 q.2.2.1 q.2.2.2) := by
  apply Option.ext
  intro x
  rw [L_some]
  constructor
  · rintro ⟨f, h⟩
    cases f with
    | zero => cases h
    | succ f =>
      rw [aRun] at h
      cases ha : aAct (aE d) d M pc ls st H with
      | none => rw [ha] at h; cases h
      | some y =>
        rw [ha] at h
        cases y with
        | inl q => exact L_some.mpr ⟨f, h⟩
        | inr r => exact h
  · intro h
    cases ha : aAct (aE d) d M pc ls st H with
    | none => rw [ha] at h; cases h
    | some y =>
      rw [ha] at h
      cases y with
      | inl q =>
        obtain ⟨f, hf⟩ := L_some.mp h
        refine ⟨f + 1, ?_⟩
        rw [aRun, ha]
        exact hf
      | inr r => exact ⟨1, by rw [aRun, ha]; exact h⟩
theorem L_next {d M pc pc' : Nat} {ls ls' : aLs} {st st' : List Value} {H H' : aH} (h : aAct (aE d) d M pc ls st H = go pc' ls' st' H') : L d M pc ls st H = L d M pc' ls' st' H' := by
  rw [L_eq, h]; rfl
theorem aE_succ (d M : Nat) (as : List Value) (H : aH) : aE (d + 1) M as H = if (entA as).length ≤ mML M then aFin (mTmp M) H (L d M 0 (entL as (mML M)) [] H) else none := rfl
end
section
/-! ===== laws by which the rows of a method are had ===== -/
section
variable {d M pc len : Nat} {ls : aLs} {st : List Value} {H : aH} {i : Instr}
theorem aAct_of {EE : Nat → List Value → aH → aR} {il : Instr × Nat} (hd : mDec M pc = some il) : aAct EE d M pc ls st H = aAct2 EE d M pc ls st H il := by
  rw [aAct, hd]
/-- what follows a step -/
noncomputable def aK (d M : Nat) (x : Option (aQ ⊕ (aO × aH))) : aR := match x with
  | none => none
  | some (.inr x) => some x
  | some (.inl q) => L d M q.1 q.2.1 q.2.2.1 q.2.2.2
theorem L_K {il : Instr × Nat} (hd : mDec M pc = some il) : L d M pc ls st H = aK d M (aAct2 (aE d) d M pc ls st H il) := by
  rw [L_eq, aAct_of hd]; rfl
theorem R_n {il : Instr × Nat} {pc' : Nat} {ls' : aLs} {st' : List Value} {H' : aH} (hd : mDec M pc = some il) (h : aAct2 (aE d) d M pc ls st H il = go pc' ls' st' H') : L d M pc ls st H = L d M pc' ls' st' H' := by
  rw [L_K hd, h]; rfl
theorem R_if {il : Instr × Nat} {p : Prop} [Decidable p] {pc1 pc2 : Nat} {ls' : aLs} {st' : List Value} {H' : aH} (hd : mDec M pc = some il) (h : aAct2 (aE d) d M pc ls st H il = if p then go pc1 ls' st' H' else go pc2 ls' st' H') : L d M pc ls st H = if p then L d M pc1 ls' st' H' else L d M pc2 ls' st' H' := by
  rw [L_K hd, h]
  by_cases hp : p
  · rw [if_pos hp, if_pos hp]; rfl
  · rw [if_neg hp, if_neg hp]; rfl
theorem R_nz {il : Instr × Nat} {p : Prop} [Decidable p] {pc' : Nat} {ls' : aLs} {st' : List Value} {H' : aH} (hd : mDec M pc = some il) (h : aAct2 (aE d) d M pc ls st H il = if p then none else go pc' ls' st' H') : L d M pc ls st H = if p then none else L d M pc' ls' st' H' := by
  rw [L_K hd, h]
  by_cases hp : p
  · rw [if_pos hp, if_pos hp]; rfl
  · rw [if_neg hp, if_neg hp]; rfl
theorem R_b {α : Type} {il : Instr × Nat} {x : Option α} {pc' : Nat} {ls' : aLs} {st' : α → List Value} {H' : α → aH} (hd : mDec M pc = some il) (h : aAct2 (aE d) d M pc ls st H il = x.bind fun v => go pc' ls' (st' v) (H' v)) : L d M pc ls st H = x.bind fun v => L d M pc' ls' (st' v) (H' v) := by
  rw [L_K hd, h]
  cases x <;> rfl
theorem R_e {il : Instr × Nat} {x : aO × aH} (hd : mDec M pc = some il) (h : aAct2 (aE d) d M pc ls st H il = some (.inr x)) : L d M pc ls st H = some x := by
  rw [L_K hd, h]; rfl
theorem R_ez {il : Instr × Nat} {p : Bool} {x : aO × aH} (hd : mDec M pc = some il) (h : aAct2 (aE d) d M pc ls st H il = if p then some (.inr x) else none) : L d M pc ls st H = if p then some x else none := by
  rw [L_K hd, h]
  cases p <;> rfl
theorem R_ex {il : Instr × Nat} {p : Prop} [Decidable p] {x : aO × aH} (hd : mDec M pc = some il) (h : aAct2 (aE d) d M pc ls st H il = if p then some (.inr x) else none) : L d M pc ls st H = if p then some x else none := by
  rw [L_K hd, h]
  by_cases hp : p
  · rw [if_pos hp, if_pos hp]; rfl
  · rw [if_neg hp, if_neg hp]; rfl
/-- a call's end: it answers, or it throws -/
def kC (x : aR) (f : Option Value → aH → aR) (g : String → aH → aR) : aR := match x with
  | none => none
  | some (.inl v, H) => f v H
  | some (.inr E, H) => g E H
theorem kC_r {v : Option Value} {H : aH} {f : Option Value → aH → aR} {g : String → aH → aR} : kC (some (.inl v, H)) f g = f v H := rfl
theorem kC_x {E : String} {H : aH} {f : Option Value → aH → aR} {g : String → aH → aR} : kC (some (.inr E, H)) f g = g E H := rfl
theorem kC_n {f : Option Value → aH → aR} {g : String → aH → aR} : kC none f g = none := rfl
/-- no handler here -/
def xT : String → aH → aR := fun E H => some (.inr E, H)
/-- a cell is an object of a class -/
def rv (c : Option aC) (ci : Nat) : Bool := match c with
  | some (.inr (cj, _)) => cj == ci
  | _ => false
theorem aK_back {ls : aLs} {rest : List Value} {x : aR} (hh : mHH M = []) : aK d M (aBack M pc ls rest x) = kC x (fun v H => L d M (pc + 3) ls (v.toList ++ rest) H) xT := by
  unfold aBack
  match x with
  | none => rfl
  | some (.inl v, H) => rfl
  | some (.inr E, H) =>
    show aK d M (match hnd (mOc M) pc E (mHH M) with
      | none => none
      | some (some hp) => match mDec M hp with
        | some (.astore k, len) => if k < ls.length then go (hp + len) ((klA ls k).set k none) [] H else none
        | some (.astore_n k, len) => if (k : Nat) < ls.length then go (hp + len) ((klA ls k).set k none) [] H else none
        | _ => none
      | some none => if mHH M = [] then some (.inr (.inr E, H)) else none) = _
    rw [hh]; rfl
theorem R_call {k M' n : Nat} {q : Nat × String × Nat} {as rest : List Value} {h : aHf} {r : Nat × Nat × Nat × Nat} (kd : Nat) (hd : mDec M pc = some (i, len)) (hi : ∀ EE : Nat → List Value → aH → aR, aAct2 EE d M pc ls st (h, r) (i, len) = aCall EE M pc kd k ls st (h, r)) (hk : fnd3 aKT (mOc M) k = some q) (hM : q.1 = M') (hlt : M' < 1000) (hkd : mKd M' = kd) (hrq : rqC M M' = true) (hn : mNA M' + (if kd = 1 then 0 else 1) = n)
    (ha : aArgs n st = some (as, rest)) (hh : mHH M = []) : L d M pc ls st (h, r) = if catS rest ≤ 8 ∧ recv kd (mCi M') as (h, r) = true then kC (aE d M' as (h, r)) (fun v H => L d M (pc + 3) ls (v.toList ++ rest) H) xT else none := by
  rw [L_K hd, hi, aCall, hk]
  subst hM
  simp only [if_neg (Nat.not_le.mpr hlt), if_pos (And.intro hkd hrq), hn, ha, Option.bind_some]
  split
  · rw [aK_back hh]
  · rfl
theorem R_prim {k p n : Nat} {q : Nat × String × Nat} {as rest : List Value} {H : aH} (kd : Nat) (hd : mDec M pc = some (i, len)) (hi : ∀ EE : Nat → List Value → aH → aR, aAct2 EE d M pc ls st H (i, len) = aCall EE M pc kd k ls st H) (hk : fnd3 aKT (mOc M) k = some q) (hM : q.1 = p) (hge : 1000 ≤ p) (hkd : pKd p = kd) (hrq : rqP M = true) (hn : pNA p = n)
    (ha : aArgs n st = some (as, rest)) (hh : mHH M = []) : L d M pc ls st H = if catS rest ≤ 8 then kC (aPrim p as H) (fun v H => L d M (pc + 3) ls (v.toList ++ rest) H) xT else none := by
  rw [L_K hd, hi, aCall, hk]
  subst hM
  simp only [if_pos hge, if_pos (And.intro hkd hrq), hn, ha, Option.bind_some]
  split
  · rw [aK_back hh]
  · rfl
/-- a call under a handler -/
theorem R_callH {k M' n : Nat} {q : Nat × String × Nat} {as rest : List Value} {h : aHf} {r : Nat × Nat × Nat × Nat} (kd : Nat) (hd : mDec M pc = some (i, len)) (hi : ∀ EE : Nat → List Value → aH → aR, aAct2 EE d M pc ls st (h, r) (i, len) = aCall EE M pc kd k ls st (h, r)) (hk : fnd3 aKT (mOc M) k = some q) (hM : q.1 = M') (hlt : M' < 1000) (hkd : mKd M' = kd) (hrq : rqC M M' = true) (hn : mNA M' + (if kd = 1 then 0 else 1) = n)
    (ha : aArgs n st = some (as, rest)) : L d M pc ls st (h, r) = if catS rest ≤ 8 ∧ recv kd (mCi M') as (h, r) = true then kC (aE d M' as (h, r)) (fun v H => L d M (pc + 3) ls (v.toList ++ rest) H) (fun E H => aK d M (aBack M pc ls rest (some (.inr E, H)))) else none := by
  rw [L_K hd, hi, aCall, hk]
  subst hM
  simp only [if_neg (Nat.not_le.mpr hlt), if_pos (And.intro hkd hrq), hn, ha, Option.bind_some]
  split
  · match aE d q.1 as (h, r) with
    | none => rfl
    | some (.inl v, H) => rfl
    | some (.inr E, H) => rfl
  · rfl
theorem entL_le {as : List Value} {n : Nat} (h : (entL as n).length = n) : (entA as).length ≤ n := by
  unfold entL at h
  rw [List.length_append, List.length_replicate] at h
  omega
theorem aE_row {as : List Value} {n : Nat} (ht : mTmp M = false) (hm : mML M = n) (hl : entL as n = ls) (hn : ls.length = n) : aE (d + 1) M as H = L d M 0 ls [] H := by
  rw [aE_succ, ht, hm, if_pos (entL_le (by rw [hl]; exact hn)), hl]; rfl
theorem aE_rowT {as : List Value} {n : Nat} (ht : mTmp M = true) (hm : mML M = n) (hl : entL as n = ls) (hn : ls.length = n) : aE (d + 1) M as H = aFin true H (L d M 0 ls [] H) := by
  rw [aE_succ, ht, hm, if_pos (entL_le (by rw [hl]; exact hn)), hl]
end
/-! reading a call's words -/
theorem catS_0 : catS [] = 0 := rfl
theorem catS_c {v : Value} {l : List Value} : catS (v :: l) = v.category + catS l := rfl
theorem cat_i {x : Int32} : (Value.int x).category = 1 := rfl
theorem cat_l {x : Int64} : (Value.long x).category = 2 := rfl
theorem cat_d {x : UInt64} : (Value.double x).category = 2 := rfl
theorem cat_r {x : Nat} : (Value.ref x).category = 1 := rfl
theorem cat_n : Value.null.category = 1 := rfl
theorem recv_0 {ci a : Nat} {l : List Value} {H : aH} (hci : ci ≠ 11) : recv 0 ci (.ref a :: l) H = rv (H.1 a) ci := by
  show (if ci = 11 then _ else _) = _
  rw [if_neg hci]; rfl
theorem recv_1 {ci : Nat} {l : List Value} {H : aH} : recv 1 ci l H = true := rfl
theorem recv_2 {ci a : Nat} {l : List Value} {H : aH} : recv 2 ci (.ref a :: l) H = true := rfl
theorem rv_B {ci cj : Nat} {fs : List Value} : rv (some (aB cj fs)) ci = (cj == ci) := rfl
theorem kl_n : klL none = none := rfl
theorem kl_i {x : Int32} : klL (some (.int x)) = some (.int x) := rfl
theorem kl_r {x : Nat} : klL (some (.ref x)) = some (.ref x) := rfl
theorem kl_z : klL (some .null) = some .null := rfl
theorem kl_l {x : Int64} : klL (some (.long x)) = none := rfl
theorem kl_d {x : UInt64} : klL (some (.double x)) = none := rfl
theorem gF_B {ci cj k : Nat} {fs : List Value} : gF (some (aB cj fs)) ci k = if cj = ci then fs[k]? else none := rfl
theorem sF_B {ci cj k tc : Nat} {fs : List Value} {v : Value} : sF (some (aB cj fs)) ci k tc v = if cj = ci ∧ k < fs.length ∧ fitK tc v = true then some (aB ci (fs.set k v)) else none := rfl
theorem wr_s {h : aHf} {a : Nat} {c : aC} : wr h a (some c) = some (aup h a c) := rfl
theorem aup_s {h : aHf} {a : Nat} {c : aC} : aup h a c a = some c := by unfold aup; rw [if_pos rfl]
theorem aup_n {h : aHf} {a b : Nat} {c : aC} (hb : b ≠ a) : aup h a c b = h b := by unfold aup; rw [if_neg hb]
theorem aup_u {h : aHf} {a : Nat} {c c' : aC} : aup (aup h a c) a c' = aup h a c' := by
  funext q
  unfold aup
  by_cases e : q = a
  · rw [if_pos e, if_pos e]
  · rw [if_neg e, if_neg e, if_neg e]
theorem aup_id {h : aHf} {a : Nat} {c : aC} (hc : h a = some c) : aup h a c = h := by
  funext q
  unfold aup
  by_cases e : q = a
  · rw [if_pos e, e, hc]
  · rw [if_neg e]
section
variable {d M pc len k : Nat} {ls : aLs} {st : List Value} {H : aH} {h : aHf} {r : Nat × Nat × Nat × Nat} {i : Instr} {g : Nat × Nat}
theorem R_bi {n : Int} {v : Int32} (hd : mDec M pc = some (.bipush n, 2)) (hv : (Int8.ofInt n).toInt32 = v) : L d M pc ls st H = L d M (pc + 2) ls (.int v :: st) H := by
  subst hv; exact R_n hd rfl
theorem R_si {n : Int} {v : Int32} (hd : mDec M pc = some (.sipush n, 3)) (hv : (Int16.ofInt n).toInt32 = v) : L d M pc ls st H = L d M (pc + 3) ls (.int v :: st) H := by
  subst hv; exact R_n hd rfl
theorem R_ldc {q : Int32 × Nat} {v : Int32} (hd : mDec M pc = some (.ldc k, 2)) (hk : fnd3 aIT (mOc M) k = some q) (hv : q.1 = v) : L d M pc ls st H = L d M (pc + 2) ls (.int v :: st) H := by
  subst hv; exact R_n hd (by show (fnd3 aIT (mOc M) k).bind _ = _; rw [hk]; rfl)
theorem R_ldcw {q : Int32 × Nat} {v : Int32} (hd : mDec M pc = some (.ldc_w k, 3)) (hk : fnd3 aIT (mOc M) k = some q) (hv : q.1 = v) : L d M pc ls st H = L d M (pc + 3) ls (.int v :: st) H := by
  subst hv; exact R_n hd (by show (fnd3 aIT (mOc M) k).bind _ = _; rw [hk]; rfl)
theorem R_ldc2 {q : Int64 × Nat} {v : Int64} (hd : mDec M pc = some (.ldc2_w k, 3)) (hk : fnd3 aLT (mOc M) k = some q) (hv : q.1 = v) : L d M pc ls st H = L d M (pc + 3) ls (.long v :: st) H := by
  subst hv; exact R_n hd (by show (fnd3 aLT (mOc M) k).bind _ = _; rw [hk]; rfl)
theorem R_gs {q : Value × Nat × String × String × String} {v : Value} (hd : mDec M pc = some (.getstatic k, 3)) (hk : fnd3 aGT (mOc M) k = some q) (hv : gsV H q.1 = v) : L d M pc ls st H = L d M (pc + 3) ls (v :: st) H := by
  subst hv; exact R_n hd (by show (fnd3 aGT (mOc M) k).bind _ = _; rw [hk]; rfl)
theorem R_gf {q : Nat × Nat × Nat × Nat} {a ci j : Nat} (hd : mDec M pc = some (.getfield k, 3)) (hk : fnd3 aFT (mOc M) k = some q) (h1 : q.1 = ci) (h2 : q.2.1 = j) : L d M pc ls (.ref a :: st) (h, r) = (gF (h a) ci j).bind fun v => L d M (pc + 3) ls (v :: st) (h, r) := by
  subst h1; subst h2; exact R_b hd (by show (fnd3 aFT (mOc M) k).bind _ = _; rw [hk]; rfl)
theorem R_pf {q : Nat × Nat × Nat × Nat} {a ci j tc : Nat} {v : Value} (hd : mDec M pc = some (.putfield k, 3)) (hk : fnd3 aFT (mOc M) k = some q) (h1 : q.1 = ci) (h2 : q.2.1 = j) (h3 : q.2.2.1 = tc) (hf : finB M ci j = true) : L d M pc ls (v :: .ref a :: st) (h, r) = (wr h a (sF (h a) ci j tc v)).bind fun h' => L d M (pc + 3) ls st (h', r) := by
  subst h1; subst h2; subst h3; exact R_b hd (by show (fnd3 aFT (mOc M) k).bind _ = _; rw [hk]; show (if finB M q.1 q.2.1 then _ else none) = _; rw [hf]; rfl)
theorem R_new {q : Nat × Nat × Nat × Nat} {ci n w m : Nat} {ks : List Nat} {vs : List Value} (hd : mDec M pc = some (.new k, 3)) (hx : fnd3 aXT M pc = none) (hk : fnd3 aNT (mOc M) k = some q) (h1 : q.1 = ci) (hf : aFK[ci]? = some ks) (hvs : ks.map dflK = vs) (hm : ks.length = m) :
    L d M pc ls st (h, n, w, g) = L d M (pc + 3) ls (.ref n :: st) (aup h n (aB ci vs), n + 1, w + m, g) := by
  subst h1; subst hvs; subst hm
  exact R_n hd (by show (match fnd3 aXT M pc with | some x => _ | none => _) = _; rw [hx]; show (fnd3 aNT (mOc M) k).bind _ = _; rw [hk]; show (aFK[q.1]?).bind _ = _; rw [hf]; rfl)
theorem R_thr {q : String × Nat × Nat × Nat × Bool × String} {E : String} {n w : Nat} (hd : mDec M pc = some (.new k, 3)) (hx : fnd3 aXT M pc = some q) (h1 : q.1 = E) (hrq : rqT M = true) : L d M pc ls [] (h, n, w, g) = if 8 ≤ d then some (.inr E, (h, n + 1, w + 6, g)) else none := by
  subst h1
  refine R_ex hd ?_
  show (match fnd3 aXT M pc with | some x => _ | none => _) = _
  rw [hx]
  simp only [hrq, and_true]
theorem R_an {q : String × Nat} {C : String} {n w : Nat} {c : Int32} (hd : mDec M pc = some (.anewarray k, 3)) (hk : fnd3 aAT (mOc M) k = some q) (h1 : q.1 = C) : L d M pc ls (.int c :: st) (h, n, w, g) = if c < 0 ∨ 60000000 < c.toNatClampNeg then none else L d M (pc + 3) ls (.ref n :: st) (mk (h, n, w, g) (aP (.object C) c.toNatClampNeg (fun _ => none)) c.toNatClampNeg) := by
  subst h1; exact R_nz hd (by show (if _ then none else (fnd3 aAT (mOc M) k).bind _) = _; rw [hk]; rfl)
theorem R_cS {M' n : Nat} {q : Nat × String × Nat} {as rest : List Value} (hd : mDec M pc = some (.invokestatic k, 3)) (hk : fnd3 aKT (mOc M) k = some q) (hM : q.1 = M') (hlt : M' < 1000) (hkd : mKd M' = 1) (hrq : rqC M M' = true) (hn : mNA M' + 0 = n) (ha : aArgs n st = some (as, rest)) (hh : mHH M = []) :
    L d M pc ls st (h, r) = if catS rest ≤ 8 then kC (aE d M' as (h, r)) (fun v H => L d M (pc + 3) ls (v.toList ++ rest) H) xT else none := by
  rw [R_call (n := n) 1 hd (fun _ => rfl) hk hM hlt hkd hrq hn ha hh]
  simp only [recv, and_true]
theorem R_cV {M' n a ci : Nat} {q : Nat × String × Nat} {as rest : List Value} (hd : mDec M pc = some (.invokevirtual k, 3)) (hk : fnd3 aKT (mOc M) k = some q) (hM : q.1 = M') (hlt : M' < 1000) (hkd : mKd M' = 0) (hrq : rqC M M' = true) (hn : mNA M' + 1 = n) (hci : mCi M' = ci) (h11 : ci ≠ 11) (ha : aArgs n st = some (.ref a :: as, rest)) (hh : mHH M = []) :
    L d M pc ls st (h, r) = if catS rest ≤ 8 ∧ rv (h a) ci = true then kC (aE d M' (.ref a :: as) (h, r)) (fun v H => L d M (pc + 3) ls (v.toList ++ rest) H) xT else none := by
  rw [R_call (n := n) 0 hd (fun _ => rfl) hk hM hlt hkd hrq hn ha hh, hci, recv_0 h11]
theorem R_cI {M' n a : Nat} {q : Nat × String × Nat} {as rest : List Value} (hd : mDec M pc = some (.invokespecial k, 3)) (hk : fnd3 aKT (mOc M) k = some q) (hM : q.1 = M') (hlt : M' < 1000) (hkd : mKd M' = 2) (hrq : rqC M M' = true) (hn : mNA M' + 1 = n) (ha : aArgs n st = some (.ref a :: as, rest)) (hh : mHH M = []) :
    L d M pc ls st (h, r) = if catS rest ≤ 8 then kC (aE d M' (.ref a :: as) (h, r)) (fun v H => L d M (pc + 3) ls (v.toList ++ rest) H) xT else none := by
  rw [R_call (n := n) 2 hd (fun _ => rfl) hk hM hlt hkd hrq hn ha hh, recv_2]
  simp only [and_true]
theorem R_cH {M' n a ci : Nat} {q : Nat × String × Nat} {as rest : List Value} (hd : mDec M pc = some (.invokevirtual k, 3)) (hk : fnd3 aKT (mOc M) k = some q) (hM : q.1 = M') (hlt : M' < 1000) (hkd : mKd M' = 0) (hrq : rqC M M' = true) (hn : mNA M' + 1 = n) (hci : mCi M' = ci) (h11 : ci ≠ 11) (ha : aArgs n st = some (.ref a :: as, rest)) :
    L d M pc ls st (h, r) = if catS rest ≤ 8 ∧ rv (h a) ci = true then kC (aE d M' (.ref a :: as) (h, r)) (fun v H => L d M (pc + 3) ls (v.toList ++ rest) H) (fun E H => aK d M (aBack M pc ls rest (some (.inr E, H)))) else none := by
  rw [R_callH (n := n) 0 hd (fun _ => rfl) hk hM hlt hkd hrq hn ha, hci, recv_0 h11]
theorem R_cSH {M' n : Nat} {q : Nat × String × Nat} {as rest : List Value} (hd : mDec M pc = some (.invokestatic k, 3)) (hk : fnd3 aKT (mOc M) k = some q) (hM : q.1 = M') (hlt : M' < 1000) (hkd : mKd M' = 1) (hrq : rqC M M' = true) (hn : mNA M' + 0 = n) (ha : aArgs n st = some (as, rest)) :
    L d M pc ls st (h, r) = if catS rest ≤ 8 then kC (aE d M' as (h, r)) (fun v H => L d M (pc + 3) ls (v.toList ++ rest) H) (fun E H => aK d M (aBack M pc ls rest (some (.inr E, H)))) else none := by
  rw [R_callH (n := n) 1 hd (fun _ => rfl) hk hM hlt hkd hrq hn ha]
  simp only [recv, and_true]
end
section
variable {d M pc len k : Nat} {ls : aLs} {st : List Value} {H : aH} {h : aHf} {r : Nat × Nat × Nat × Nat} {i : Instr} {g : Nat × Nat} {EE : Nat → List Value → aH → aR}
theorem ret_i {x : Int32} (hr : mRet M = some .int) : aAct2 EE d M pc ls [.int x] H (.ireturn, 1) = some (.inr (.inl (some (.int x)), H)) := by
  show (if kI (.int x) && retK (mRet M) (.int x) then _ else none) = _
  rw [hr]; rfl
theorem ret_z {x : Int32} (hr : mRet M = some .boolean) : aAct2 EE d M pc ls [.int x] H (.ireturn, 1) = if (x == 0 || x == 1) then some (.inr (.inl (some (.int x)), H)) else none := by
  show (if kI (.int x) && retK (mRet M) (.int x) then _ else none) = _
  rw [hr]; rfl
theorem ret_l {x : Int64} (hr : mRet M = some .long) : aAct2 EE d M pc ls [.long x] H (.lreturn, 1) = some (.inr (.inl (some (.long x)), H)) := by
  show (if kL (.long x) && retK (mRet M) (.long x) then _ else none) = _
  rw [hr]; rfl
theorem ret_d {x : UInt64} (hr : mRet M = some .double) : aAct2 EE d M pc ls [.double x] H (.dreturn, 1) = some (.inr (.inl (some (.double x)), H)) := by
  show (if kD (.double x) && retK (mRet M) (.double x) then _ else none) = _
  rw [hr]; rfl
theorem ret_o {C : String} {a : Nat} (hr : mRet M = some (.object C)) : aAct2 EE d M pc ls [.ref a] H (.areturn, 1) = some (.inr (.inl (some (.ref a)), H)) := by
  show (if kA (.ref a) && retK (mRet M) (.ref a) then _ else none) = _
  rw [hr]; rfl
theorem ret_on {C : String} (hr : mRet M = some (.object C)) : aAct2 EE d M pc ls [.null] H (.areturn, 1) = some (.inr (.inl (some .null), H)) := by
  show (if kA .null && retK (mRet M) .null then _ else none) = _
  rw [hr]; rfl
theorem ret_a {C : FieldType} {a : Nat} (hr : mRet M = some (.array C)) : aAct2 EE d M pc ls [.ref a] H (.areturn, 1) = some (.inr (.inl (some (.ref a)), H)) := by
  show (if kA (.ref a) && retK (mRet M) (.ref a) then _ else none) = _
  rw [hr]; rfl
theorem ret_v (hr : mRet M = none) : aAct2 EE d M pc ls [] H (.return_, 1) = some (.inr (.inl none, H)) := by
  show (if (mRet M).isNone then _ else none) = _
  rw [hr]; rfl
theorem R_zn {il : Instr × Nat} {p : Prop} [Decidable p] {pc' : Nat} {ls' : aLs} {st' : List Value} {H' : aH} (hd : mDec M pc = some il) (h : aAct2 (aE d) d M pc ls st H il = if p then go pc' ls' st' H' else none) : L d M pc ls st H = if p then L d M pc' ls' st' H' else none := by
  rw [L_K hd, h]
  by_cases hp : p
  · rw [if_pos hp, if_pos hp]; rfl
  · rw [if_neg hp, if_neg hp]; rfl
theorem R_ac {il : Instr × Nat} {p q : Prop} [Decidable p] [Decidable q] {pc' pc2 : Nat} {ls' : aLs} {st' : List Value} {H' : aH} (hd : mDec M pc = some il) (h : aAct2 (aE d) d M pc ls st H il = if p then (if q then go pc' ls' st' H' else go pc2 ls' st' H') else none) : L d M pc ls st H = if p then (if q then L d M pc' ls' st' H' else L d M pc2 ls' st' H') else none := by
  rw [L_K hd, h]
  by_cases hp : p
  · rw [if_pos hp, if_pos hp]
    by_cases hq : q
    · rw [if_pos hq, if_pos hq]; rfl
    · rw [if_neg hq, if_neg hq]; rfl
  · rw [if_neg hp, if_neg hp]; rfl
theorem tsw_in {df lo hi o : Int} {offs : Array Int} {x : Int32} {tg : Nat} (h1 : ¬ (x.toInt < lo ∨ hi < x.toInt)) (h2 : offs[(x.toInt - lo).toNat]? = some o) (h3 : aTg pc o = some tg) : aAct2 EE d M pc ls (.int x :: st) H (.tableswitch df lo hi offs, len) = go tg ls st H := by
  show (if x.toInt < lo ∨ hi < x.toInt then _ else (offs[(x.toInt - lo).toNat]?).bind fun o => (aTg pc o).bind fun tg => go tg ls st H) = _
  rw [if_neg h1, h2]
  show (aTg pc o).bind _ = _
  rw [h3]; rfl
theorem tsw_out {df lo hi : Int} {offs : Array Int} {x : Int32} {tg : Nat} (h1 : x.toInt < lo ∨ hi < x.toInt) (h3 : aTg pc df = some tg) : aAct2 EE d M pc ls (.int x :: st) H (.tableswitch df lo hi offs, len) = go tg ls st H := by
  show (if x.toInt < lo ∨ hi < x.toInt then (aTg pc df).bind fun tg => go tg ls st H else _) = _
  rw [if_pos h1, h3]; rfl
end
end
section
/-! ===== a law an instruction ===== -/
theorem tabD {M : Nat} {T : List (Nat × Instr × Nat)} (h : (T.all fun e => decide (mDec M e.1 = some e.2)) = true) (j : Nat) {pc : Nat} {il : Instr × Nat} (he : T[j]? = some (pc, il)) : mDec M pc = some il := by
  have h1 := List.all_eq_true.mp h (pc, il) (List.mem_of_getElem? he)
  simpa only [decide_eq_true_eq] using h1
section
variable {d M pc len tg : Nat} {ls ls' : aLs} {st : List Value} {H : aH} {h : aHf} {r : Nat × Nat × Nat × Nat} {k : Nat} {kf : Fin 4} {x y : Int32} {X Y : Int64} {D E : UInt64} {a b : Nat} {o : Int}
theorem K_ic {n : Int} (hd : mDec M pc = some (.iconst n, 1)) : L d M pc ls st H = L d M (pc + 1) ls (.int (iI n) :: st) H := R_n hd rfl
theorem K_lc0 (hd : mDec M pc = some (.lconst 0, 1)) : L d M pc ls st H = L d M (pc + 1) ls (.long (lI 0) :: st) H := R_n hd rfl
theorem K_lc1 (hd : mDec M pc = some (.lconst 1, 1)) : L d M pc ls st H = L d M (pc + 1) ls (.long (lI 1) :: st) H := R_n hd rfl
theorem K_null (hd : mDec M pc = some (.aconst_null, 1)) : L d M pc ls st H = L d M (pc + 1) ls (.null :: st) H := R_n hd rfl
theorem K_il (hd : mDec M pc = some (.iload k, 2)) (hl : ldL ls k = some (.int x)) : L d M pc ls st H = L d M (pc + 2) ls (.int x :: st) H := R_n hd (by show (ldL ls k).bind _ = _; rw [hl]; rfl)
theorem K_iln (hd : mDec M pc = some (.iload_n kf, 1)) (hl : ldL ls kf = some (.int x)) : L d M pc ls st H = L d M (pc + 1) ls (.int x :: st) H := R_n hd (by show (ldL ls kf).bind _ = _; rw [hl]; rfl)
theorem K_ll (hd : mDec M pc = some (.lload k, 2)) (hl : ldL ls k = some (.long X)) : L d M pc ls st H = L d M (pc + 2) ls (.long X :: st) H := R_n hd (by show (ldL ls k).bind _ = _; rw [hl]; rfl)
theorem K_lln (hd : mDec M pc = some (.lload_n kf, 1)) (hl : ldL ls kf = some (.long X)) : L d M pc ls st H = L d M (pc + 1) ls (.long X :: st) H := R_n hd (by show (ldL ls kf).bind _ = _; rw [hl]; rfl)
theorem K_dl (hd : mDec M pc = some (.dload k, 2)) (hl : ldL ls k = some (.double D)) : L d M pc ls st H = L d M (pc + 2) ls (.double D :: st) H := R_n hd (by show (ldL ls k).bind _ = _; rw [hl]; rfl)
theorem K_dln (hd : mDec M pc = some (.dload_n kf, 1)) (hl : ldL ls kf = some (.double D)) : L d M pc ls st H = L d M (pc + 1) ls (.double D :: st) H := R_n hd (by show (ldL ls kf).bind _ = _; rw [hl]; rfl)
theorem K_al (hd : mDec M pc = some (.aload k, 2)) (hl : ldL ls k = some (.ref a)) : L d M pc ls st H = L d M (pc + 2) ls (.ref a :: st) H := R_n hd (by show (ldL ls k).bind _ = _; rw [hl]; rfl)
theorem K_aln (hd : mDec M pc = some (.aload_n kf, 1)) (hl : ldL ls kf = some (.ref a)) : L d M pc ls st H = L d M (pc + 1) ls (.ref a :: st) H := R_n hd (by show (ldL ls kf).bind _ = _; rw [hl]; rfl)
theorem K_alN (hd : mDec M pc = some (.aload k, 2)) (hl : ldL ls k = some .null) : L d M pc ls st H = L d M (pc + 2) ls (.null :: st) H := R_n hd (by show (ldL ls k).bind _ = _; rw [hl]; rfl)
theorem K_alnN (hd : mDec M pc = some (.aload_n kf, 1)) (hl : ldL ls kf = some .null) : L d M pc ls st H = L d M (pc + 1) ls (.null :: st) H := R_n hd (by show (ldL ls kf).bind _ = _; rw [hl]; rfl)
theorem K_is (hd : mDec M pc = some (.istore k, 2)) (hs : stL ls k (.int x) = some ls') : L d M pc ls (.int x :: st) H = L d M (pc + 2) ls' st H := R_n hd (by show (stL ls k (.int x)).bind _ = _; rw [hs]; rfl)
theorem K_isn (hd : mDec M pc = some (.istore_n kf, 1)) (hs : stL ls kf (.int x) = some ls') : L d M pc ls (.int x :: st) H = L d M (pc + 1) ls' st H := R_n hd (by show (stL ls kf (.int x)).bind _ = _; rw [hs]; rfl)
theorem K_ls (hd : mDec M pc = some (.lstore k, 2)) (hs : stL ls k (.long X) = some ls') : L d M pc ls (.long X :: st) H = L d M (pc + 2) ls' st H := R_n hd (by show (stL ls k (.long X)).bind _ = _; rw [hs]; rfl)
theorem K_lsn (hd : mDec M pc = some (.lstore_n kf, 1)) (hs : stL ls kf (.long X) = some ls') : L d M pc ls (.long X :: st) H = L d M (pc + 1) ls' st H := R_n hd (by show (stL ls kf (.long X)).bind _ = _; rw [hs]; rfl)
theorem K_ds (hd : mDec M pc = some (.dstore k, 2)) (hs : stL ls k (.double D) = some ls') : L d M pc ls (.double D :: st) H = L d M (pc + 2) ls' st H := R_n hd (by show (stL ls k (.double D)).bind _ = _; rw [hs]; rfl)
theorem K_dsn (hd : mDec M pc = some (.dstore_n kf, 1)) (hs : stL ls kf (.double D) = some ls') : L d M pc ls (.double D :: st) H = L d M (pc + 1) ls' st H := R_n hd (by show (stL ls kf (.double D)).bind _ = _; rw [hs]; rfl)
theorem K_as (hd : mDec M pc = some (.astore k, 2)) (hs : stL ls k (.ref a) = some ls') : L d M pc ls (.ref a :: st) H = L d M (pc + 2) ls' st H := R_n hd (by show (stL ls k (.ref a)).bind _ = _; rw [hs]; rfl)
theorem K_asn (hd : mDec M pc = some (.astore_n kf, 1)) (hs : stL ls kf (.ref a) = some ls') : L d M pc ls (.ref a :: st) H = L d M (pc + 1) ls' st H := R_n hd (by show (stL ls kf (.ref a)).bind _ = _; rw [hs]; rfl)
theorem K_asN (hd : mDec M pc = some (.astore k, 2)) (hs : stL ls k .null = some ls') : L d M pc ls (.null :: st) H = L d M (pc + 2) ls' st H := R_n hd (by show (stL ls k .null).bind _ = _; rw [hs]; rfl)
theorem K_asnN (hd : mDec M pc = some (.astore_n kf, 1)) (hs : stL ls kf .null = some ls') : L d M pc ls (.null :: st) H = L d M (pc + 1) ls' st H := R_n hd (by show (stL ls kf .null).bind _ = _; rw [hs]; rfl)
theorem K_inc {n : Int} (hd : mDec M pc = some (.iinc k n, 3)) (hl : ldL ls k = some (.int x)) (hs : stL ls k (.int (x + iI n)) = some ls') : L d M pc ls st H = L d M (pc + 3) ls' st H := R_n hd (by
  show (match ldL ls k with | some (.int x) => (stL ls k (.int (x + Int32.ofInt n))).bind _ | _ => none) = _
  rw [hl]
  show (stL ls k (.int (x + iI n))).bind _ = _
  rw [hs]; rfl)
theorem K_iadd (hd : mDec M pc = some (.iadd, 1)) : L d M pc ls (.int y :: .int x :: st) H = L d M (pc + 1) ls (.int (x + y) :: st) H := R_n hd rfl
theorem K_isub (hd : mDec M pc = some (.isub, 1)) : L d M pc ls (.int y :: .int x :: st) H = L d M (pc + 1) ls (.int (x - y) :: st) H := R_n hd rfl
theorem K_imul (hd : mDec M pc = some (.imul, 1)) : L d M pc ls (.int y :: .int x :: st) H = L d M (pc + 1) ls (.int (x * y) :: st) H := R_n hd rfl
theorem K_iand (hd : mDec M pc = some (.iand, 1)) : L d M pc ls (.int y :: .int x :: st) H = L d M (pc + 1) ls (.int (x &&& y) :: st) H := R_n hd rfl
theorem K_ior (hd : mDec M pc = some (.ior, 1)) : L d M pc ls (.int y :: .int x :: st) H = L d M (pc + 1) ls (.int (x ||| y) :: st) H := R_n hd rfl
theorem K_ixor (hd : mDec M pc = some (.ixor, 1)) : L d M pc ls (.int y :: .int x :: st) H = L d M (pc + 1) ls (.int (x ^^^ y) :: st) H := R_n hd rfl
theorem K_ishl (hd : mDec M pc = some (.ishl, 1)) : L d M pc ls (.int y :: .int x :: st) H = L d M (pc + 1) ls (.int (x <<< (y &&& 31)) :: st) H := R_n hd rfl
theorem K_ishr (hd : mDec M pc = some (.ishr, 1)) : L d M pc ls (.int y :: .int x :: st) H = L d M (pc + 1) ls (.int (x >>> (y &&& 31)) :: st) H := R_n hd rfl
theorem K_iushr (hd : mDec M pc = some (.iushr, 1)) : L d M pc ls (.int y :: .int x :: st) H = L d M (pc + 1) ls (.int ((x.toUInt32 >>> (y.toUInt32 &&& Int32.toUInt32 31)).toInt32) :: st) H := R_n hd rfl
theorem K_ladd (hd : mDec M pc = some (.ladd, 1)) : L d M pc ls (.long Y :: .long X :: st) H = L d M (pc + 1) ls (.long (X + Y) :: st) H := R_n hd rfl
theorem K_lsub (hd : mDec M pc = some (.lsub, 1)) : L d M pc ls (.long Y :: .long X :: st) H = L d M (pc + 1) ls (.long (X - Y) :: st) H := R_n hd rfl
theorem K_lmul (hd : mDec M pc = some (.lmul, 1)) : L d M pc ls (.long Y :: .long X :: st) H = L d M (pc + 1) ls (.long (X * Y) :: st) H := R_n hd rfl
theorem K_land (hd : mDec M pc = some (.land, 1)) : L d M pc ls (.long Y :: .long X :: st) H = L d M (pc + 1) ls (.long (X &&& Y) :: st) H := R_n hd rfl
theorem K_lor (hd : mDec M pc = some (.lor, 1)) : L d M pc ls (.long Y :: .long X :: st) H = L d M (pc + 1) ls (.long (X ||| Y) :: st) H := R_n hd rfl
theorem K_lxor (hd : mDec M pc = some (.lxor, 1)) : L d M pc ls (.long Y :: .long X :: st) H = L d M (pc + 1) ls (.long (X ^^^ Y) :: st) H := R_n hd rfl
theorem K_lshl (hd : mDec M pc = some (.lshl, 1)) : L d M pc ls (.int y :: .long X :: st) H = L d M (pc + 1) ls (.long (X <<< (y.toInt64 &&& 63)) :: st) H := R_n hd rfl
theorem K_lshr (hd : mDec M pc = some (.lshr, 1)) : L d M pc ls (.int y :: .long X :: st) H = L d M (pc + 1) ls (.long (X >>> (y.toInt64 &&& 63)) :: st) H := R_n hd rfl
theorem K_lushr (hd : mDec M pc = some (.lushr, 1)) : L d M pc ls (.int y :: .long X :: st) H = L d M (pc + 1) ls (.long ((X.toUInt64 >>> (y.toInt64.toUInt64 &&& Int64.toUInt64 63)).toInt64) :: st) H := R_n hd rfl
theorem K_ineg (hd : mDec M pc = some (.ineg, 1)) : L d M pc ls (.int x :: st) H = L d M (pc + 1) ls (.int (-x) :: st) H := R_n hd rfl
theorem K_idiv (hd : mDec M pc = some (.idiv, 1)) : L d M pc ls (.int y :: .int x :: st) H = if y = 0 then none else L d M (pc + 1) ls (.int (x / y) :: st) H := R_nz hd rfl
theorem K_irem (hd : mDec M pc = some (.irem, 1)) : L d M pc ls (.int y :: .int x :: st) H = if y = 0 then none else L d M (pc + 1) ls (.int (x - x / y * y) :: st) H := R_nz hd rfl
theorem K_ldiv (hd : mDec M pc = some (.ldiv, 1)) : L d M pc ls (.long Y :: .long X :: st) H = if Y = 0 then none else L d M (pc + 1) ls (.long (X / Y) :: st) H := R_nz hd rfl
theorem K_lcmp (hd : mDec M pc = some (.lcmp, 1)) : L d M pc ls (.long Y :: .long X :: st) H = L d M (pc + 1) ls (.int (lg_cmp X Y) :: st) H := R_n hd rfl
theorem K_i2l (hd : mDec M pc = some (.i2l, 1)) : L d M pc ls (.int x :: st) H = L d M (pc + 1) ls (.long x.toInt64 :: st) H := R_n hd rfl
theorem K_l2i (hd : mDec M pc = some (.l2i, 1)) : L d M pc ls (.long X :: st) H = L d M (pc + 1) ls (.int X.toInt32 :: st) H := R_n hd rfl
theorem K_dupi (hd : mDec M pc = some (.dup, 1)) : L d M pc ls (.int x :: st) H = L d M (pc + 1) ls (.int x :: .int x :: st) H := R_n hd rfl
theorem K_dupa (hd : mDec M pc = some (.dup, 1)) : L d M pc ls (.ref a :: st) H = L d M (pc + 1) ls (.ref a :: .ref a :: st) H := R_n hd rfl
theorem K_popi (hd : mDec M pc = some (.pop, 1)) : L d M pc ls (.int x :: st) H = L d M (pc + 1) ls st H := R_n hd rfl
theorem K_popa (hd : mDec M pc = some (.pop, 1)) : L d M pc ls (.ref a :: st) H = L d M (pc + 1) ls st H := R_n hd rfl
theorem K_dup2 (hd : mDec M pc = some (.dup2, 1)) : L d M pc ls (.int x :: .ref a :: st) H = L d M (pc + 1) ls (.int x :: .ref a :: .int x :: .ref a :: st) H := R_n hd rfl
theorem K_goto (hd : mDec M pc = some (.goto o, 3)) (ht : aTg pc o = some tg) : L d M pc ls st H = L d M tg ls st H := R_n hd (by show (aTg pc o).bind _ = _; rw [ht]; rfl)
theorem K_feq (hd : mDec M pc = some (.ifCond .eq o, 3)) (ht : aTg pc o = some tg) : L d M pc ls (.int x :: st) H = if x = 0 then L d M tg ls st H else L d M (pc + 3) ls st H := R_if hd (by show (aTg pc o).bind _ = _; rw [ht]; rfl)
theorem K_fne (hd : mDec M pc = some (.ifCond .ne o, 3)) (ht : aTg pc o = some tg) : L d M pc ls (.int x :: st) H = if x = 0 then L d M (pc + 3) ls st H else L d M tg ls st H := R_if hd (by show (aTg pc o).bind _ = _; rw [ht]; rfl)
theorem K_flt (hd : mDec M pc = some (.ifCond .lt o, 3)) (ht : aTg pc o = some tg) : L d M pc ls (.int x :: st) H = if x < 0 then L d M tg ls st H else L d M (pc + 3) ls st H := R_if hd (by show (aTg pc o).bind _ = _; rw [ht]; rfl)
theorem K_fge (hd : mDec M pc = some (.ifCond .ge o, 3)) (ht : aTg pc o = some tg) : L d M pc ls (.int x :: st) H = if 0 ≤ x then L d M tg ls st H else L d M (pc + 3) ls st H := R_if hd (by show (aTg pc o).bind _ = _; rw [ht]; rfl)
theorem K_fgt (hd : mDec M pc = some (.ifCond .gt o, 3)) (ht : aTg pc o = some tg) : L d M pc ls (.int x :: st) H = if 0 < x then L d M tg ls st H else L d M (pc + 3) ls st H := R_if hd (by show (aTg pc o).bind _ = _; rw [ht]; rfl)
theorem K_fle (hd : mDec M pc = some (.ifCond .le o, 3)) (ht : aTg pc o = some tg) : L d M pc ls (.int x :: st) H = if x ≤ 0 then L d M tg ls st H else L d M (pc + 3) ls st H := R_if hd (by show (aTg pc o).bind _ = _; rw [ht]; rfl)
theorem K_ceq (hd : mDec M pc = some (.if_icmp .eq o, 3)) (ht : aTg pc o = some tg) : L d M pc ls (.int y :: .int x :: st) H = if x = y then L d M tg ls st H else L d M (pc + 3) ls st H := R_if hd (by show (aTg pc o).bind _ = _; rw [ht]; rfl)
theorem K_cne (hd : mDec M pc = some (.if_icmp .ne o, 3)) (ht : aTg pc o = some tg) : L d M pc ls (.int y :: .int x :: st) H = if x = y then L d M (pc + 3) ls st H else L d M tg ls st H := R_if hd (by show (aTg pc o).bind _ = _; rw [ht]; rfl)
theorem K_clt (hd : mDec M pc = some (.if_icmp .lt o, 3)) (ht : aTg pc o = some tg) : L d M pc ls (.int y :: .int x :: st) H = if x < y then L d M tg ls st H else L d M (pc + 3) ls st H := R_if hd (by show (aTg pc o).bind _ = _; rw [ht]; rfl)
theorem K_cge (hd : mDec M pc = some (.if_icmp .ge o, 3)) (ht : aTg pc o = some tg) : L d M pc ls (.int y :: .int x :: st) H = if y ≤ x then L d M tg ls st H else L d M (pc + 3) ls st H := R_if hd (by show (aTg pc o).bind _ = _; rw [ht]; rfl)
theorem K_cgt (hd : mDec M pc = some (.if_icmp .gt o, 3)) (ht : aTg pc o = some tg) : L d M pc ls (.int y :: .int x :: st) H = if y < x then L d M tg ls st H else L d M (pc + 3) ls st H := R_if hd (by show (aTg pc o).bind _ = _; rw [ht]; rfl)
theorem K_cle (hd : mDec M pc = some (.if_icmp .le o, 3)) (ht : aTg pc o = some tg) : L d M pc ls (.int y :: .int x :: st) H = if x ≤ y then L d M tg ls st H else L d M (pc + 3) ls st H := R_if hd (by show (aTg pc o).bind _ = _; rw [ht]; rfl)
theorem K_nu (hd : mDec M pc = some (.ifnull o, 3)) : L d M pc ls (.ref a :: st) H = L d M (pc + 3) ls st H := R_n hd rfl
theorem K_nuN (hd : mDec M pc = some (.ifnull o, 3)) (ht : aTg pc o = some tg) : L d M pc ls (.null :: st) H = L d M tg ls st H := R_n hd (by show (aTg pc o).bind _ = _; rw [ht]; rfl)
theorem K_nn (hd : mDec M pc = some (.ifnonnull o, 3)) (ht : aTg pc o = some tg) : L d M pc ls (.ref a :: st) H = L d M tg ls st H := R_n hd (by show (aTg pc o).bind _ = _; rw [ht]; rfl)
theorem K_nnN (hd : mDec M pc = some (.ifnonnull o, 3)) : L d M pc ls (.null :: st) H = L d M (pc + 3) ls st H := R_n hd rfl
theorem K_alen (hd : mDec M pc = some (.arraylength, 1)) : L d M pc ls (.ref a :: st) (h, r) = (gN (h a)).bind fun n => L d M (pc + 1) ls (.int (nI n) :: st) (h, r) := R_b hd rfl
theorem K_iald (hd : mDec M pc = some (.iaload, 1)) : L d M pc ls (.int x :: .ref a :: st) (h, r) = (gI (h a) x).bind fun v => L d M (pc + 1) ls (.int v :: st) (h, r) := R_b hd rfl
theorem K_lald (hd : mDec M pc = some (.laload, 1)) : L d M pc ls (.int x :: .ref a :: st) (h, r) = (gL (h a) x).bind fun v => L d M (pc + 1) ls (.long v :: st) (h, r) := R_b hd rfl
theorem K_bald (hd : mDec M pc = some (.baload, 1)) : L d M pc ls (.int x :: .ref a :: st) (h, r) = (gZ (h a) x).bind fun v => L d M (pc + 1) ls (.int v :: st) (h, r) := R_b hd rfl
theorem K_aald (hd : mDec M pc = some (.aaload, 1)) : L d M pc ls (.int x :: .ref a :: st) (h, r) = (gP (h a) x).bind fun v => L d M (pc + 1) ls (v :: st) (h, r) := R_b hd rfl
theorem K_iast (hd : mDec M pc = some (.iastore, 1)) : L d M pc ls (.int y :: .int x :: .ref a :: st) (h, r) = (wr h a (sI (h a) x y)).bind fun h' => L d M (pc + 1) ls st (h', r) := R_b hd rfl
theorem K_bast (hd : mDec M pc = some (.bastore, 1)) : L d M pc ls (.int y :: .int x :: .ref a :: st) (h, r) = (wr h a (sZ (h a) x y)).bind fun h' => L d M (pc + 1) ls st (h', r) := R_b hd rfl
theorem K_last (hd : mDec M pc = some (.lastore, 1)) : L d M pc ls (.long Y :: .int x :: .ref a :: st) (h, r) = (wr h a (sL (h a) x Y)).bind fun h' => L d M (pc + 1) ls st (h', r) := R_b hd rfl
theorem K_aast (hd : mDec M pc = some (.aastore, 1)) : L d M pc ls (.ref b :: .int x :: .ref a :: st) (h, r) = (wr h a (sP (h a) (h b) x b)).bind fun h' => L d M (pc + 1) ls st (h', r) := R_b hd rfl
end
end
section
/-! ===== the tables hold: by program over the claim's words ===== -/
def tbs (c : Nat) : List Jvm.Cond := match c with
  | 0 => k2_sels lw_privs
  | 1 => tables_1_1
  | 2 => tables_1_2
  | 3 => tables_1_3
  | 4 => tables_1_4
  | _ => tables_1_5
/-- a word by its list and its place -/
def tb (p : Nat) : Option Jvm.Cond := (tbs (p / 1000))[p % 1000]?
theorem tb_in {p : Nat} {w : Jvm.Cond} (h : tb p = some w) : w ∈ lw_tbl := by
  have hm : w ∈ tbs (p / 1000) := List.mem_of_getElem? h
  unfold lw_tbl tables_1
  unfold tbs at hm
  split at hm <;> simp only [List.mem_append, hm, true_or, or_true]
def kdOf : FieldType → Nat
  | .int => 0
  | .boolean => 1
  | .long => 2
  | .object _ => 3
  | .array _ => 3
  | .double => 4
  | _ => 9
def chkF (e : Nat × Nat × Nat × Nat × Nat × Nat) : Bool := match e with
  | (oc, k, ci, j, tc, p) => match aCl[ci]?, aON[oc]? with
    | some (C, T, N), some O => decide (tb p = some (.fieldLink O k C (T j).2.1 (T j).2.2.1)) && decide (j < N) && decide ((T j).1 = C) && decide ((parseFieldDescriptor (T j).2.2.1).map kdOf = some tc)
    | _, _ => false
def chkN (e : Nat × Nat × Nat × Nat × Nat × Nat) : Bool := match e with
  | (oc, k, ci, p, q, r) => match aCl[ci]?, aON[oc]?, aFK[ci]? with
    | some (C, T, N), some O, some ks => decide (tb p = some (.classLink O k C)) && decide (tb q = some (.instantiable C N)) && decide (tb r = some (.initialized C)) && decide (ks.length = N) && ks.all (fun t => t != 9) && decide ((List.range N).map (fun j => (parseFieldDescriptor (T j).2.2.1).map kdOf) = ks.map some)
    | _, _, _ => false
def chkC (e : Nat × Nat × String × Nat) : Bool := match e with
  | (oc, k, C, p) => match aON[oc]? with
    | some O => decide (tb p = some (.classLink O k C))
    | _ => false
def chkI (e : Nat × Nat × Int32 × Nat) : Bool := match e with
  | (oc, k, v, p) => match aON[oc]? with
    | some O => decide (tb p = some (.constant O k v))
    | _ => false
def chkL (e : Nat × Nat × Int64 × Nat) : Bool := match e with
  | (oc, k, v, p) => match aON[oc]? with
    | some O => decide (tb p = some (.constantLong O k v))
    | _ => false
def chkG (e : Nat × Nat × Value × Nat × String × String × String) : Bool := match e with
  | (oc, k, _, p, C, n, d) => match aON[oc]? with
    | some O => decide (tb p = some (.fieldLink O k C n d))
    | _ => false
def primY (p : Nat) : MethodName := match p with
  | 1000 => Lib.objectInit
  | 1001 => ⟨"java/lang/System", "arraycopy", "(Ljava/lang/Object;ILjava/lang/Object;II)V"⟩
  | _ => ⟨"jdk/internal/misc/Unsafe", "getLong", "(Ljava/lang/Object;J)J"⟩
def mY (M : Nat) : MethodName := match aRec M with | some r => rY r | none => primY M
def chkK (e : Nat × Nat × Nat × String × Nat) : Bool := match e with
  | (oc, k, M, ho, p) => match aON[oc]? with
    | some O => decide (M ≠ 0) && if ho = "" then decide (tb p = some (.methodLink O k (mY M))) else decide (tb p = some (.methodLinkNest O k (mY M) ho))
    | _ => false
/-- a method's code as a word -/
def cwM (r : aMR) : Jvm.Cond := if rHH r = [] then .code (rY r) (rB r) (rML r) (rRet r) else .codeWith (rY r) (rB r) (rML r) (rRet r) (rHH r)
def chkM (r : aMR) : Bool :=
  decide (tb r.2.2.2.2.2.2.2.2.2.2.2.1 = some (if rKd r = 1 then .static (rY r) else .instanceMethod (rY r)))
  && decide (tb r.2.2.2.2.2.2.2.2.2.2.2.2.1 = some (.initialized (rY r).cls))
  && (if rKd r = 0 then (match aCl[rCi r]? with | some (C, _, _) => decide (C = (rY r).cls) && decide (rCi r ≠ 11) | none => decide (rCi r = 11) && decide ((rY r).cls = "jdk/internal/misc/Unsafe")) && decide (tb r.2.2.2.2.2.2.2.2.2.2.2.2.2 = some (.selects (rY r).cls (rY r) (rY r))) else true)
  && (if rKd r = 2 then decide ((rY r).name = "<init>") && decide (rRet r = none) else true)
  && decide (aON[rOc r]? = some (rY r).cls) && plainFor (rY r)
  && decide ((rY r).cls ≠ "java/lang/invoke/MethodHandle") && decide ((rY r).cls ≠ "java/lang/invoke/VarHandle")
  && decide ((parseMethodDescriptor (rY r).desc).map (fun d => d.parameters.length) = some (rNA r)) && decide (rKd r ≤ 2) && decide (rML r ≤ 150) && (if rHH r = [] then true else decide (rKd r = 1))
theorem okF : aFT.all chkF = true := by decide +kernel
theorem okN : aNT.all chkN = true := by decide +kernel
theorem okC : aCT.all chkC = true := by decide +kernel
theorem okI : aIT.all chkI = true := by decide +kernel
theorem okL : aLT.all chkL = true := by decide +kernel
theorem okG : aGT.all chkG = true := by decide +kernel
theorem okK : aKT.all chkK = true := by decide +kernel
theorem okM : (aMT.drop 1).all chkM = true := by decide +kernel
theorem okMg : aMT.all (fun r => goodWord (cwM r)) = true := by decide +kernel
set_option maxRecDepth 100000 in
theorem okMc : (aMT.drop 1).map (fun r => tb r.2.2.2.2.2.2.2.2.2.2.1) = (aMT.drop 1).map (fun r => some (cwM r)) := by rfl
theorem okU : aCl.all (fun q => (u_ws q.1 q.2.1 q.2.2).all fun w => decide (w ∈ lw_tbl) && goodWord w) = true := by decide +kernel
theorem okA : aCl.all (fun q => (List.range q.2.2).all fun a => (List.range q.2.2).all fun b => a == b || decide ((q.2.1 a).2.1 ≠ (q.2.1 b).2.1)) = true := by decide +kernel
theorem fnd3_mem {α : Type} {l : List (Nat × Nat × α)} {a b : Nat} {z : α} (h : fnd3 l a b = some z) : (a, b, z) ∈ l := by
  induction l with
  | nil => cases h
  | cons q t ih =>
    obtain ⟨x, y, u⟩ := q
    rw [fnd3] at h
    split at h
    next hc =>
      simp only [Bool.and_eq_true, beq_iff_eq] at hc
      obtain ⟨rfl, rfl⟩ := hc
      cases h
      exact List.mem_cons_self
    next => exact List.mem_cons_of_mem _ (ih h)
def chkAT (e : Nat × Nat × String × Nat) : Bool := chkC e && decide (e.2.2.1 = "OvertureDesk$Song")
theorem okAT : aAT.all chkAT = true := by decide +kernel
theorem okUT : aUT.all (fun e => chkC e && decide (e.2.2.1 = "[[I")) = true := by decide +kernel
theorem okH : aKT.all (fun e => decide (e.2.2.2.1 = "") || (match aRec e.2.2.1 with | some r => decide (rHH r = []) | none => true)) = true := by decide +kernel
theorem okH2 : aKT.all (fun e => (aRec e.2.2.1).isSome || decide (1000 ≤ e.2.2.1)) = true := by decide +kernel
end
section
/-! ===== .. further checks ===== -/
def chkP (e : Nat × Nat × Nat × String × Nat) : Bool := decide (e.2.2.1 < 1000) || (decide (e.2.2.2.1 = "") && decide (e.2.2.1 = 1000))
theorem okP : aKT.all chkP = true := by decide +kernel
theorem okOI : Jvm.Cond.instanceMethod Lib.objectInit ∈ lw_tbl ∧ Jvm.Cond.code Lib.objectInit ⟨#[0xb1]⟩ 1 none ∈ lw_tbl := by decide +kernel
theorem okC0 : aCT.all (fun e => decide (e.2.1 ≠ 0)) = true := by decide +kernel
theorem okCC : aCT.all (fun e => decide (e.1 ≠ 0) || decide (Jvm.Cond.castable e.2.2.1 e.2.2.1 ∈ lw_tbl)) = true := by decide +kernel
theorem okHH : (List.range aMT.length).all (fun M => decide (mHH M = []) || decide (mOc M = 0)) = true := by decide +kernel
theorem okHO (M : Nat) (h : mHH M ≠ []) : mOc M = 0 := by
  have hl : M < aMT.length := by
    apply Classical.byContradiction
    intro hn
    apply h
    unfold mHH aRec
    rw [List.getElem?_eq_none (Nat.not_lt.mp hn)]
  have := List.all_eq_true.mp okHH M (List.mem_range.mpr hl)
  simp only [Bool.or_eq_true, decide_eq_true_eq, h, false_or] at this
  exact this
end
section
/-! ===== what the abstract machine's cells say of the heap ===== -/
/-- read only: an array of ints under another type; the library's access to memory -/
def roC (c : aC) : Prop := match c with
  | .inl (ty, _) => ty = .float
  | .inr _ => False
/-- the name of the class of what an array of references holds -/
def rcN : FieldType → String
  | .object C => C
  | t => t.toString
def raK (S0 : State) (cA : ClassId) (ty : FieldType) : Prop := ∃ (kA : Class) (comp : ClassId), S0.vm.classes[cA]? = some kA ∧ kA.kind = .array comp ty ∧ S0.vm.findClass (rcN ty) = some comp
theorem raK.moved {u U : State} (hvm : u.vm.Alike U.vm) {cA : ClassId} {ty : FieldType} (h : raK u cA ty) : raK U cA ty := by
  obtain ⟨kA, comp, h1, h2, h3⟩ := h
  obtain ⟨k', hk', he⟩ := hvm.2.2 _ _ h1
  exact ⟨k', comp, hk', by rw [he]; exact h2, by rw [hvm.findClass]; exact h3⟩
/-- an array of ints or booleans; one that is only read may be any such cell -/
def gI9 (S0 : State) (a : Nat) (ty : FieldType) (N : Nat) (f : Nat → Int32) (H : Heap) : Prop :=
  if ty = .float then ∃ cl : Cell, H[a]? = some cl ∧ S0.isArrayOf cl .int ∧ cl.vm ≠ .unknown ∧ cl.slots.size = N ∧ (∀ j : Nat, j < N → cl.slots[j]? = some (.int (f j))) ∧ N < 2147483648
  else ∃ cA ty', H[a]? = some (arrV cA N (fun j => .int (f j))) ∧ ArrOfT S0 cA ty' ∧ S0.vm.findClass ("[" ++ ty'.toString) = some cA ∧ (ty = ty' ∨ (ty = .float ∧ ty' = .int)) ∧ (ty' = .int ∨ ty' = .boolean) ∧ N < 2147483648
theorem gI9_keep {S0 : State} {a : Nat} {ty : FieldType} {N : Nat} {f : Nat → Int32} {H H1 : Heap} (h : H1[a]? = H[a]?) (k : gI9 S0 a ty N f H) : gI9 S0 a ty N f H1 := by
  unfold gI9 at k ⊢
  rw [h]
  exact k
theorem gI9_rd {S0 : State} {a : Nat} {ty : FieldType} {N : Nat} {f : Nat → Int32} {H : Heap} (k : gI9 S0 a ty N f H) : ∃ (cl : Cell) (ty' : FieldType), H[a]? = some cl ∧ S0.isArrayOf cl ty' ∧ cl.vm ≠ .unknown ∧ cl.slots.size = N ∧ (∀ j : Nat, j < N → cl.slots[j]? = some (.int (f j))) ∧ (ty = ty' ∨ (ty = .float ∧ ty' = .int)) ∧ (ty' = .int ∨ ty' = .boolean) := by
  unfold gI9 at k
  split at k
  next hf =>
    obtain ⟨cl, e1, e2, e3, e4, e5, -⟩ := k
    exact ⟨cl, .int, e1, e2, e3, e4, e5, Or.inr ⟨hf, rfl⟩, Or.inl rfl⟩
  next hf =>
    obtain ⟨cA, ty', e1, e2, -, e4, e5, -⟩ := k
    exact ⟨_, ty', e1, e2 _ _, (fun z => by cases z), arrV_size _ _ _, fun j hj => arrV_read _ _ hj, e4, e5⟩
def obV (_ : Nat) (cell : Cell) : Prop := cell.vm = .none
theorem obV_ns {ci : Nat} {cell : Cell} (h : obV ci cell) : cell.vm.isStatics = false := by
  have h : cell.vm = .none := h
  rw [h]; rfl
theorem obV_nq {ci : Nat} {cell : Cell} (h : obV ci cell) (q : ClassId) : cell.vm ≠ .statics q := fun z => by
  have := obV_ns h
  rw [z] at this
  cases this
theorem ob_mk {ci a N : Nat} {dc : ClassId} {iS : Nat → Nat} {H : Heap} {V : Nat → Value} (h : t_OB a dc N iS H V) : ∃ cell : Cell, H[a]? = some cell ∧ cell.cls = dc ∧ obV ci cell ∧ ∀ k, k < N → cell.slots[iS k]? = some (V k) := by
  obtain ⟨cell, e1, e2, e3, e4⟩ := h
  exact ⟨cell, e1, e2, e3, e4⟩
def gC (D : va_G) (S0 : State) (a : Nat) (c : aC) (H : Heap) : Prop := match c with
  | .inl (ty, N, .inl f) => gI9 S0 a ty N f H
  | .inl (ty, N, .inr (.inl f)) => ∃ cA, H[a]? = some (arrV cA N (fun j => .long (f j))) ∧ ArrOfT S0 cA ty ∧ S0.vm.findClass ("[" ++ ty.toString) = some cA ∧ ty = .long ∧ N < 2147483648
  | .inl (ty, N, .inr (.inr (.inr (.inr f)))) => ∃ cA, H[a]? = some (arrV cA N (fun j => va_rf (f j))) ∧ ArrOfT S0 cA ty ∧ raK S0 cA ty ∧ ty.isReference = true ∧ N < 2147483648
  | .inl _ => False
  | .inr (ci, fs) => ∃ q, aCl[ci]? = some q ∧ fs.length = q.2.2 ∧ ∃ cell : Cell, H[a]? = some cell ∧ cell.cls = D.1 ci ∧ obV ci cell ∧ ∀ k, k < q.2.2 → cell.slots[D.2 ci k]? = some (vp_V fs k)
theorem gC_keep {D : va_G} {S0 : State} {a : Nat} {c : aC} {H H1 : Heap} (h : H1[a]? = H[a]?) (k : gC D S0 a c H) : gC D S0 a c H1 := by
  match c, k with
  | .inl (ty, N, .inl f), k => exact gI9_keep h k
  | .inl (ty, N, .inr (.inl f)), k => obtain ⟨cA, e, k⟩ := k; exact ⟨cA, by rw [h]; exact e, k⟩
  | .inl (ty, N, .inr (.inr (.inr (.inr f)))), k => obtain ⟨cA, e, k⟩ := k; exact ⟨cA, by rw [h]; exact e, k⟩
  | .inr (ci, fs), k => obtain ⟨q, e1, e2, cell, e3, k⟩ := k; exact ⟨q, e1, e2, cell, by rw [h]; exact e3, k⟩
theorem gC_lt {D : va_G} {S0 : State} {a : Nat} {c : aC} {H : Heap} (k : gC D S0 a c H) : a < H.size := by
  match c, k with
  | .inl (ty, N, .inl f), k => obtain ⟨cl, ty', e, -⟩ := gI9_rd k; exact (Array.getElem?_eq_some_iff.mp e).1
  | .inl (ty, N, .inr (.inl f)), k => obtain ⟨cA, e, k⟩ := k; exact (Array.getElem?_eq_some_iff.mp e).1
  | .inl (ty, N, .inr (.inr (.inr (.inr f)))), k => obtain ⟨cA, e, k⟩ := k; exact (Array.getElem?_eq_some_iff.mp e).1
  | .inr (ci, fs), k => obtain ⟨q, e1, e2, ⟨cell, e3, -⟩⟩ := k; exact (Array.getElem?_eq_some_iff.mp e3).1
/-- the relation of the abstract heap to the machine's -/
def gR (D : va_G) (S0 : State) (g0 : Nat × Nat) (H : aH) (Hr : Heap) : Prop :=
  Hr.size = H.2.1 ∧ (∀ a c, H.1 a = some c → gC D S0 a c Hr) ∧ (∀ a c, H.1 a = some c → roC c ∨ S0.heap.size ≤ a) ∧ S0.heap.size ≤ Hr.size ∧ (∀ q : Nat, q < S0.heap.size → Hr[q]? = S0.heap[q]?) ∧ H.2.2.2 = g0
theorem gR_put {D : va_G} {S0 : State} {g0 : Nat × Nat} {h : aHf} {r : Nat × Nat × Nat × Nat} {Hr H1 : Heap} {a : Nat} {c : aC} (hR : gR D S0 g0 (h, r) Hr) (hs : H1.size = Hr.size) (ho : ∀ q : Nat, q ≠ a → H1[q]? = Hr[q]?) (hc : gC D S0 a c H1) (ha : S0.heap.size ≤ a) : gR D S0 g0 (aup h a c, r) H1 := by
  obtain ⟨r1, r2, r3, r4, r5, r6⟩ := hR
  refine ⟨hs.trans r1, fun b e hb => ?_, fun b e hb => ?_, by rw [hs]; exact r4, fun q hq => ?_, r6⟩
  · have hb : aup h a c b = some e := hb
    by_cases hab : b = a
    · subst hab
      rw [aup_s] at hb
      cases hb
      exact hc
    · rw [aup_n hab] at hb
      exact gC_keep (ho b hab) (r2 b e hb)
  · have hb : aup h a c b = some e := hb
    by_cases hab : b = a
    · subst hab; exact Or.inr ha
    · rw [aup_n hab] at hb
      exact r3 b e hb
  · rw [ho q (by omega)]; exact r5 q hq
theorem gR_new {D : va_G} {S0 : State} {g0 : Nat × Nat} {h : aHf} {n w s : Nat} {g : Nat × Nat} {Hr H1 : Heap} {c : aC} (hR : gR D S0 g0 (h, n, w, g) Hr) (hs : H1.size = n + 1) (ho : ∀ q : Nat, q < n → H1[q]? = Hr[q]?) (hc : gC D S0 n c H1) : gR D S0 g0 (aup h n c, n + 1, s, g) H1 := by
  obtain ⟨r1, r2, r3, r4, r5, r6⟩ := hR
  have r1 : Hr.size = n := r1
  refine ⟨hs, fun b e hb => ?_, fun b e hb => ?_, by omega, fun q hq => ?_, r6⟩
  · have hb : aup h n c b = some e := hb
    by_cases hab : b = n
    · subst hab
      rw [aup_s] at hb
      cases hb
      exact hc
    · rw [aup_n hab] at hb
      have := gC_lt (r2 b e hb)
      exact gC_keep (ho b (by omega)) (r2 b e hb)
  · have hb : aup h n c b = some e := hb
    by_cases hab : b = n
    · subst hab; exact Or.inr (by omega)
    · rw [aup_n hab] at hb
      exact r3 b e hb
  · rw [ho q (by omega)]; exact r5 q hq
theorem gR_same {D : va_G} {S0 : State} {g0 : Nat × Nat} {h : aHf} {n w s m : Nat} {g : Nat × Nat} {Hr H1 : Heap} (hR : gR D S0 g0 (h, n, w, g) Hr) (hs : H1.size = m) (hn : n ≤ m) (ho : ∀ q : Nat, q < n → H1[q]? = Hr[q]?) : gR D S0 g0 (h, m, s, g) H1 := by
  obtain ⟨r1, r2, r3, r4, r5, r6⟩ := hR
  have r1 : Hr.size = n := r1
  refine ⟨hs, fun b e hb => ?_, r3, by omega, fun q hq => ?_, r6⟩
  · have := gC_lt (r2 b e hb)
    exact gC_keep (ho b (by omega)) (r2 b e hb)
  · rw [ho q (by omega)]; exact r5 q hq
/-! locals -/
def LR (nL : Nat) (ls : aLs) (lsr : Array Slot) : Prop := ls.length = nL ∧ ∃ lv, lv_has lsr nL lv ∧ ∀ i v, ls[i]? = some (some v) → (i, v) ∈ lv
theorem LR_ld {nL : Nat} {ls : aLs} {lsr : Array Slot} {k : Nat} {v : Value} (h : LR nL ls lsr) (hl : ldL ls k = some v) : lsr[k]? = some (.val v) := by
  obtain ⟨-, lv, h1, h2⟩ := h
  unfold ldL at hl
  split at hl
  next u hu =>
    cases hl
    exact h1.2.2 (k, v) (h2 k v hu)
  next => cases hl
theorem LR_size {nL : Nat} {ls : aLs} {lsr : Array Slot} (h : LR nL ls lsr) : lsr.size = nL := by
  obtain ⟨-, lv, h1, h2⟩ := h
  exact h1.1
theorem kl_some {x : Option Value} {v : Value} (h : klL x = some v) : x = some v ∧ v.category = 1 := by
  match x, h with
  | some (.int _), h => cases h; exact ⟨rfl, rfl⟩
  | some (.float _), h => cases h; exact ⟨rfl, rfl⟩
  | some .null, h => cases h; exact ⟨rfl, rfl⟩
  | some (.ref _), h => cases h; exact ⟨rfl, rfl⟩
  | some (.retAddr _), h => cases h; exact ⟨rfl, rfl⟩
theorem klA_at {ls : aLs} {k i : Nat} {v : Value} (h : (klA ls k)[i]? = some (some v)) : ls[i]? = some (some v) ∧ (i + 1 = k → v.category = 1) := by
  cases k with
  | zero => exact ⟨h, fun e => by omega⟩
  | succ j =>
    have h : (ls.modify j klL)[i]? = some (some v) := h
    rw [List.getElem?_modify] at h
    cases hx : ls[i]? with
    | none => rw [hx] at h; cases h
    | some x =>
      rw [hx] at h
      have h' : (if j = i then klL x else x) = some v := Option.some.inj h
      by_cases e : j = i
      · subst e
        rw [if_pos rfl] at h'
        obtain ⟨h1, h2⟩ := kl_some h'
        exact ⟨by rw [h1], fun _ => h2⟩
      · rw [if_neg e] at h'
        exact ⟨by rw [h'], fun q => by omega⟩
theorem klA_len {ls : aLs} {k : Nat} : (klA ls k).length = ls.length := by
  cases k with
  | zero => rfl
  | succ j => exact List.length_modify ..
theorem LR_st {nL : Nat} {ls ls' : aLs} {lsr : Array Slot} {k : Nat} {v : Value} (h : LR nL ls lsr) (hs : stL ls k v = some ls') : (v.category = 1 → k < nL ∧ ∀ lv lsr', lv_has lsr nL lv → (∀ i u, ls[i]? = some (some u) → (i, u) ∈ lv) → lv_has lsr' nL ((k, v) :: lv.filter (fun q => !(q.1 == k) && !(q.1 + 1 == k && q.2.category == 2))) → LR nL ls' lsr')
    ∧ (v.category = 2 → k + 1 < nL ∧ ∀ lv lsr', lv_has lsr nL lv → (∀ i u, ls[i]? = some (some u) → (i, u) ∈ lv) → lv_has lsr' nL ((k, v) :: lv.filter (fun q => !(q.1 == k) && (!(q.1 == k + 1) && !(q.1 + 1 == k && q.2.category == 2)))) → LR nL ls' lsr') := by
  obtain ⟨hlen, -⟩ := h
  unfold stL at hs
  constructor
  · intro hc
    rw [if_neg (by omega)] at hs
    split at hs
    next hk =>
      cases hs
      refine ⟨by omega, fun lv lsr' _ hin hl => ⟨by unfold stL1; rw [List.length_set, klA_len]; exact hlen, _, hl, fun i u hu => ?_⟩⟩
      unfold stL1 at hu
      by_cases e : k = i
      · subst e
        rw [List.getElem?_set_self (by rw [klA_len]; omega)] at hu
        cases hu
        exact List.mem_cons_self
      · rw [List.getElem?_set_ne e] at hu
        obtain ⟨h1, h2⟩ := klA_at hu
        refine List.mem_cons_of_mem _ (List.mem_filter.mpr ⟨hin i u h1, ?_⟩)
        by_cases e2 : i + 1 = k
        · simp [h2 e2, Ne.symm e]
        · simp [e2, Ne.symm e]
    next => cases hs
  · intro hc
    rw [if_pos hc] at hs
    split at hs
    next hk =>
      cases hs
      refine ⟨by omega, fun lv lsr' _ hin hl => ⟨by unfold stL2; rw [List.length_set, List.length_set, klA_len]; exact hlen, _, hl, fun i u hu => ?_⟩⟩
      unfold stL2 at hu
      by_cases e0 : k + 1 = i
      · subst e0
        rw [List.getElem?_set_self (by rw [List.length_set, klA_len]; omega)] at hu
        cases hu
      · rw [List.getElem?_set_ne e0] at hu
        by_cases e : k = i
        · subst e
          rw [List.getElem?_set_self (by rw [klA_len]; omega)] at hu
          cases hu
          exact List.mem_cons_self
        · rw [List.getElem?_set_ne e] at hu
          obtain ⟨h1, h2⟩ := klA_at hu
          refine List.mem_cons_of_mem _ (List.mem_filter.mpr ⟨hin i u h1, ?_⟩)
          by_cases e2 : i + 1 = k
          · simp [h2 e2, Ne.symm e, Ne.symm e0]
          · simp [e2, Ne.symm e, Ne.symm e0]
    next => cases hs
/-- a local that is forgotten -/
theorem LR_un {nL : Nat} {ls : aLs} {lsr : Array Slot} {k a : Nat} (h : LR nL ls lsr) (hk : k < ls.length) : k < nL ∧ ∀ lv lsr', lv_has lsr nL lv → (∀ i u, ls[i]? = some (some u) → (i, u) ∈ lv) → lv_has lsr' nL ((k, .ref a) :: lv.filter (fun q => !(q.1 == k) && !(q.1 + 1 == k && q.2.category == 2))) → LR nL ((klA ls k).set k none) lsr' := by
  obtain ⟨hlen, -⟩ := h
  refine ⟨by omega, fun lv lsr' _ hin hl => ⟨by rw [List.length_set, klA_len]; exact hlen, _, hl, fun i u hu => ?_⟩⟩
  by_cases e : k = i
  · subst e
    rw [List.getElem?_set_self (by rw [klA_len]; omega)] at hu
    cases hu
  · rw [List.getElem?_set_ne e] at hu
    obtain ⟨h1, h2⟩ := klA_at hu
    refine List.mem_cons_of_mem _ (List.mem_filter.mpr ⟨hin i u h1, ?_⟩)
    by_cases e2 : i + 1 = k
    · simp [h2 e2, Ne.symm e]
    · simp [e2, Ne.symm e]
theorem entA_at : ∀ (vs : List Value) (j i : Nat) (v : Value), (entA vs)[i]? = some (some v) → (j + i, v) ∈ lv_args j vs
  | [], _, i, _, h => by simp [entA] at h
  | u :: vs, j, i, v, h => by
    unfold entA at h
    unfold lv_args
    split at h
    next hc =>
      match i, h with
      | 0, h => cases h; exact List.mem_cons_self
      | 1, h => cases h
      | i + 2, h =>
        have h : (entA vs)[i]? = some (some v) := h
        have := entA_at vs (j + 2) i v h
        rw [if_pos hc]
        refine List.mem_cons_of_mem _ ?_
        have e : j + (i + 2) = j + 2 + i := by omega
        rw [e]; exact this
    next hc =>
      match i, h with
      | 0, h => cases h; exact List.mem_cons_self
      | i + 1, h =>
        have h : (entA vs)[i]? = some (some v) := h
        have := entA_at vs (j + 1) i v h
        rw [if_neg hc]
        refine List.mem_cons_of_mem _ ?_
        have e : j + (i + 1) = j + 1 + i := by omega
        rw [e]; exact this
theorem entA_sl : ∀ vs : List Value, (lg_sl vs).length = (entA vs).length
  | [] => rfl
  | v :: vs => by
    have ih := entA_sl vs
    unfold entA
    cases v <;> simp_all [lg_sl, Value.category]
theorem LR_ent {vs : List Value} {n : Nat} (h : (entA vs).length ≤ n) : LR n (entL vs n) ((lg_sl vs ++ List.replicate (n - (lg_sl vs).length) Slot.unset).toArray) := by
  refine ⟨by unfold entL; simp; omega, _, lv_entry vs (by rw [entA_sl]; exact h), fun i v hv => ?_⟩
  unfold entL at hv
  rw [List.getElem?_append] at hv
  split at hv
  · have := entA_at vs 0 i v hv
    rwa [Nat.zero_add] at this
  · rw [List.getElem?_replicate] at hv
    split at hv <;> cases hv
end
section
/-! ===== one step of the abstract machine is the machine's ===== -/
/-- the library's access to memory: an object from before the start -/
def unsF (_ : State) (_ : Nat × Nat) : Prop := True
/-- what stays of an invocation of method M: the machine, its code, its class, the tables at the law's start S0 -/
def aCx (p : Program) (s : State) (m : MethodId) (meth : Method) (c : Code) (S0 : State) (D : va_G) (g0 : Nat × Nat) (M : Nat) : Prop :=
  p.tables.exec = Jvm.exec ∧ (∀ pc il, mDec M pc = some il → decode c.code pc = .ok il) ∧ c.maxLocals = mML M ∧ (∃ O, aON[mOc M]? = some O ∧ s.vm.findClass O = some m.cls) ∧ S0.WarmedH s.vm ∧ (∃ A0, ∀ w ∈ lw_tbl, w.before A0 S0 = true) ∧
  (∀ (k : Nat) (q : vw_C), aCl[k]? = some q → u_Kn S0 q.1 q.2.1 q.2.2 (D.1 k) (D.2 k)) ∧ meth.name = mNm M ∧
  ((∀ q ∈ aGT, va_Z q.2.2.2.2.1 q.2.2.2.2.2.1 q.2.2.2.2.2.2 (gsV (fun _ => none, 0, 0, g0) q.2.2.1) (fun a => S0.heap.size ≤ a) S0 S0.heap) ∧ unsF S0 g0) ∧
  (∀ ty, ty = FieldType.int ∨ ty = .long → (Jvm.Cond.arrayClass ty) ∈ lw_tbl) ∧ (Jvm.Cond.arrayOver (.object "OvertureDesk$Song")) ∈ lw_tbl ∧ True ∧ S0.vm.Alike s.vm
def Wq (p : Program) (l : Launch) (e : Env) (R : Room) (s : State) (m : MethodId) (args : Array Value) (below : List Frame) (meth : Method) (c : Code) (Q : State → Prop) (S0 : State) (D : va_G) (g0 : Nat × Nat) (nL n0 w0 : Nat) (q : aQ) : Prop :=
  ∀ (Hr : Heap) (lsr : Array Slot) (locs : List Loc), gR D S0 g0 q.2.2.2 Hr → LR nL q.2.1 lsr → (∀ z ∈ locs, S0.heap.size ≤ z.base) → W p l e R s m args below meth c Hr locs (q.2.2.2.2.1 - n0) (q.2.2.2.2.2.1 - w0) Q (F0 m q.1 lsr q.2.2.1)
theorem okT : aCl.all (fun q => (List.range q.2.2).all fun a => (parseFieldDescriptor (q.2.1 a).2.2.1).isSome) = true := by decide +kernel
theorem ldL_at {ls : aLs} {k : Nat} {v : Value} (h : ldL ls k = some v) : ls[k]? = some (some v) := by
  unfold ldL at h
  cases hx : ls[k]? with
  | none => rw [hx] at h; cases h
  | some x =>
    rw [hx] at h
    cases x with
    | none => cases h
    | some u => cases h; rfl
theorem go_inj {pc : Nat} {ls : aLs} {st : List Value} {H : aH} {q : aQ} (h : go pc ls st H = some (.inl q)) : q = (pc, ls, st, H) := by
  unfold go at h
  exact (Sum.inl.inj (Option.some.inj h)).symm
theorem aTg_ok {pc tg : Nat} {o : Int} (h : aTg pc o = some tg) : (pc : Int) + o = (tg : Int) := by
  unfold aTg at h
  split at h
  next hp => cases h; omega
  next => cases h
theorem inB_ok {i : Int32} {N : Nat} (h : inB i N = true) : ¬ (i < 0 ∨ N ≤ i.toNatClampNeg) ∧ i.toNatClampNeg < N := by
  unfold inB at h
  simp only [Bool.and_eq_true, Bool.not_eq_true', decide_eq_false_iff_not, decide_eq_true_eq] at h
  exact ⟨fun q => q.elim h.1 (fun q => by omega), h.2⟩
theorem fitK_ok {tc : Nat} {v : Value} {ty : FieldType} (h : fitK tc v = true) (ht : kdOf ty = tc) : narrow ty v = v ∧ fits ty v = true := by
  subst ht
  cases ty <;> cases v <;> simp_all [kdOf, fitK]
  all_goals first
    | exact ⟨rfl, rfl⟩
    | (rcases h with h | h <;> subst h <;> exact ⟨by decide, by decide⟩)
    | trivial
section
variable {p : Program} {l : Launch} {e : Env} {R : Room} {s : State} {m : MethodId} {args : Array Value} {below : List Frame} {meth : Method} {c : Code} {Q : State → Prop} {S0 : State} {D : va_G} {g0 : Nat × Nat} {M n0 w0 : Nat}
theorem cx_word (C : aCx p s m meth c S0 D g0 M) {w : Jvm.Cond} (hw : w ∈ lw_tbl) (hg : goodWord w = true) (a' : Array Value) (U : State) (hU : S0.WarmedH U.vm) : w.before a' U = true := by
  obtain ⟨-, -, -, -, -, ⟨A0, h⟩, -⟩ := C
  exact word_at hU (good_of_word hg) (h w hw)
theorem cx_tb (C : aCx p s m meth c S0 D g0 M) {j : Nat} {w : Jvm.Cond} (hw : tb j = some w) (hg : goodWord w = true) : w.before args s = true :=
  cx_word C (tb_in hw) hg args s C.2.2.2.2.1
theorem cx_u (C : aCx p s m meth c S0 D g0 M) {k : Nat} {q : vw_C} (hq : aCl[k]? = some q) : ∀ w ∈ u_ws q.1 q.2.1 q.2.2, w.before args s = true := by
  intro w hw
  have h := List.all_eq_true.mp (List.all_eq_true.mp okU _ (List.mem_of_getElem? hq)) w hw
  simp only [Bool.and_eq_true, decide_eq_true_eq] at h
  exact cx_word C h.1 h.2 args s C.2.2.2.2.1
theorem cx_Kn (C : aCx p s m meth c S0 D g0 M) {k : Nat} {q : vw_C} (hq : aCl[k]? = some q) : u_Kn s q.1 q.2.1 q.2.2 (D.1 k) (D.2 k) :=
  u_Kn_moved C.2.2.2.2.2.2.2.2.2.2.2.2 (C.2.2.2.2.2.2.1 k q hq)
theorem cx_ty {k : Nat} {q : vw_C} (hq : aCl[k]? = some q) {x : Nat} (hx : x < q.2.2) : ∃ ty, parseFieldDescriptor (q.2.1 x).2.2.1 = some ty := by
  have h := List.all_eq_true.mp (List.all_eq_true.mp okT _ (List.mem_of_getElem? hq)) x (List.mem_range.mpr hx)
  exact Option.isSome_iff_exists.mp h
theorem cx_ap (C : aCx p s m meth c S0 D g0 M) {k : Nat} {q : vw_C} (hq : aCl[k]? = some q) : ∀ x y, x < q.2.2 → y < q.2.2 → x ≠ y → (D.2 k) x ≠ (D.2 k) y := by
  intro x y hx hy hne
  obtain ⟨hS, -⟩ := cx_Kn C hq
  obtain ⟨_, _, _, fa, hia, ea⟩ := hS x hx
  obtain ⟨_, _, _, fb, hib, eb⟩ := hS y hy
  rw [← ea, ← eb]
  have hw := cx_u (args := #[]) C hq
  have hn := List.all_eq_true.mp (List.all_eq_true.mp (List.all_eq_true.mp okA _ (List.mem_of_getElem? hq)) x (List.mem_range.mpr hx)) y (List.mem_range.mpr hy)
  simp only [Bool.or_eq_true, beq_iff_eq, decide_eq_true_eq, hne, false_or] at hn
  refine u_apart (u_lays hw (fun w h => h) hx) (u_lays hw (fun w h => h) hy) hia hib ?_
  obtain ⟨tx, htx⟩ := cx_ty hq hx
  obtain ⟨ty, hty⟩ := cx_ty hq hy
  rw [(State.fieldFound?_type hia htx).1, (State.fieldFound?_type hib hty).1]
  exact hn

theorem st_iconst (C : aCx p s m meth c S0 D g0 M) {pc : Nat} {ls : aLs} {st : List Value} {H : aH} {q : aQ} {n : Int} (hm : mDec M pc = some (.iconst n, 1)) (h : aS M pc 1 (.iconst n) ls st H = some (.inl q)) (k : Wq p l e R s m args below meth c Q S0 D g0 (mML M) n0 w0 q) : Wq p l e R s m args below meth c Q S0 D g0 (mML M) n0 w0 (pc, ls, st, H) := by
  have hd := C.2.1 pc _ hm
  have hx := C.1
  have h := go_inj (show go _ _ _ _ = _ from h)
  subst h
  intro Hr lsr locs hR hL hl
  exact lv_iconst hx rfl hd rfl (k Hr lsr locs hR hL hl)
theorem st_bipush (C : aCx p s m meth c S0 D g0 M) {pc : Nat} {ls : aLs} {st : List Value} {H : aH} {q : aQ} {n : Int} (hm : mDec M pc = some (.bipush n, 2)) (h : aS M pc 2 (.bipush n) ls st H = some (.inl q)) (k : Wq p l e R s m args below meth c Q S0 D g0 (mML M) n0 w0 q) : Wq p l e R s m args below meth c Q S0 D g0 (mML M) n0 w0 (pc, ls, st, H) := by
  have hd := C.2.1 pc _ hm
  have hx := C.1
  have h := go_inj (show go _ _ _ _ = _ from h)
  subst h
  intro Hr lsr locs hR hL hl
  exact lv_bipush hx rfl hd rfl (k Hr lsr locs hR hL hl)
theorem st_sipush (C : aCx p s m meth c S0 D g0 M) {pc : Nat} {ls : aLs} {st : List Value} {H : aH} {q : aQ} {n : Int} (hm : mDec M pc = some (.sipush n, 3)) (h : aS M pc 3 (.sipush n) ls st H = some (.inl q)) (k : Wq p l e R s m args below meth c Q S0 D g0 (mML M) n0 w0 q) : Wq p l e R s m args below meth c Q S0 D g0 (mML M) n0 w0 (pc, ls, st, H) := by
  have hd := C.2.1 pc _ hm
  have hx := C.1
  have h := go_inj (show go _ _ _ _ = _ from h)
  subst h
  intro Hr lsr locs hR hL hl
  exact lv_sipush hx rfl hd rfl (k Hr lsr locs hR hL hl)
theorem st_lconst (C : aCx p s m meth c S0 D g0 M) {pc : Nat} {ls : aLs} {st : List Value} {H : aH} {q : aQ} {n : Fin 2} (hm : mDec M pc = some (.lconst n, 1)) (h : aS M pc 1 (.lconst n) ls st H = some (.inl q)) (k : Wq p l e R s m args below meth c Q S0 D g0 (mML M) n0 w0 q) : Wq p l e R s m args below meth c Q S0 D g0 (mML M) n0 w0 (pc, ls, st, H) := by
  have hd := C.2.1 pc _ hm
  have hx := C.1
  have h := go_inj (show go _ _ _ _ = _ from h)
  subst h
  intro Hr lsr locs hR hL hl
  exact lv_lconst hx rfl hd rfl (k Hr lsr locs hR hL hl)
theorem st_null (C : aCx p s m meth c S0 D g0 M) {pc : Nat} {ls : aLs} {st : List Value} {H : aH} {q : aQ}  (hm : mDec M pc = some (.aconst_null, 1)) (h : aS M pc 1 .aconst_null ls st H = some (.inl q)) (k : Wq p l e R s m args below meth c Q S0 D g0 (mML M) n0 w0 q) : Wq p l e R s m args below meth c Q S0 D g0 (mML M) n0 w0 (pc, ls, st, H) := by
  have hd := C.2.1 pc _ hm
  have hx := C.1
  have h := go_inj (show go _ _ _ _ = _ from h)
  subst h
  intro Hr lsr locs hR hL hl
  exact lv_null hx rfl hd (k Hr lsr locs hR hL hl)
theorem st_dconst (C : aCx p s m meth c S0 D g0 M) {pc : Nat} {ls : aLs} {st : List Value} {H : aH} {q : aQ} {n : Fin 2} (hm : mDec M pc = some (.dconst n, 1)) (h : aS M pc 1 (.dconst n) ls st H = some (.inl q)) (k : Wq p l e R s m args below meth c Q S0 D g0 (mML M) n0 w0 q) : Wq p l e R s m args below meth c Q S0 D g0 (mML M) n0 w0 (pc, ls, st, H) := by
  have hd := C.2.1 pc _ hm
  have hx := C.1
  have h : (if n = 0 then go _ _ _ _ else none) = _ := h
  split at h
  next hn =>
    subst hn
    have h := go_inj h
    subst h
    intro Hr lsr locs hR hL hl
    exact lv_dconst0 hx rfl hd (k Hr lsr locs hR hL hl)
  next => cases h
theorem st_ldc (C : aCx p s m meth c S0 D g0 M) {pc : Nat} {ls : aLs} {st : List Value} {H : aH} {q : aQ} {j : Nat} (hm : mDec M pc = some (.ldc j, 2)) (h : aS M pc 2 (.ldc j) ls st H = some (.inl q)) (k : Wq p l e R s m args below meth c Q S0 D g0 (mML M) n0 w0 q) : Wq p l e R s m args below meth c Q S0 D g0 (mML M) n0 w0 (pc, ls, st, H) := by
  have hd := C.2.1 pc _ hm
  have hx := C.1
  have h : (fnd3 aIT (mOc M) j).bind _ = _ := h
  cases hf : fnd3 aIT (mOc M) j with
  | none => rw [hf] at h; cases h
  | some v =>
    rw [hf] at h
    have h := go_inj (show go _ _ _ _ = _ from h)
    subst h
    obtain ⟨v, j9⟩ := v
    have hk := List.all_eq_true.mp okI _ (fnd3_mem hf)
    obtain ⟨O, hO, hown⟩ := C.2.2.2.1
    simp only [chkI, hO, decide_eq_true_eq] at hk
    intro Hr lsr locs hR hL hl
    exact lv_ldc hx rfl hown (cx_tb C hk rfl) hd (k Hr lsr locs hR hL hl)
theorem st_ldcw (C : aCx p s m meth c S0 D g0 M) {pc : Nat} {ls : aLs} {st : List Value} {H : aH} {q : aQ} {j : Nat} (hm : mDec M pc = some (.ldc_w j, 3)) (h : aS M pc 3 (.ldc_w j) ls st H = some (.inl q)) (k : Wq p l e R s m args below meth c Q S0 D g0 (mML M) n0 w0 q) : Wq p l e R s m args below meth c Q S0 D g0 (mML M) n0 w0 (pc, ls, st, H) := by
  have hd := C.2.1 pc _ hm
  have hx := C.1
  have h : (fnd3 aIT (mOc M) j).bind _ = _ := h
  cases hf : fnd3 aIT (mOc M) j with
  | none => rw [hf] at h; cases h
  | some v =>
    rw [hf] at h
    have h := go_inj (show go _ _ _ _ = _ from h)
    subst h
    obtain ⟨v, j9⟩ := v
    have hk := List.all_eq_true.mp okI _ (fnd3_mem hf)
    obtain ⟨O, hO, hown⟩ := C.2.2.2.1
    simp only [chkI, hO, decide_eq_true_eq] at hk
    intro Hr lsr locs hR hL hl
    exact lv_ldcw hx rfl hown (cx_tb C hk rfl) hd (k Hr lsr locs hR hL hl)
theorem st_ldc2 (C : aCx p s m meth c S0 D g0 M) {pc : Nat} {ls : aLs} {st : List Value} {H : aH} {q : aQ} {j : Nat} (hm : mDec M pc = some (.ldc2_w j, 3)) (h : aS M pc 3 (.ldc2_w j) ls st H = some (.inl q)) (k : Wq p l e R s m args below meth c Q S0 D g0 (mML M) n0 w0 q) : Wq p l e R s m args below meth c Q S0 D g0 (mML M) n0 w0 (pc, ls, st, H) := by
  have hd := C.2.1 pc _ hm
  have hx := C.1
  have h : (fnd3 aLT (mOc M) j).bind _ = _ := h
  cases hf : fnd3 aLT (mOc M) j with
  | none => rw [hf] at h; cases h
  | some v =>
    rw [hf] at h
    have h := go_inj (show go _ _ _ _ = _ from h)
    subst h
    obtain ⟨v, j9⟩ := v
    have hk := List.all_eq_true.mp okL _ (fnd3_mem hf)
    obtain ⟨O, hO, hown⟩ := C.2.2.2.1
    simp only [chkL, hO, decide_eq_true_eq] at hk
    intro Hr lsr locs hR hL hl
    exact lv_ldc2 hx rfl hown (cx_tb C hk rfl) hd (k Hr lsr locs hR hL hl)
theorem st_iload (C : aCx p s m meth c S0 D g0 M) {pc : Nat} {ls : aLs} {st : List Value} {H : aH} {q : aQ} {j : Nat} (hm : mDec M pc = some (.iload j, 2)) (h : aS M pc 2 (.iload j) ls st H = some (.inl q)) (k : Wq p l e R s m args below meth c Q S0 D g0 (mML M) n0 w0 q) : Wq p l e R s m args below meth c Q S0 D g0 (mML M) n0 w0 (pc, ls, st, H) := by
  have hd := C.2.1 pc _ hm
  have hx := C.1
  have h : (ldL ls j).bind _ = _ := h
  cases hf : ldL ls j with
  | none => rw [hf] at h; cases h
  | some v =>
    rw [hf] at h
    cases v with
    | int x =>
      have h := go_inj (show go _ _ _ _ = _ from h)
      subst h
      intro Hr lsr locs hR hL hl
      exact lv_iload hx rfl hd (LR_ld hL hf) (k Hr lsr locs hR hL hl)
    | _ => cases h
theorem st_lload (C : aCx p s m meth c S0 D g0 M) {pc : Nat} {ls : aLs} {st : List Value} {H : aH} {q : aQ} {j : Nat} (hm : mDec M pc = some (.lload j, 2)) (h : aS M pc 2 (.lload j) ls st H = some (.inl q)) (k : Wq p l e R s m args below meth c Q S0 D g0 (mML M) n0 w0 q) : Wq p l e R s m args below meth c Q S0 D g0 (mML M) n0 w0 (pc, ls, st, H) := by
  have hd := C.2.1 pc _ hm
  have hx := C.1
  have h : (ldL ls j).bind _ = _ := h
  cases hf : ldL ls j with
  | none => rw [hf] at h; cases h
  | some v =>
    rw [hf] at h
    cases v with
    | long x =>
      have h := go_inj (show go _ _ _ _ = _ from h)
      subst h
      intro Hr lsr locs hR hL hl
      exact lv_lload hx rfl hd (LR_ld hL hf) (k Hr lsr locs hR hL hl)
    | _ => cases h
theorem st_dload (C : aCx p s m meth c S0 D g0 M) {pc : Nat} {ls : aLs} {st : List Value} {H : aH} {q : aQ} {j : Nat} (hm : mDec M pc = some (.dload j, 2)) (h : aS M pc 2 (.dload j) ls st H = some (.inl q)) (k : Wq p l e R s m args below meth c Q S0 D g0 (mML M) n0 w0 q) : Wq p l e R s m args below meth c Q S0 D g0 (mML M) n0 w0 (pc, ls, st, H) := by
  have hd := C.2.1 pc _ hm
  have hx := C.1
  have h : (ldL ls j).bind _ = _ := h
  cases hf : ldL ls j with
  | none => rw [hf] at h; cases h
  | some v =>
    rw [hf] at h
    cases v with
    | double x =>
      have h := go_inj (show go _ _ _ _ = _ from h)
      subst h
      intro Hr lsr locs hR hL hl
      exact lv_dload hx rfl hd (LR_ld hL hf) (k Hr lsr locs hR hL hl)
    | _ => cases h
theorem st_iloadn (C : aCx p s m meth c S0 D g0 M) {pc : Nat} {ls : aLs} {st : List Value} {H : aH} {q : aQ} {j : Fin 4} (hm : mDec M pc = some (.iload_n j, 1)) (h : aS M pc 1 (.iload_n j) ls st H = some (.inl q)) (k : Wq p l e R s m args below meth c Q S0 D g0 (mML M) n0 w0 q) : Wq p l e R s m args below meth c Q S0 D g0 (mML M) n0 w0 (pc, ls, st, H) := by
  have hd := C.2.1 pc _ hm
  have hx := C.1
  have h : (ldL ls j).bind _ = _ := h
  cases hf : ldL ls j with
  | none => rw [hf] at h; cases h
  | some v =>
    rw [hf] at h
    cases v with
    | int x =>
      have h := go_inj (show go _ _ _ _ = _ from h)
      subst h
      intro Hr lsr locs hR hL hl
      exact lv_iload_n hx rfl hd rfl (LR_ld hL hf) (k Hr lsr locs hR hL hl)
    | _ => cases h
theorem st_lloadn (C : aCx p s m meth c S0 D g0 M) {pc : Nat} {ls : aLs} {st : List Value} {H : aH} {q : aQ} {j : Fin 4} (hm : mDec M pc = some (.lload_n j, 1)) (h : aS M pc 1 (.lload_n j) ls st H = some (.inl q)) (k : Wq p l e R s m args below meth c Q S0 D g0 (mML M) n0 w0 q) : Wq p l e R s m args below meth c Q S0 D g0 (mML M) n0 w0 (pc, ls, st, H) := by
  have hd := C.2.1 pc _ hm
  have hx := C.1
  have h : (ldL ls j).bind _ = _ := h
  cases hf : ldL ls j with
  | none => rw [hf] at h; cases h
  | some v =>
    rw [hf] at h
    cases v with
    | long x =>
      have h := go_inj (show go _ _ _ _ = _ from h)
      subst h
      intro Hr lsr locs hR hL hl
      exact lv_lload_n hx rfl hd rfl (LR_ld hL hf) (k Hr lsr locs hR hL hl)
    | _ => cases h
theorem st_dloadn (C : aCx p s m meth c S0 D g0 M) {pc : Nat} {ls : aLs} {st : List Value} {H : aH} {q : aQ} {j : Fin 4} (hm : mDec M pc = some (.dload_n j, 1)) (h : aS M pc 1 (.dload_n j) ls st H = some (.inl q)) (k : Wq p l e R s m args below meth c Q S0 D g0 (mML M) n0 w0 q) : Wq p l e R s m args below meth c Q S0 D g0 (mML M) n0 w0 (pc, ls, st, H) := by
  have hd := C.2.1 pc _ hm
  have hx := C.1
  have h : (ldL ls j).bind _ = _ := h
  cases hf : ldL ls j with
  | none => rw [hf] at h; cases h
  | some v =>
    rw [hf] at h
    cases v with
    | double x =>
      have h := go_inj (show go _ _ _ _ = _ from h)
      subst h
      intro Hr lsr locs hR hL hl
      exact lv_dload_n hx rfl hd rfl (LR_ld hL hf) (k Hr lsr locs hR hL hl)
    | _ => cases h
theorem st_aload (C : aCx p s m meth c S0 D g0 M) {pc : Nat} {ls : aLs} {st : List Value} {H : aH} {q : aQ} {j : Nat} (hm : mDec M pc = some (.aload j, 2)) (h : aS M pc 2 (.aload j) ls st H = some (.inl q)) (k : Wq p l e R s m args below meth c Q S0 D g0 (mML M) n0 w0 q) : Wq p l e R s m args below meth c Q S0 D g0 (mML M) n0 w0 (pc, ls, st, H) := by
  have hd := C.2.1 pc _ hm
  have hx := C.1
  have h : (ldL ls j).bind _ = _ := h
  cases hf : ldL ls j with
  | none => rw [hf] at h; cases h
  | some v =>
    rw [hf] at h
    cases v with
    | ref x =>
      have h := go_inj (show go _ _ _ _ = _ from h)
      subst h
      intro Hr lsr locs hR hL hl
      exact lv_aload hx rfl hd (LR_ld hL hf) (k Hr lsr locs hR hL hl)
    | null =>
      have h := go_inj (show go _ _ _ _ = _ from h)
      subst h
      intro Hr lsr locs hR hL hl
      exact lv_aloadN hx rfl hd (LR_ld hL hf) (k Hr lsr locs hR hL hl)
    | _ => cases h
theorem st_aloadn (C : aCx p s m meth c S0 D g0 M) {pc : Nat} {ls : aLs} {st : List Value} {H : aH} {q : aQ} {j : Fin 4} (hm : mDec M pc = some (.aload_n j, 1)) (h : aS M pc 1 (.aload_n j) ls st H = some (.inl q)) (k : Wq p l e R s m args below meth c Q S0 D g0 (mML M) n0 w0 q) : Wq p l e R s m args below meth c Q S0 D g0 (mML M) n0 w0 (pc, ls, st, H) := by
  have hd := C.2.1 pc _ hm
  have hx := C.1
  have h : (ldL ls j).bind _ = _ := h
  cases hf : ldL ls j with
  | none => rw [hf] at h; cases h
  | some v =>
    rw [hf] at h
    cases v with
    | ref x =>
      have h := go_inj (show go _ _ _ _ = _ from h)
      subst h
      intro Hr lsr locs hR hL hl
      exact lv_aload_n hx rfl hd rfl (LR_ld hL hf) (k Hr lsr locs hR hL hl)
    | null =>
      have h := go_inj (show go _ _ _ _ = _ from h)
      subst h
      intro Hr lsr locs hR hL hl
      exact lv_aload_nN hx rfl hd rfl (LR_ld hL hf) (k Hr lsr locs hR hL hl)
    | _ => cases h
theorem st_istore (C : aCx p s m meth c S0 D g0 M) {pc : Nat} {ls : aLs} {st : List Value} {H : aH} {q : aQ} {j : Nat} (hm : mDec M pc = some (.istore j, 2)) (h : aS M pc 2 (.istore j) ls st H = some (.inl q)) (k : Wq p l e R s m args below meth c Q S0 D g0 (mML M) n0 w0 q) : Wq p l e R s m args below meth c Q S0 D g0 (mML M) n0 w0 (pc, ls, st, H) := by
  have hd := C.2.1 pc _ hm
  have hx := C.1
  cases st with
  | nil => cases h
  | cons v t =>
    cases v with
    | int x =>
      have h : (stL ls j (.int x)).bind _ = _ := h
      cases hf : stL ls j (.int x) with
      | none => rw [hf] at h; cases h
      | some ls' =>
        rw [hf] at h
        have h := go_inj (show go _ _ _ _ = _ from h)
        subst h
        intro Hr lsr locs hR hL hl
        obtain ⟨hk, hkk⟩ := (LR_st hL hf).1 rfl
        obtain ⟨hle, lv, hlv, hin⟩ := id hL
        exact lv_istore hx rfl hd hlv hk rfl (fun ls' hl' => k Hr ls' locs hR (hkk lv ls' hlv hin hl') hl)
    | _ => cases h
theorem st_istoren (C : aCx p s m meth c S0 D g0 M) {pc : Nat} {ls : aLs} {st : List Value} {H : aH} {q : aQ} {j : Fin 4} (hm : mDec M pc = some (.istore_n j, 1)) (h : aS M pc 1 (.istore_n j) ls st H = some (.inl q)) (k : Wq p l e R s m args below meth c Q S0 D g0 (mML M) n0 w0 q) : Wq p l e R s m args below meth c Q S0 D g0 (mML M) n0 w0 (pc, ls, st, H) := by
  have hd := C.2.1 pc _ hm
  have hx := C.1
  cases st with
  | nil => cases h
  | cons v t =>
    cases v with
    | int x =>
      have h : (stL ls j (.int x)).bind _ = _ := h
      cases hf : stL ls j (.int x) with
      | none => rw [hf] at h; cases h
      | some ls' =>
        rw [hf] at h
        have h := go_inj (show go _ _ _ _ = _ from h)
        subst h
        intro Hr lsr locs hR hL hl
        obtain ⟨hk, hkk⟩ := (LR_st hL hf).1 rfl
        obtain ⟨hle, lv, hlv, hin⟩ := id hL
        exact lv_istore_n hx rfl hd rfl hlv hk rfl (fun ls' hl' => k Hr ls' locs hR (hkk lv ls' hlv hin hl') hl)
    | _ => cases h
theorem st_lstore (C : aCx p s m meth c S0 D g0 M) {pc : Nat} {ls : aLs} {st : List Value} {H : aH} {q : aQ} {j : Nat} (hm : mDec M pc = some (.lstore j, 2)) (h : aS M pc 2 (.lstore j) ls st H = some (.inl q)) (k : Wq p l e R s m args below meth c Q S0 D g0 (mML M) n0 w0 q) : Wq p l e R s m args below meth c Q S0 D g0 (mML M) n0 w0 (pc, ls, st, H) := by
  have hd := C.2.1 pc _ hm
  have hx := C.1
  cases st with
  | nil => cases h
  | cons v t =>
    cases v with
    | long x =>
      have h : (stL ls j (.long x)).bind _ = _ := h
      cases hf : stL ls j (.long x) with
      | none => rw [hf] at h; cases h
      | some ls' =>
        rw [hf] at h
        have h := go_inj (show go _ _ _ _ = _ from h)
        subst h
        intro Hr lsr locs hR hL hl
        obtain ⟨hk, hkk⟩ := (LR_st hL hf).2 rfl
        obtain ⟨hle, lv, hlv, hin⟩ := id hL
        exact lv_lstore hx rfl hd hlv hk rfl (fun ls' hl' => k Hr ls' locs hR (hkk lv ls' hlv hin hl') hl)
    | _ => cases h
theorem st_lstoren (C : aCx p s m meth c S0 D g0 M) {pc : Nat} {ls : aLs} {st : List Value} {H : aH} {q : aQ} {j : Fin 4} (hm : mDec M pc = some (.lstore_n j, 1)) (h : aS M pc 1 (.lstore_n j) ls st H = some (.inl q)) (k : Wq p l e R s m args below meth c Q S0 D g0 (mML M) n0 w0 q) : Wq p l e R s m args below meth c Q S0 D g0 (mML M) n0 w0 (pc, ls, st, H) := by
  have hd := C.2.1 pc _ hm
  have hx := C.1
  cases st with
  | nil => cases h
  | cons v t =>
    cases v with
    | long x =>
      have h : (stL ls j (.long x)).bind _ = _ := h
      cases hf : stL ls j (.long x) with
      | none => rw [hf] at h; cases h
      | some ls' =>
        rw [hf] at h
        have h := go_inj (show go _ _ _ _ = _ from h)
        subst h
        intro Hr lsr locs hR hL hl
        obtain ⟨hk, hkk⟩ := (LR_st hL hf).2 rfl
        obtain ⟨hle, lv, hlv, hin⟩ := id hL
        exact lv_lstore_n hx rfl hd rfl hlv hk rfl (fun ls' hl' => k Hr ls' locs hR (hkk lv ls' hlv hin hl') hl)
    | _ => cases h
theorem st_dstore (C : aCx p s m meth c S0 D g0 M) {pc : Nat} {ls : aLs} {st : List Value} {H : aH} {q : aQ} {j : Nat} (hm : mDec M pc = some (.dstore j, 2)) (h : aS M pc 2 (.dstore j) ls st H = some (.inl q)) (k : Wq p l e R s m args below meth c Q S0 D g0 (mML M) n0 w0 q) : Wq p l e R s m args below meth c Q S0 D g0 (mML M) n0 w0 (pc, ls, st, H) := by
  have hd := C.2.1 pc _ hm
  have hx := C.1
  cases st with
  | nil => cases h
  | cons v t =>
    cases v with
    | double x =>
      have h : (stL ls j (.double x)).bind _ = _ := h
      cases hf : stL ls j (.double x) with
      | none => rw [hf] at h; cases h
      | some ls' =>
        rw [hf] at h
        have h := go_inj (show go _ _ _ _ = _ from h)
        subst h
        intro Hr lsr locs hR hL hl
        obtain ⟨hk, hkk⟩ := (LR_st hL hf).2 rfl
        obtain ⟨hle, lv, hlv, hin⟩ := id hL
        exact lv_dstore hx rfl hd hlv hk rfl (fun ls' hl' => k Hr ls' locs hR (hkk lv ls' hlv hin hl') hl)
    | _ => cases h
theorem st_dstoren (C : aCx p s m meth c S0 D g0 M) {pc : Nat} {ls : aLs} {st : List Value} {H : aH} {q : aQ} {j : Fin 4} (hm : mDec M pc = some (.dstore_n j, 1)) (h : aS M pc 1 (.dstore_n j) ls st H = some (.inl q)) (k : Wq p l e R s m args below meth c Q S0 D g0 (mML M) n0 w0 q) : Wq p l e R s m args below meth c Q S0 D g0 (mML M) n0 w0 (pc, ls, st, H) := by
  have hd := C.2.1 pc _ hm
  have hx := C.1
  cases st with
  | nil => cases h
  | cons v t =>
    cases v with
    | double x =>
      have h : (stL ls j (.double x)).bind _ = _ := h
      cases hf : stL ls j (.double x) with
      | none => rw [hf] at h; cases h
      | some ls' =>
        rw [hf] at h
        have h := go_inj (show go _ _ _ _ = _ from h)
        subst h
        intro Hr lsr locs hR hL hl
        obtain ⟨hk, hkk⟩ := (LR_st hL hf).2 rfl
        obtain ⟨hle, lv, hlv, hin⟩ := id hL
        exact lv_dstore_n hx rfl hd rfl hlv hk rfl (fun ls' hl' => k Hr ls' locs hR (hkk lv ls' hlv hin hl') hl)
    | _ => cases h
theorem st_astore (C : aCx p s m meth c S0 D g0 M) {pc : Nat} {ls : aLs} {st : List Value} {H : aH} {q : aQ} {j : Nat} (hm : mDec M pc = some (.astore j, 2)) (h : aS M pc 2 (.astore j) ls st H = some (.inl q)) (k : Wq p l e R s m args below meth c Q S0 D g0 (mML M) n0 w0 q) : Wq p l e R s m args below meth c Q S0 D g0 (mML M) n0 w0 (pc, ls, st, H) := by
  have hd := C.2.1 pc _ hm
  have hx := C.1
  cases st with
  | nil => cases h
  | cons v t =>
    cases v with
    | ref x =>
      have h : (stL ls j (.ref x)).bind _ = _ := h
      cases hf : stL ls j (.ref x) with
      | none => rw [hf] at h; cases h
      | some ls' =>
        rw [hf] at h
        have h := go_inj (show go _ _ _ _ = _ from h)
        subst h
        intro Hr lsr locs hR hL hl
        obtain ⟨hk, hkk⟩ := (LR_st hL hf).1 rfl
        obtain ⟨hle, lv, hlv, hin⟩ := id hL
        exact lv_astore hx rfl hd hlv hk rfl (fun ls' hl' => k Hr ls' locs hR (hkk lv ls' hlv hin hl') hl)
    | null =>
      have h : (stL ls j .null).bind _ = _ := h
      cases hf : stL ls j .null with
      | none => rw [hf] at h; cases h
      | some ls' =>
        rw [hf] at h
        have h := go_inj (show go _ _ _ _ = _ from h)
        subst h
        intro Hr lsr locs hR hL hl
        obtain ⟨hk, hkk⟩ := (LR_st hL hf).1 rfl
        obtain ⟨hle, lv, hlv, hin⟩ := id hL
        exact lv_astoreN hx rfl hd hlv hk rfl (fun ls' hl' => k Hr ls' locs hR (hkk lv ls' hlv hin hl') hl)
    | _ => cases h
theorem st_astoren (C : aCx p s m meth c S0 D g0 M) {pc : Nat} {ls : aLs} {st : List Value} {H : aH} {q : aQ} {j : Fin 4} (hm : mDec M pc = some (.astore_n j, 1)) (h : aS M pc 1 (.astore_n j) ls st H = some (.inl q)) (k : Wq p l e R s m args below meth c Q S0 D g0 (mML M) n0 w0 q) : Wq p l e R s m args below meth c Q S0 D g0 (mML M) n0 w0 (pc, ls, st, H) := by
  have hd := C.2.1 pc _ hm
  have hx := C.1
  cases st with
  | nil => cases h
  | cons v t =>
    cases v with
    | ref x =>
      have h : (stL ls j (.ref x)).bind _ = _ := h
      cases hf : stL ls j (.ref x) with
      | none => rw [hf] at h; cases h
      | some ls' =>
        rw [hf] at h
        have h := go_inj (show go _ _ _ _ = _ from h)
        subst h
        intro Hr lsr locs hR hL hl
        obtain ⟨hk, hkk⟩ := (LR_st hL hf).1 rfl
        obtain ⟨hle, lv, hlv, hin⟩ := id hL
        exact lv_astore_n hx rfl hd rfl hlv hk rfl (fun ls' hl' => k Hr ls' locs hR (hkk lv ls' hlv hin hl') hl)
    | null =>
      have h : (stL ls j .null).bind _ = _ := h
      cases hf : stL ls j .null with
      | none => rw [hf] at h; cases h
      | some ls' =>
        rw [hf] at h
        have h := go_inj (show go _ _ _ _ = _ from h)
        subst h
        intro Hr lsr locs hR hL hl
        obtain ⟨hk, hkk⟩ := (LR_st hL hf).1 rfl
        obtain ⟨hle, lv, hlv, hin⟩ := id hL
        exact lv_astore_nN hx rfl hd rfl hlv hk rfl (fun ls' hl' => k Hr ls' locs hR (hkk lv ls' hlv hin hl') hl)
    | _ => cases h
theorem st_iinc (C : aCx p s m meth c S0 D g0 M) {pc : Nat} {ls : aLs} {st : List Value} {H : aH} {q : aQ} {j : Nat} {n : Int} (hm : mDec M pc = some (.iinc j n, 3)) (h : aS M pc 3 (.iinc j n) ls st H = some (.inl q)) (k : Wq p l e R s m args below meth c Q S0 D g0 (mML M) n0 w0 q) : Wq p l e R s m args below meth c Q S0 D g0 (mML M) n0 w0 (pc, ls, st, H) := by
  have hd := C.2.1 pc _ hm
  have hx := C.1
  have h : (match ldL ls j with | some (.int x) => (stL ls j (.int (x + Int32.ofInt n))).bind _ | _ => none) = _ := h
  cases hf : ldL ls j with
  | none => rw [hf] at h; cases h
  | some v =>
    rw [hf] at h
    cases v with
    | int x =>
      have h : (stL ls j (.int (x + Int32.ofInt n))).bind _ = _ := h
      cases hg : stL ls j (.int (x + Int32.ofInt n)) with
      | none => rw [hg] at h; cases h
      | some ls' =>
        rw [hg] at h
        have h := go_inj (show go _ _ _ _ = _ from h)
        subst h
        intro Hr lsr locs hR hL hl
        obtain ⟨hk, hkk⟩ := (LR_st hL hg).1 rfl
        obtain ⟨hle, lv, hlv, hin⟩ := id hL
        have hmem := hin j (.int x) (ldL_at hf)
        obtain ⟨a, ha, hae⟩ := List.getElem_of_mem hmem
        exact lv_iinc hx rfl hd hlv (k := a) (by rw [List.getElem?_eq_getElem ha, hae]) rfl hk rfl (fun ls' hl' => k Hr ls' locs hR (hkk lv ls' hlv hin hl') hl)
    | _ => cases h
theorem st_iadd (C : aCx p s m meth c S0 D g0 M) {pc : Nat} {ls : aLs} {st : List Value} {H : aH} {q : aQ}  (hm : mDec M pc = some (.iadd, 1)) (h : aS M pc 1 .iadd ls st H = some (.inl q)) (k : Wq p l e R s m args below meth c Q S0 D g0 (mML M) n0 w0 q) : Wq p l e R s m args below meth c Q S0 D g0 (mML M) n0 w0 (pc, ls, st, H) := by
  have hd := C.2.1 pc _ hm
  have hx := C.1
  cases st with
  | nil => cases h
  | cons v t =>
    cases v with
    | int y =>
      cases t with
      | nil => cases h
      | cons u t =>
        cases u with
        | int x =>
          have h := go_inj (show go _ _ _ _ = _ from h)
          subst h
          intro Hr lsr locs hR hL hl
          exact lv_iadd hx rfl hd (k Hr lsr locs hR hL hl)
        | _ => cases h
    | _ => cases h
theorem st_isub (C : aCx p s m meth c S0 D g0 M) {pc : Nat} {ls : aLs} {st : List Value} {H : aH} {q : aQ}  (hm : mDec M pc = some (.isub, 1)) (h : aS M pc 1 .isub ls st H = some (.inl q)) (k : Wq p l e R s m args below meth c Q S0 D g0 (mML M) n0 w0 q) : Wq p l e R s m args below meth c Q S0 D g0 (mML M) n0 w0 (pc, ls, st, H) := by
  have hd := C.2.1 pc _ hm
  have hx := C.1
  cases st with
  | nil => cases h
  | cons v t =>
    cases v with
    | int y =>
      cases t with
      | nil => cases h
      | cons u t =>
        cases u with
        | int x =>
          have h := go_inj (show go _ _ _ _ = _ from h)
          subst h
          intro Hr lsr locs hR hL hl
          exact lv_isub hx rfl hd (k Hr lsr locs hR hL hl)
        | _ => cases h
    | _ => cases h
theorem st_imul (C : aCx p s m meth c S0 D g0 M) {pc : Nat} {ls : aLs} {st : List Value} {H : aH} {q : aQ}  (hm : mDec M pc = some (.imul, 1)) (h : aS M pc 1 .imul ls st H = some (.inl q)) (k : Wq p l e R s m args below meth c Q S0 D g0 (mML M) n0 w0 q) : Wq p l e R s m args below meth c Q S0 D g0 (mML M) n0 w0 (pc, ls, st, H) := by
  have hd := C.2.1 pc _ hm
  have hx := C.1
  cases st with
  | nil => cases h
  | cons v t =>
    cases v with
    | int y =>
      cases t with
      | nil => cases h
      | cons u t =>
        cases u with
        | int x =>
          have h := go_inj (show go _ _ _ _ = _ from h)
          subst h
          intro Hr lsr locs hR hL hl
          exact lv_imul hx rfl hd (k Hr lsr locs hR hL hl)
        | _ => cases h
    | _ => cases h
theorem st_iand (C : aCx p s m meth c S0 D g0 M) {pc : Nat} {ls : aLs} {st : List Value} {H : aH} {q : aQ}  (hm : mDec M pc = some (.iand, 1)) (h : aS M pc 1 .iand ls st H = some (.inl q)) (k : Wq p l e R s m args below meth c Q S0 D g0 (mML M) n0 w0 q) : Wq p l e R s m args below meth c Q S0 D g0 (mML M) n0 w0 (pc, ls, st, H) := by
  have hd := C.2.1 pc _ hm
  have hx := C.1
  cases st with
  | nil => cases h
  | cons v t =>
    cases v with
    | int y =>
      cases t with
      | nil => cases h
      | cons u t =>
        cases u with
        | int x =>
          have h := go_inj (show go _ _ _ _ = _ from h)
          subst h
          intro Hr lsr locs hR hL hl
          exact lv_iand hx rfl hd (k Hr lsr locs hR hL hl)
        | _ => cases h
    | _ => cases h
theorem st_ior (C : aCx p s m meth c S0 D g0 M) {pc : Nat} {ls : aLs} {st : List Value} {H : aH} {q : aQ}  (hm : mDec M pc = some (.ior, 1)) (h : aS M pc 1 .ior ls st H = some (.inl q)) (k : Wq p l e R s m args below meth c Q S0 D g0 (mML M) n0 w0 q) : Wq p l e R s m args below meth c Q S0 D g0 (mML M) n0 w0 (pc, ls, st, H) := by
  have hd := C.2.1 pc _ hm
  have hx := C.1
  cases st with
  | nil => cases h
  | cons v t =>
    cases v with
    | int y =>
      cases t with
      | nil => cases h
      | cons u t =>
        cases u with
        | int x =>
          have h := go_inj (show go _ _ _ _ = _ from h)
          subst h
          intro Hr lsr locs hR hL hl
          exact lv_ior hx rfl hd (k Hr lsr locs hR hL hl)
        | _ => cases h
    | _ => cases h
theorem st_ixor (C : aCx p s m meth c S0 D g0 M) {pc : Nat} {ls : aLs} {st : List Value} {H : aH} {q : aQ}  (hm : mDec M pc = some (.ixor, 1)) (h : aS M pc 1 .ixor ls st H = some (.inl q)) (k : Wq p l e R s m args below meth c Q S0 D g0 (mML M) n0 w0 q) : Wq p l e R s m args below meth c Q S0 D g0 (mML M) n0 w0 (pc, ls, st, H) := by
  have hd := C.2.1 pc _ hm
  have hx := C.1
  cases st with
  | nil => cases h
  | cons v t =>
    cases v with
    | int y =>
      cases t with
      | nil => cases h
      | cons u t =>
        cases u with
        | int x =>
          have h := go_inj (show go _ _ _ _ = _ from h)
          subst h
          intro Hr lsr locs hR hL hl
          exact lv_ixor hx rfl hd (k Hr lsr locs hR hL hl)
        | _ => cases h
    | _ => cases h
theorem st_ishl (C : aCx p s m meth c S0 D g0 M) {pc : Nat} {ls : aLs} {st : List Value} {H : aH} {q : aQ}  (hm : mDec M pc = some (.ishl, 1)) (h : aS M pc 1 .ishl ls st H = some (.inl q)) (k : Wq p l e R s m args below meth c Q S0 D g0 (mML M) n0 w0 q) : Wq p l e R s m args below meth c Q S0 D g0 (mML M) n0 w0 (pc, ls, st, H) := by
  have hd := C.2.1 pc _ hm
  have hx := C.1
  cases st with
  | nil => cases h
  | cons v t =>
    cases v with
    | int y =>
      cases t with
      | nil => cases h
      | cons u t =>
        cases u with
        | int x =>
          have h := go_inj (show go _ _ _ _ = _ from h)
          subst h
          intro Hr lsr locs hR hL hl
          exact lv_ishl hx rfl hd (k Hr lsr locs hR hL hl)
        | _ => cases h
    | _ => cases h
theorem st_ishr (C : aCx p s m meth c S0 D g0 M) {pc : Nat} {ls : aLs} {st : List Value} {H : aH} {q : aQ}  (hm : mDec M pc = some (.ishr, 1)) (h : aS M pc 1 .ishr ls st H = some (.inl q)) (k : Wq p l e R s m args below meth c Q S0 D g0 (mML M) n0 w0 q) : Wq p l e R s m args below meth c Q S0 D g0 (mML M) n0 w0 (pc, ls, st, H) := by
  have hd := C.2.1 pc _ hm
  have hx := C.1
  cases st with
  | nil => cases h
  | cons v t =>
    cases v with
    | int y =>
      cases t with
      | nil => cases h
      | cons u t =>
        cases u with
        | int x =>
          have h := go_inj (show go _ _ _ _ = _ from h)
          subst h
          intro Hr lsr locs hR hL hl
          exact lv_ishr hx rfl hd (k Hr lsr locs hR hL hl)
        | _ => cases h
    | _ => cases h
theorem st_iushr (C : aCx p s m meth c S0 D g0 M) {pc : Nat} {ls : aLs} {st : List Value} {H : aH} {q : aQ}  (hm : mDec M pc = some (.iushr, 1)) (h : aS M pc 1 .iushr ls st H = some (.inl q)) (k : Wq p l e R s m args below meth c Q S0 D g0 (mML M) n0 w0 q) : Wq p l e R s m args below meth c Q S0 D g0 (mML M) n0 w0 (pc, ls, st, H) := by
  have hd := C.2.1 pc _ hm
  have hx := C.1
  cases st with
  | nil => cases h
  | cons v t =>
    cases v with
    | int y =>
      cases t with
      | nil => cases h
      | cons u t =>
        cases u with
        | int x =>
          have h := go_inj (show go _ _ _ _ = _ from h)
          subst h
          intro Hr lsr locs hR hL hl
          exact lv_iushr hx rfl hd rfl (k Hr lsr locs hR hL hl)
        | _ => cases h
    | _ => cases h
theorem st_ladd (C : aCx p s m meth c S0 D g0 M) {pc : Nat} {ls : aLs} {st : List Value} {H : aH} {q : aQ}  (hm : mDec M pc = some (.ladd, 1)) (h : aS M pc 1 .ladd ls st H = some (.inl q)) (k : Wq p l e R s m args below meth c Q S0 D g0 (mML M) n0 w0 q) : Wq p l e R s m args below meth c Q S0 D g0 (mML M) n0 w0 (pc, ls, st, H) := by
  have hd := C.2.1 pc _ hm
  have hx := C.1
  cases st with
  | nil => cases h
  | cons v t =>
    cases v with
    | long y =>
      cases t with
      | nil => cases h
      | cons u t =>
        cases u with
        | long x =>
          have h := go_inj (show go _ _ _ _ = _ from h)
          subst h
          intro Hr lsr locs hR hL hl
          exact lv_ladd hx rfl hd (k Hr lsr locs hR hL hl)
        | _ => cases h
    | _ => cases h
theorem st_lsub (C : aCx p s m meth c S0 D g0 M) {pc : Nat} {ls : aLs} {st : List Value} {H : aH} {q : aQ}  (hm : mDec M pc = some (.lsub, 1)) (h : aS M pc 1 .lsub ls st H = some (.inl q)) (k : Wq p l e R s m args below meth c Q S0 D g0 (mML M) n0 w0 q) : Wq p l e R s m args below meth c Q S0 D g0 (mML M) n0 w0 (pc, ls, st, H) := by
  have hd := C.2.1 pc _ hm
  have hx := C.1
  cases st with
  | nil => cases h
  | cons v t =>
    cases v with
    | long y =>
      cases t with
      | nil => cases h
      | cons u t =>
        cases u with
        | long x =>
          have h := go_inj (show go _ _ _ _ = _ from h)
          subst h
          intro Hr lsr locs hR hL hl
          exact lv_lsub hx rfl hd (k Hr lsr locs hR hL hl)
        | _ => cases h
    | _ => cases h
theorem st_lmul (C : aCx p s m meth c S0 D g0 M) {pc : Nat} {ls : aLs} {st : List Value} {H : aH} {q : aQ}  (hm : mDec M pc = some (.lmul, 1)) (h : aS M pc 1 .lmul ls st H = some (.inl q)) (k : Wq p l e R s m args below meth c Q S0 D g0 (mML M) n0 w0 q) : Wq p l e R s m args below meth c Q S0 D g0 (mML M) n0 w0 (pc, ls, st, H) := by
  have hd := C.2.1 pc _ hm
  have hx := C.1
  cases st with
  | nil => cases h
  | cons v t =>
    cases v with
    | long y =>
      cases t with
      | nil => cases h
      | cons u t =>
        cases u with
        | long x =>
          have h := go_inj (show go _ _ _ _ = _ from h)
          subst h
          intro Hr lsr locs hR hL hl
          exact lv_lmul hx rfl hd (k Hr lsr locs hR hL hl)
        | _ => cases h
    | _ => cases h
theorem st_land (C : aCx p s m meth c S0 D g0 M) {pc : Nat} {ls : aLs} {st : List Value} {H : aH} {q : aQ}  (hm : mDec M pc = some (.land, 1)) (h : aS M pc 1 .land ls st H = some (.inl q)) (k : Wq p l e R s m args below meth c Q S0 D g0 (mML M) n0 w0 q) : Wq p l e R s m args below meth c Q S0 D g0 (mML M) n0 w0 (pc, ls, st, H) := by
  have hd := C.2.1 pc _ hm
  have hx := C.1
  cases st with
  | nil => cases h
  | cons v t =>
    cases v with
    | long y =>
      cases t with
      | nil => cases h
      | cons u t =>
        cases u with
        | long x =>
          have h := go_inj (show go _ _ _ _ = _ from h)
          subst h
          intro Hr lsr locs hR hL hl
          exact lv_land hx rfl hd (k Hr lsr locs hR hL hl)
        | _ => cases h
    | _ => cases h
theorem st_lor (C : aCx p s m meth c S0 D g0 M) {pc : Nat} {ls : aLs} {st : List Value} {H : aH} {q : aQ}  (hm : mDec M pc = some (.lor, 1)) (h : aS M pc 1 .lor ls st H = some (.inl q)) (k : Wq p l e R s m args below meth c Q S0 D g0 (mML M) n0 w0 q) : Wq p l e R s m args below meth c Q S0 D g0 (mML M) n0 w0 (pc, ls, st, H) := by
  have hd := C.2.1 pc _ hm
  have hx := C.1
  cases st with
  | nil => cases h
  | cons v t =>
    cases v with
    | long y =>
      cases t with
      | nil => cases h
      | cons u t =>
        cases u with
        | long x =>
          have h := go_inj (show go _ _ _ _ = _ from h)
          subst h
          intro Hr lsr locs hR hL hl
          exact lv_lor hx rfl hd (k Hr lsr locs hR hL hl)
        | _ => cases h
    | _ => cases h
theorem st_lxor (C : aCx p s m meth c S0 D g0 M) {pc : Nat} {ls : aLs} {st : List Value} {H : aH} {q : aQ}  (hm : mDec M pc = some (.lxor, 1)) (h : aS M pc 1 .lxor ls st H = some (.inl q)) (k : Wq p l e R s m args below meth c Q S0 D g0 (mML M) n0 w0 q) : Wq p l e R s m args below meth c Q S0 D g0 (mML M) n0 w0 (pc, ls, st, H) := by
  have hd := C.2.1 pc _ hm
  have hx := C.1
  cases st with
  | nil => cases h
  | cons v t =>
    cases v with
    | long y =>
      cases t with
      | nil => cases h
      | cons u t =>
        cases u with
        | long x =>
          have h := go_inj (show go _ _ _ _ = _ from h)
          subst h
          intro Hr lsr locs hR hL hl
          exact lv_lxor hx rfl hd (k Hr lsr locs hR hL hl)
        | _ => cases h
    | _ => cases h
theorem st_lshl (C : aCx p s m meth c S0 D g0 M) {pc : Nat} {ls : aLs} {st : List Value} {H : aH} {q : aQ}  (hm : mDec M pc = some (.lshl, 1)) (h : aS M pc 1 .lshl ls st H = some (.inl q)) (k : Wq p l e R s m args below meth c Q S0 D g0 (mML M) n0 w0 q) : Wq p l e R s m args below meth c Q S0 D g0 (mML M) n0 w0 (pc, ls, st, H) := by
  have hd := C.2.1 pc _ hm
  have hx := C.1
  cases st with
  | nil => cases h
  | cons v t =>
    cases v with
    | int y =>
      cases t with
      | nil => cases h
      | cons u t =>
        cases u with
        | long x =>
          have h := go_inj (show go _ _ _ _ = _ from h)
          subst h
          intro Hr lsr locs hR hL hl
          exact lv_lshl hx rfl hd rfl (k Hr lsr locs hR hL hl)
        | _ => cases h
    | _ => cases h
theorem st_lshr (C : aCx p s m meth c S0 D g0 M) {pc : Nat} {ls : aLs} {st : List Value} {H : aH} {q : aQ}  (hm : mDec M pc = some (.lshr, 1)) (h : aS M pc 1 .lshr ls st H = some (.inl q)) (k : Wq p l e R s m args below meth c Q S0 D g0 (mML M) n0 w0 q) : Wq p l e R s m args below meth c Q S0 D g0 (mML M) n0 w0 (pc, ls, st, H) := by
  have hd := C.2.1 pc _ hm
  have hx := C.1
  cases st with
  | nil => cases h
  | cons v t =>
    cases v with
    | int y =>
      cases t with
      | nil => cases h
      | cons u t =>
        cases u with
        | long x =>
          have h := go_inj (show go _ _ _ _ = _ from h)
          subst h
          intro Hr lsr locs hR hL hl
          exact lv_lshr hx rfl hd rfl (k Hr lsr locs hR hL hl)
        | _ => cases h
    | _ => cases h
theorem st_lushr (C : aCx p s m meth c S0 D g0 M) {pc : Nat} {ls : aLs} {st : List Value} {H : aH} {q : aQ}  (hm : mDec M pc = some (.lushr, 1)) (h : aS M pc 1 .lushr ls st H = some (.inl q)) (k : Wq p l e R s m args below meth c Q S0 D g0 (mML M) n0 w0 q) : Wq p l e R s m args below meth c Q S0 D g0 (mML M) n0 w0 (pc, ls, st, H) := by
  have hd := C.2.1 pc _ hm
  have hx := C.1
  cases st with
  | nil => cases h
  | cons v t =>
    cases v with
    | int y =>
      cases t with
      | nil => cases h
      | cons u t =>
        cases u with
        | long x =>
          have h := go_inj (show go _ _ _ _ = _ from h)
          subst h
          intro Hr lsr locs hR hL hl
          exact lv_lushr hx rfl hd rfl (k Hr lsr locs hR hL hl)
        | _ => cases h
    | _ => cases h
theorem st_lcmp (C : aCx p s m meth c S0 D g0 M) {pc : Nat} {ls : aLs} {st : List Value} {H : aH} {q : aQ}  (hm : mDec M pc = some (.lcmp, 1)) (h : aS M pc 1 .lcmp ls st H = some (.inl q)) (k : Wq p l e R s m args below meth c Q S0 D g0 (mML M) n0 w0 q) : Wq p l e R s m args below meth c Q S0 D g0 (mML M) n0 w0 (pc, ls, st, H) := by
  have hd := C.2.1 pc _ hm
  have hx := C.1
  cases st with
  | nil => cases h
  | cons v t =>
    cases v with
    | long y =>
      cases t with
      | nil => cases h
      | cons u t =>
        cases u with
        | long x =>
          have h := go_inj (show go _ _ _ _ = _ from h)
          subst h
          intro Hr lsr locs hR hL hl
          exact W.lcmp hx rfl hd (k Hr lsr locs hR hL hl)
        | _ => cases h
    | _ => cases h
theorem st_idiv (C : aCx p s m meth c S0 D g0 M) {pc : Nat} {ls : aLs} {st : List Value} {H : aH} {q : aQ}  (hm : mDec M pc = some (.idiv, 1)) (h : aS M pc 1 .idiv ls st H = some (.inl q)) (k : Wq p l e R s m args below meth c Q S0 D g0 (mML M) n0 w0 q) : Wq p l e R s m args below meth c Q S0 D g0 (mML M) n0 w0 (pc, ls, st, H) := by
  have hd := C.2.1 pc _ hm
  have hx := C.1
  cases st with
  | nil => cases h
  | cons v t =>
    cases v with
    | int y =>
      cases t with
      | nil => cases h
      | cons u t =>
        cases u with
        | int x =>
          have h : (if y = 0 then none else go _ _ _ _) = _ := h
          split at h
          next => cases h
          next hz =>
            have h := go_inj h
            subst h
            intro Hr lsr locs hR hL hl
            exact lv_idiv hx rfl hd hz (k Hr lsr locs hR hL hl)
        | _ => cases h
    | _ => cases h
theorem st_irem (C : aCx p s m meth c S0 D g0 M) {pc : Nat} {ls : aLs} {st : List Value} {H : aH} {q : aQ}  (hm : mDec M pc = some (.irem, 1)) (h : aS M pc 1 .irem ls st H = some (.inl q)) (k : Wq p l e R s m args below meth c Q S0 D g0 (mML M) n0 w0 q) : Wq p l e R s m args below meth c Q S0 D g0 (mML M) n0 w0 (pc, ls, st, H) := by
  have hd := C.2.1 pc _ hm
  have hx := C.1
  cases st with
  | nil => cases h
  | cons v t =>
    cases v with
    | int y =>
      cases t with
      | nil => cases h
      | cons u t =>
        cases u with
        | int x =>
          have h : (if y = 0 then none else go _ _ _ _) = _ := h
          split at h
          next => cases h
          next hz =>
            have h := go_inj h
            subst h
            intro Hr lsr locs hR hL hl
            exact lv_irem hx rfl hd hz (k Hr lsr locs hR hL hl)
        | _ => cases h
    | _ => cases h
theorem st_ldiv (C : aCx p s m meth c S0 D g0 M) {pc : Nat} {ls : aLs} {st : List Value} {H : aH} {q : aQ}  (hm : mDec M pc = some (.ldiv, 1)) (h : aS M pc 1 .ldiv ls st H = some (.inl q)) (k : Wq p l e R s m args below meth c Q S0 D g0 (mML M) n0 w0 q) : Wq p l e R s m args below meth c Q S0 D g0 (mML M) n0 w0 (pc, ls, st, H) := by
  have hd := C.2.1 pc _ hm
  have hx := C.1
  cases st with
  | nil => cases h
  | cons v t =>
    cases v with
    | long y =>
      cases t with
      | nil => cases h
      | cons u t =>
        cases u with
        | long x =>
          have h : (if y = 0 then none else go _ _ _ _) = _ := h
          split at h
          next => cases h
          next hz =>
            have h := go_inj h
            subst h
            intro Hr lsr locs hR hL hl
            exact lv_ldiv hx rfl hd hz (k Hr lsr locs hR hL hl)
        | _ => cases h
    | _ => cases h
theorem st_ddiv (C : aCx p s m meth c S0 D g0 M) {pc : Nat} {ls : aLs} {st : List Value} {H : aH} {q : aQ}  (hm : mDec M pc = some (.ddiv, 1)) (h : aS M pc 1 .ddiv ls st H = some (.inl q)) (k : Wq p l e R s m args below meth c Q S0 D g0 (mML M) n0 w0 q) : Wq p l e R s m args below meth c Q S0 D g0 (mML M) n0 w0 (pc, ls, st, H) := by
  have hd := C.2.1 pc _ hm
  have hx := C.1
  cases st with
  | nil => cases h
  | cons v t =>
    cases v with
    | double y =>
      cases t with
      | nil => cases h
      | cons u t =>
        cases u with
        | double x =>
          have h : (if FP.ddiv x y &&& 0x7fffffffffffffff ≤ 0x7ff0000000000000 then go _ _ _ _ else none) = _ := h
          split at h
          next hz =>
            have h := go_inj h
            subst h
            intro Hr lsr locs hR hL hl
            exact lv_ddiv hx rfl hd hz (k Hr lsr locs hR hL hl)
          next => cases h
        | _ => cases h
    | _ => cases h
theorem st_dcmp (C : aCx p s m meth c S0 D g0 M) {pc : Nat} {ls : aLs} {st : List Value} {H : aH} {q : aQ} {o : CmpOp} (hm : mDec M pc = some (.dcmp o, 1)) (h : aS M pc 1 (.dcmp o) ls st H = some (.inl q)) (k : Wq p l e R s m args below meth c Q S0 D g0 (mML M) n0 w0 q) : Wq p l e R s m args below meth c Q S0 D g0 (mML M) n0 w0 (pc, ls, st, H) := by
  have hd := C.2.1 pc _ hm
  have hx := C.1
  cases st with
  | nil => cases h
  | cons v t =>
    cases v with
    | double y =>
      cases t with
      | nil => cases h
      | cons u t =>
        cases u with
        | double x =>
          have h := go_inj (show go _ _ _ _ = _ from h)
          subst h
          intro Hr lsr locs hR hL hl
          exact lv_dcmp hx rfl hd (k Hr lsr locs hR hL hl)
        | _ => cases h
    | _ => cases h
theorem st_ineg (C : aCx p s m meth c S0 D g0 M) {pc : Nat} {ls : aLs} {st : List Value} {H : aH} {q : aQ}  (hm : mDec M pc = some (.ineg, 1)) (h : aS M pc 1 .ineg ls st H = some (.inl q)) (k : Wq p l e R s m args below meth c Q S0 D g0 (mML M) n0 w0 q) : Wq p l e R s m args below meth c Q S0 D g0 (mML M) n0 w0 (pc, ls, st, H) := by
  have hd := C.2.1 pc _ hm
  have hx := C.1
  cases st with
  | nil => cases h
  | cons v t =>
    cases v with
    | int x =>
      have h := go_inj (show go _ _ _ _ = _ from h)
      subst h
      intro Hr lsr locs hR hL hl
      exact lv_ineg hx rfl hd (k Hr lsr locs hR hL hl)
    | _ => cases h
theorem st_i2l (C : aCx p s m meth c S0 D g0 M) {pc : Nat} {ls : aLs} {st : List Value} {H : aH} {q : aQ}  (hm : mDec M pc = some (.i2l, 1)) (h : aS M pc 1 .i2l ls st H = some (.inl q)) (k : Wq p l e R s m args below meth c Q S0 D g0 (mML M) n0 w0 q) : Wq p l e R s m args below meth c Q S0 D g0 (mML M) n0 w0 (pc, ls, st, H) := by
  have hd := C.2.1 pc _ hm
  have hx := C.1
  cases st with
  | nil => cases h
  | cons v t =>
    cases v with
    | int x =>
      have h := go_inj (show go _ _ _ _ = _ from h)
      subst h
      intro Hr lsr locs hR hL hl
      exact lv_i2l hx rfl hd rfl (k Hr lsr locs hR hL hl)
    | _ => cases h
theorem st_l2i (C : aCx p s m meth c S0 D g0 M) {pc : Nat} {ls : aLs} {st : List Value} {H : aH} {q : aQ}  (hm : mDec M pc = some (.l2i, 1)) (h : aS M pc 1 .l2i ls st H = some (.inl q)) (k : Wq p l e R s m args below meth c Q S0 D g0 (mML M) n0 w0 q) : Wq p l e R s m args below meth c Q S0 D g0 (mML M) n0 w0 (pc, ls, st, H) := by
  have hd := C.2.1 pc _ hm
  have hx := C.1
  cases st with
  | nil => cases h
  | cons v t =>
    cases v with
    | long x =>
      have h := go_inj (show go _ _ _ _ = _ from h)
      subst h
      intro Hr lsr locs hR hL hl
      exact lv_l2i hx rfl hd rfl (k Hr lsr locs hR hL hl)
    | _ => cases h
theorem st_i2d (C : aCx p s m meth c S0 D g0 M) {pc : Nat} {ls : aLs} {st : List Value} {H : aH} {q : aQ}  (hm : mDec M pc = some (.i2d, 1)) (h : aS M pc 1 .i2d ls st H = some (.inl q)) (k : Wq p l e R s m args below meth c Q S0 D g0 (mML M) n0 w0 q) : Wq p l e R s m args below meth c Q S0 D g0 (mML M) n0 w0 (pc, ls, st, H) := by
  have hd := C.2.1 pc _ hm
  have hx := C.1
  cases st with
  | nil => cases h
  | cons v t =>
    cases v with
    | int x =>
      have h := go_inj (show go _ _ _ _ = _ from h)
      subst h
      intro Hr lsr locs hR hL hl
      exact lv_i2d hx rfl hd (k Hr lsr locs hR hL hl)
    | _ => cases h
theorem st_dup (C : aCx p s m meth c S0 D g0 M) {pc : Nat} {ls : aLs} {st : List Value} {H : aH} {q : aQ}  (hm : mDec M pc = some (.dup, 1)) (h : aS M pc 1 .dup ls st H = some (.inl q)) (k : Wq p l e R s m args below meth c Q S0 D g0 (mML M) n0 w0 q) : Wq p l e R s m args below meth c Q S0 D g0 (mML M) n0 w0 (pc, ls, st, H) := by
  have hd := C.2.1 pc _ hm
  have hx := C.1
  cases st with
  | nil => cases h
  | cons v t =>
    have h : (if v.category = 1 then go _ _ _ _ else none) = _ := h
    split at h
    next hz =>
      have h := go_inj h
      subst h
      intro Hr lsr locs hR hL hl
      exact lv_dup hx rfl hd hz (k Hr lsr locs hR hL hl)
    next => cases h
theorem st_pop (C : aCx p s m meth c S0 D g0 M) {pc : Nat} {ls : aLs} {st : List Value} {H : aH} {q : aQ}  (hm : mDec M pc = some (.pop, 1)) (h : aS M pc 1 .pop ls st H = some (.inl q)) (k : Wq p l e R s m args below meth c Q S0 D g0 (mML M) n0 w0 q) : Wq p l e R s m args below meth c Q S0 D g0 (mML M) n0 w0 (pc, ls, st, H) := by
  have hd := C.2.1 pc _ hm
  have hx := C.1
  cases st with
  | nil => cases h
  | cons v t =>
    have h : (if v.category = 1 then go _ _ _ _ else none) = _ := h
    split at h
    next hz =>
      have h := go_inj h
      subst h
      intro Hr lsr locs hR hL hl
      exact lv_pop hx rfl hd hz (k Hr lsr locs hR hL hl)
    next => cases h
theorem st_dup2 (C : aCx p s m meth c S0 D g0 M) {pc : Nat} {ls : aLs} {st : List Value} {H : aH} {q : aQ}  (hm : mDec M pc = some (.dup2, 1)) (h : aS M pc 1 .dup2 ls st H = some (.inl q)) (k : Wq p l e R s m args below meth c Q S0 D g0 (mML M) n0 w0 q) : Wq p l e R s m args below meth c Q S0 D g0 (mML M) n0 w0 (pc, ls, st, H) := by
  have hd := C.2.1 pc _ hm
  have hx := C.1
  cases st with
  | nil => cases h
  | cons v t =>
    cases t with
    | nil => cases h
    | cons u t =>
      have h : (if v.category = 1 ∧ u.category = 1 then go _ _ _ _ else none) = _ := h
      split at h
      next hz =>
        have h := go_inj h
        subst h
        intro Hr lsr locs hR hL hl
        exact lv_dup2_11 hx rfl hd hz.1 hz.2 (k Hr lsr locs hR hL hl)
      next => cases h
theorem st_goto (C : aCx p s m meth c S0 D g0 M) {pc : Nat} {ls : aLs} {st : List Value} {H : aH} {q : aQ} {o : Int} (hm : mDec M pc = some (.goto o, 3)) (h : aS M pc 3 (.goto o) ls st H = some (.inl q)) (k : Wq p l e R s m args below meth c Q S0 D g0 (mML M) n0 w0 q) : Wq p l e R s m args below meth c Q S0 D g0 (mML M) n0 w0 (pc, ls, st, H) := by
  have hd := C.2.1 pc _ hm
  have hx := C.1
  have h : (aTg pc o).bind _ = _ := h
  cases ht : aTg pc o with
  | none => rw [ht] at h; cases h
  | some tg =>
    rw [ht] at h
    have h := go_inj (show go _ _ _ _ = _ from h)
    subst h
    intro Hr lsr locs hR hL hl
    exact lv_goto hx rfl hd (aTg_ok ht) (k Hr lsr locs hR hL hl)
theorem st_if_eq (C : aCx p s m meth c S0 D g0 M) {pc : Nat} {ls : aLs} {st : List Value} {H : aH} {q : aQ} {o : Int} (hm : mDec M pc = some (.ifCond .eq o, 3)) (h : aS M pc 3 (.ifCond .eq o) ls st H = some (.inl q)) (k : Wq p l e R s m args below meth c Q S0 D g0 (mML M) n0 w0 q) : Wq p l e R s m args below meth c Q S0 D g0 (mML M) n0 w0 (pc, ls, st, H) := by
  have hd := C.2.1 pc _ hm
  have hx := C.1
  cases st with
  | nil => cases h
  | cons v t =>
    cases v with
    | int x =>
      have h : (aTg pc o).bind _ = _ := h
      cases ht : aTg pc o with
      | none => rw [ht] at h; cases h
      | some tg =>
        rw [ht] at h
        have h : (if x = 0 then go _ _ _ _ else go _ _ _ _) = _ := h
        split at h
        next hz =>
          have h := go_inj h
          subst h
          intro Hr lsr locs hR hL hl
          exact lv_if_eq hx rfl hd (aTg_ok ht) (fun _ => k Hr lsr locs hR hL hl) (fun q => absurd hz q)
        next hz =>
          have h := go_inj h
          subst h
          intro Hr lsr locs hR hL hl
          exact lv_if_eq hx rfl hd (aTg_ok ht) (fun q => absurd q hz) (fun _ => k Hr lsr locs hR hL hl)
    | _ => cases h
theorem st_ic_eq (C : aCx p s m meth c S0 D g0 M) {pc : Nat} {ls : aLs} {st : List Value} {H : aH} {q : aQ} {o : Int} (hm : mDec M pc = some (.if_icmp .eq o, 3)) (h : aS M pc 3 (.if_icmp .eq o) ls st H = some (.inl q)) (k : Wq p l e R s m args below meth c Q S0 D g0 (mML M) n0 w0 q) : Wq p l e R s m args below meth c Q S0 D g0 (mML M) n0 w0 (pc, ls, st, H) := by
  have hd := C.2.1 pc _ hm
  have hx := C.1
  cases st with
  | nil => cases h
  | cons v t =>
    cases v with
    | int y =>
      cases t with
      | nil => cases h
      | cons u t =>
        cases u with
        | int x =>
          have h : (aTg pc o).bind _ = _ := h
          cases ht : aTg pc o with
          | none => rw [ht] at h; cases h
          | some tg =>
            rw [ht] at h
            have h : (if x = y then go _ _ _ _ else go _ _ _ _) = _ := h
            split at h
            next hz =>
              have h := go_inj h
              subst h
              intro Hr lsr locs hR hL hl
              exact lv_icmp_eq hx rfl hd (aTg_ok ht) (fun _ => k Hr lsr locs hR hL hl) (fun q => absurd hz q)
            next hz =>
              have h := go_inj h
              subst h
              intro Hr lsr locs hR hL hl
              exact lv_icmp_eq hx rfl hd (aTg_ok ht) (fun q => absurd q hz) (fun _ => k Hr lsr locs hR hL hl)
        | _ => cases h
    | _ => cases h
theorem st_if_ne (C : aCx p s m meth c S0 D g0 M) {pc : Nat} {ls : aLs} {st : List Value} {H : aH} {q : aQ} {o : Int} (hm : mDec M pc = some (.ifCond .ne o, 3)) (h : aS M pc 3 (.ifCond .ne o) ls st H = some (.inl q)) (k : Wq p l e R s m args below meth c Q S0 D g0 (mML M) n0 w0 q) : Wq p l e R s m args below meth c Q S0 D g0 (mML M) n0 w0 (pc, ls, st, H) := by
  have hd := C.2.1 pc _ hm
  have hx := C.1
  cases st with
  | nil => cases h
  | cons v t =>
    cases v with
    | int x =>
      have h : (aTg pc o).bind _ = _ := h
      cases ht : aTg pc o with
      | none => rw [ht] at h; cases h
      | some tg =>
        rw [ht] at h
        have h : (if x = 0 then go _ _ _ _ else go _ _ _ _) = _ := h
        split at h
        next hz =>
          have h := go_inj h
          subst h
          intro Hr lsr locs hR hL hl
          exact lv_if_ne hx rfl hd (aTg_ok ht) (fun q => absurd hz q) (fun _ => k Hr lsr locs hR hL hl)
        next hz =>
          have h := go_inj h
          subst h
          intro Hr lsr locs hR hL hl
          exact lv_if_ne hx rfl hd (aTg_ok ht) (fun _ => k Hr lsr locs hR hL hl) (fun q => absurd q hz)
    | _ => cases h
theorem st_ic_ne (C : aCx p s m meth c S0 D g0 M) {pc : Nat} {ls : aLs} {st : List Value} {H : aH} {q : aQ} {o : Int} (hm : mDec M pc = some (.if_icmp .ne o, 3)) (h : aS M pc 3 (.if_icmp .ne o) ls st H = some (.inl q)) (k : Wq p l e R s m args below meth c Q S0 D g0 (mML M) n0 w0 q) : Wq p l e R s m args below meth c Q S0 D g0 (mML M) n0 w0 (pc, ls, st, H) := by
  have hd := C.2.1 pc _ hm
  have hx := C.1
  cases st with
  | nil => cases h
  | cons v t =>
    cases v with
    | int y =>
      cases t with
      | nil => cases h
      | cons u t =>
        cases u with
        | int x =>
          have h : (aTg pc o).bind _ = _ := h
          cases ht : aTg pc o with
          | none => rw [ht] at h; cases h
          | some tg =>
            rw [ht] at h
            have h : (if x = y then go _ _ _ _ else go _ _ _ _) = _ := h
            split at h
            next hz =>
              have h := go_inj h
              subst h
              intro Hr lsr locs hR hL hl
              exact lv_icmp_ne hx rfl hd (aTg_ok ht) (fun q => absurd hz q) (fun _ => k Hr lsr locs hR hL hl)
            next hz =>
              have h := go_inj h
              subst h
              intro Hr lsr locs hR hL hl
              exact lv_icmp_ne hx rfl hd (aTg_ok ht) (fun _ => k Hr lsr locs hR hL hl) (fun q => absurd q hz)
        | _ => cases h
    | _ => cases h
theorem st_if_lt (C : aCx p s m meth c S0 D g0 M) {pc : Nat} {ls : aLs} {st : List Value} {H : aH} {q : aQ} {o : Int} (hm : mDec M pc = some (.ifCond .lt o, 3)) (h : aS M pc 3 (.ifCond .lt o) ls st H = some (.inl q)) (k : Wq p l e R s m args below meth c Q S0 D g0 (mML M) n0 w0 q) : Wq p l e R s m args below meth c Q S0 D g0 (mML M) n0 w0 (pc, ls, st, H) := by
  have hd := C.2.1 pc _ hm
  have hx := C.1
  cases st with
  | nil => cases h
  | cons v t =>
    cases v with
    | int x =>
      have h : (aTg pc o).bind _ = _ := h
      cases ht : aTg pc o with
      | none => rw [ht] at h; cases h
      | some tg =>
        rw [ht] at h
        have h : (if x < 0 then go _ _ _ _ else go _ _ _ _) = _ := h
        split at h
        next hz =>
          have h := go_inj h
          subst h
          intro Hr lsr locs hR hL hl
          exact lv_if_lt hx rfl hd (aTg_ok ht) (fun _ => k Hr lsr locs hR hL hl) (fun q => absurd hz q)
        next hz =>
          have h := go_inj h
          subst h
          intro Hr lsr locs hR hL hl
          exact lv_if_lt hx rfl hd (aTg_ok ht) (fun q => absurd q hz) (fun _ => k Hr lsr locs hR hL hl)
    | _ => cases h
theorem st_ic_lt (C : aCx p s m meth c S0 D g0 M) {pc : Nat} {ls : aLs} {st : List Value} {H : aH} {q : aQ} {o : Int} (hm : mDec M pc = some (.if_icmp .lt o, 3)) (h : aS M pc 3 (.if_icmp .lt o) ls st H = some (.inl q)) (k : Wq p l e R s m args below meth c Q S0 D g0 (mML M) n0 w0 q) : Wq p l e R s m args below meth c Q S0 D g0 (mML M) n0 w0 (pc, ls, st, H) := by
  have hd := C.2.1 pc _ hm
  have hx := C.1
  cases st with
  | nil => cases h
  | cons v t =>
    cases v with
    | int y =>
      cases t with
      | nil => cases h
      | cons u t =>
        cases u with
        | int x =>
          have h : (aTg pc o).bind _ = _ := h
          cases ht : aTg pc o with
          | none => rw [ht] at h; cases h
          | some tg =>
            rw [ht] at h
            have h : (if x < y then go _ _ _ _ else go _ _ _ _) = _ := h
            split at h
            next hz =>
              have h := go_inj h
              subst h
              intro Hr lsr locs hR hL hl
              exact lv_icmp_lt hx rfl hd (aTg_ok ht) (fun _ => k Hr lsr locs hR hL hl) (fun q => absurd hz q)
            next hz =>
              have h := go_inj h
              subst h
              intro Hr lsr locs hR hL hl
              exact lv_icmp_lt hx rfl hd (aTg_ok ht) (fun q => absurd q hz) (fun _ => k Hr lsr locs hR hL hl)
        | _ => cases h
    | _ => cases h
theorem st_if_ge (C : aCx p s m meth c S0 D g0 M) {pc : Nat} {ls : aLs} {st : List Value} {H : aH} {q : aQ} {o : Int} (hm : mDec M pc = some (.ifCond .ge o, 3)) (h : aS M pc 3 (.ifCond .ge o) ls st H = some (.inl q)) (k : Wq p l e R s m args below meth c Q S0 D g0 (mML M) n0 w0 q) : Wq p l e R s m args below meth c Q S0 D g0 (mML M) n0 w0 (pc, ls, st, H) := by
  have hd := C.2.1 pc _ hm
  have hx := C.1
  cases st with
  | nil => cases h
  | cons v t =>
    cases v with
    | int x =>
      have h : (aTg pc o).bind _ = _ := h
      cases ht : aTg pc o with
      | none => rw [ht] at h; cases h
      | some tg =>
        rw [ht] at h
        have h : (if 0 ≤ x then go _ _ _ _ else go _ _ _ _) = _ := h
        split at h
        next hz =>
          have h := go_inj h
          subst h
          intro Hr lsr locs hR hL hl
          exact lv_if_ge hx rfl hd (aTg_ok ht) (fun _ => k Hr lsr locs hR hL hl) (fun q => absurd hz q)
        next hz =>
          have h := go_inj h
          subst h
          intro Hr lsr locs hR hL hl
          exact lv_if_ge hx rfl hd (aTg_ok ht) (fun q => absurd q hz) (fun _ => k Hr lsr locs hR hL hl)
    | _ => cases h
theorem st_ic_ge (C : aCx p s m meth c S0 D g0 M) {pc : Nat} {ls : aLs} {st : List Value} {H : aH} {q : aQ} {o : Int} (hm : mDec M pc = some (.if_icmp .ge o, 3)) (h : aS M pc 3 (.if_icmp .ge o) ls st H = some (.inl q)) (k : Wq p l e R s m args below meth c Q S0 D g0 (mML M) n0 w0 q) : Wq p l e R s m args below meth c Q S0 D g0 (mML M) n0 w0 (pc, ls, st, H) := by
  have hd := C.2.1 pc _ hm
  have hx := C.1
  cases st with
  | nil => cases h
  | cons v t =>
    cases v with
    | int y =>
      cases t with
      | nil => cases h
      | cons u t =>
        cases u with
        | int x =>
          have h : (aTg pc o).bind _ = _ := h
          cases ht : aTg pc o with
          | none => rw [ht] at h; cases h
          | some tg =>
            rw [ht] at h
            have h : (if y ≤ x then go _ _ _ _ else go _ _ _ _) = _ := h
            split at h
            next hz =>
              have h := go_inj h
              subst h
              intro Hr lsr locs hR hL hl
              exact lv_icmp_ge hx rfl hd (aTg_ok ht) (fun _ => k Hr lsr locs hR hL hl) (fun q => absurd hz q)
            next hz =>
              have h := go_inj h
              subst h
              intro Hr lsr locs hR hL hl
              exact lv_icmp_ge hx rfl hd (aTg_ok ht) (fun q => absurd q hz) (fun _ => k Hr lsr locs hR hL hl)
        | _ => cases h
    | _ => cases h
theorem st_if_gt (C : aCx p s m meth c S0 D g0 M) {pc : Nat} {ls : aLs} {st : List Value} {H : aH} {q : aQ} {o : Int} (hm : mDec M pc = some (.ifCond .gt o, 3)) (h : aS M pc 3 (.ifCond .gt o) ls st H = some (.inl q)) (k : Wq p l e R s m args below meth c Q S0 D g0 (mML M) n0 w0 q) : Wq p l e R s m args below meth c Q S0 D g0 (mML M) n0 w0 (pc, ls, st, H) := by
  have hd := C.2.1 pc _ hm
  have hx := C.1
  cases st with
  | nil => cases h
  | cons v t =>
    cases v with
    | int x =>
      have h : (aTg pc o).bind _ = _ := h
      cases ht : aTg pc o with
      | none => rw [ht] at h; cases h
      | some tg =>
        rw [ht] at h
        have h : (if 0 < x then go _ _ _ _ else go _ _ _ _) = _ := h
        split at h
        next hz =>
          have h := go_inj h
          subst h
          intro Hr lsr locs hR hL hl
          exact lv_if_gt hx rfl hd (aTg_ok ht) (fun _ => k Hr lsr locs hR hL hl) (fun q => absurd hz q)
        next hz =>
          have h := go_inj h
          subst h
          intro Hr lsr locs hR hL hl
          exact lv_if_gt hx rfl hd (aTg_ok ht) (fun q => absurd q hz) (fun _ => k Hr lsr locs hR hL hl)
    | _ => cases h
theorem st_ic_gt (C : aCx p s m meth c S0 D g0 M) {pc : Nat} {ls : aLs} {st : List Value} {H : aH} {q : aQ} {o : Int} (hm : mDec M pc = some (.if_icmp .gt o, 3)) (h : aS M pc 3 (.if_icmp .gt o) ls st H = some (.inl q)) (k : Wq p l e R s m args below meth c Q S0 D g0 (mML M) n0 w0 q) : Wq p l e R s m args below meth c Q S0 D g0 (mML M) n0 w0 (pc, ls, st, H) := by
  have hd := C.2.1 pc _ hm
  have hx := C.1
  cases st with
  | nil => cases h
  | cons v t =>
    cases v with
    | int y =>
      cases t with
      | nil => cases h
      | cons u t =>
        cases u with
        | int x =>
          have h : (aTg pc o).bind _ = _ := h
          cases ht : aTg pc o with
          | none => rw [ht] at h; cases h
          | some tg =>
            rw [ht] at h
            have h : (if y < x then go _ _ _ _ else go _ _ _ _) = _ := h
            split at h
            next hz =>
              have h := go_inj h
              subst h
              intro Hr lsr locs hR hL hl
              exact lv_icmp_gt hx rfl hd (aTg_ok ht) (fun _ => k Hr lsr locs hR hL hl) (fun q => absurd hz q)
            next hz =>
              have h := go_inj h
              subst h
              intro Hr lsr locs hR hL hl
              exact lv_icmp_gt hx rfl hd (aTg_ok ht) (fun q => absurd q hz) (fun _ => k Hr lsr locs hR hL hl)
        | _ => cases h
    | _ => cases h
theorem st_if_le (C : aCx p s m meth c S0 D g0 M) {pc : Nat} {ls : aLs} {st : List Value} {H : aH} {q : aQ} {o : Int} (hm : mDec M pc = some (.ifCond .le o, 3)) (h : aS M pc 3 (.ifCond .le o) ls st H = some (.inl q)) (k : Wq p l e R s m args below meth c Q S0 D g0 (mML M) n0 w0 q) : Wq p l e R s m args below meth c Q S0 D g0 (mML M) n0 w0 (pc, ls, st, H) := by
  have hd := C.2.1 pc _ hm
  have hx := C.1
  cases st with
  | nil => cases h
  | cons v t =>
    cases v with
    | int x =>
      have h : (aTg pc o).bind _ = _ := h
      cases ht : aTg pc o with
      | none => rw [ht] at h; cases h
      | some tg =>
        rw [ht] at h
        have h : (if x ≤ 0 then go _ _ _ _ else go _ _ _ _) = _ := h
        split at h
        next hz =>
          have h := go_inj h
          subst h
          intro Hr lsr locs hR hL hl
          exact lv_if_le hx rfl hd (aTg_ok ht) (fun _ => k Hr lsr locs hR hL hl) (fun q => absurd hz q)
        next hz =>
          have h := go_inj h
          subst h
          intro Hr lsr locs hR hL hl
          exact lv_if_le hx rfl hd (aTg_ok ht) (fun q => absurd q hz) (fun _ => k Hr lsr locs hR hL hl)
    | _ => cases h
theorem st_ic_le (C : aCx p s m meth c S0 D g0 M) {pc : Nat} {ls : aLs} {st : List Value} {H : aH} {q : aQ} {o : Int} (hm : mDec M pc = some (.if_icmp .le o, 3)) (h : aS M pc 3 (.if_icmp .le o) ls st H = some (.inl q)) (k : Wq p l e R s m args below meth c Q S0 D g0 (mML M) n0 w0 q) : Wq p l e R s m args below meth c Q S0 D g0 (mML M) n0 w0 (pc, ls, st, H) := by
  have hd := C.2.1 pc _ hm
  have hx := C.1
  cases st with
  | nil => cases h
  | cons v t =>
    cases v with
    | int y =>
      cases t with
      | nil => cases h
      | cons u t =>
        cases u with
        | int x =>
          have h : (aTg pc o).bind _ = _ := h
          cases ht : aTg pc o with
          | none => rw [ht] at h; cases h
          | some tg =>
            rw [ht] at h
            have h : (if x ≤ y then go _ _ _ _ else go _ _ _ _) = _ := h
            split at h
            next hz =>
              have h := go_inj h
              subst h
              intro Hr lsr locs hR hL hl
              exact lv_icmp_le hx rfl hd (aTg_ok ht) (fun _ => k Hr lsr locs hR hL hl) (fun q => absurd hz q)
            next hz =>
              have h := go_inj h
              subst h
              intro Hr lsr locs hR hL hl
              exact lv_icmp_le hx rfl hd (aTg_ok ht) (fun q => absurd q hz) (fun _ => k Hr lsr locs hR hL hl)
        | _ => cases h
    | _ => cases h
theorem st_ifnull (C : aCx p s m meth c S0 D g0 M) {pc : Nat} {ls : aLs} {st : List Value} {H : aH} {q : aQ} {o : Int} (hm : mDec M pc = some (.ifnull o, 3)) (h : aS M pc 3 (.ifnull o) ls st H = some (.inl q)) (k : Wq p l e R s m args below meth c Q S0 D g0 (mML M) n0 w0 q) : Wq p l e R s m args below meth c Q S0 D g0 (mML M) n0 w0 (pc, ls, st, H) := by
  have hd := C.2.1 pc _ hm
  have hx := C.1
  cases st with
  | nil => cases h
  | cons v t =>
    cases v with
    | ref a =>
      have h := go_inj (show go _ _ _ _ = _ from h)
      subst h
      intro Hr lsr locs hR hL hl
      exact lv_ifnull hx rfl hd (k Hr lsr locs hR hL hl)
    | null =>
      have h : (aTg pc o).bind _ = _ := h
      cases ht : aTg pc o with
      | none => rw [ht] at h; cases h
      | some tg =>
        rw [ht] at h
        have h := go_inj (show go _ _ _ _ = _ from h)
        subst h
        intro Hr lsr locs hR hL hl
        exact lv_ifnullN hx rfl hd (aTg_ok ht) (k Hr lsr locs hR hL hl)
    | _ => cases h
theorem st_ifnonnull (C : aCx p s m meth c S0 D g0 M) {pc : Nat} {ls : aLs} {st : List Value} {H : aH} {q : aQ} {o : Int} (hm : mDec M pc = some (.ifnonnull o, 3)) (h : aS M pc 3 (.ifnonnull o) ls st H = some (.inl q)) (k : Wq p l e R s m args below meth c Q S0 D g0 (mML M) n0 w0 q) : Wq p l e R s m args below meth c Q S0 D g0 (mML M) n0 w0 (pc, ls, st, H) := by
  have hd := C.2.1 pc _ hm
  have hx := C.1
  cases st with
  | nil => cases h
  | cons v t =>
    cases v with
    | ref a =>
      have h : (aTg pc o).bind _ = _ := h
      cases ht : aTg pc o with
      | none => rw [ht] at h; cases h
      | some tg =>
        rw [ht] at h
        have h := go_inj (show go _ _ _ _ = _ from h)
        subst h
        intro Hr lsr locs hR hL hl
        exact lv_ifnonnull hx rfl hd (aTg_ok ht) (k Hr lsr locs hR hL hl)
    | null =>
      have h := go_inj (show go _ _ _ _ = _ from h)
      subst h
      intro Hr lsr locs hR hL hl
      exact lv_ifnonnullN hx rfl hd (k Hr lsr locs hR hL hl)
    | _ => cases h
theorem st_acmp (C : aCx p s m meth c S0 D g0 M) {pc : Nat} {ls : aLs} {st : List Value} {H : aH} {q : aQ} {o : Int} (hm : mDec M pc = some (.if_acmp .ne o, 3)) (h : aS M pc 3 (.if_acmp .ne o) ls st H = some (.inl q)) (k : Wq p l e R s m args below meth c Q S0 D g0 (mML M) n0 w0 q) : Wq p l e R s m args below meth c Q S0 D g0 (mML M) n0 w0 (pc, ls, st, H) := by
  have hd := C.2.1 pc _ hm
  have hx := C.1
  cases st with
  | nil => cases h
  | cons v t =>
    cases v with
    | ref b =>
      cases t with
      | nil => cases h
      | cons u t =>
        cases u with
        | ref a =>
          have h : (if (H.1 a).isSome = true ∧ (H.1 b).isSome = true then (aTg pc o).bind fun tg => if a = b then go _ _ _ _ else go _ _ _ _ else none) = _ := h
          split at h
          next hz =>
            cases ht : aTg pc o with
            | none => rw [ht] at h; cases h
            | some tg =>
              rw [ht] at h
              have h : (if a = b then go _ _ _ _ else go _ _ _ _) = _ := h
              split at h
              next hab =>
                have h := go_inj h
                subst h
                intro Hr lsr locs hR hL hl
                exact lv_acmp_ne (rx := some a) (ry := some b) hx rfl hd (aTg_ok ht) (fun q => absurd (by rw [hab]) q) (fun _ => k Hr lsr locs hR hL hl)
              next hab =>
                have h := go_inj h
                subst h
                intro Hr lsr locs hR hL hl
                exact lv_acmp_ne (rx := some a) (ry := some b) hx rfl hd (aTg_ok ht) (fun _ => k Hr lsr locs hR hL hl) (fun q => absurd (Option.some.inj q) hab)
          next => cases h
        | _ => cases h
    | _ => cases h
theorem st_tsw (C : aCx p s m meth c S0 D g0 M) {pc len : Nat} {ls : aLs} {st : List Value} {H : aH} {q : aQ} {df lo hi : Int} {offs : Array Int} (hm : mDec M pc = some (.tableswitch df lo hi offs, len)) (h : aS M pc len (.tableswitch df lo hi offs) ls st H = some (.inl q)) (k : Wq p l e R s m args below meth c Q S0 D g0 (mML M) n0 w0 q) : Wq p l e R s m args below meth c Q S0 D g0 (mML M) n0 w0 (pc, ls, st, H) := by
  have hd := C.2.1 pc _ hm
  have hx := C.1
  cases st with
  | nil => cases h
  | cons v t =>
    cases v with
    | int x =>
      have h : (if x.toInt < lo ∨ hi < x.toInt then (aTg pc df).bind fun tg => go tg ls t H else (offs[(x.toInt - lo).toNat]?).bind fun o => (aTg pc o).bind fun tg => go tg ls t H) = _ := h
      split at h
      next hz =>
        cases ht : aTg pc df with
        | none => rw [ht] at h; cases h
        | some tg =>
          rw [ht] at h
          have h := go_inj (show go _ _ _ _ = _ from h)
          subst h
          intro Hr lsr locs hR hL hl
          exact lv_tableOut hx rfl hd hz (aTg_ok ht) (k Hr lsr locs hR hL hl)
      next hz =>
        cases ho : offs[(x.toInt - lo).toNat]? with
        | none => rw [ho] at h; cases h
        | some o =>
          rw [ho] at h
          have h : (aTg pc o).bind _ = _ := h
          cases ht : aTg pc o with
          | none => rw [ht] at h; cases h
          | some tg =>
            rw [ht] at h
            have h := go_inj (show go _ _ _ _ = _ from h)
            subst h
            intro Hr lsr locs hR hL hl
            exact lv_tableIn hx rfl hd (fun q => hz (Or.inl q)) (fun q => hz (Or.inr q)) ho (aTg_ok ht) (k Hr lsr locs hR hL hl)
    | _ => cases h
end
end
section
/-! ===== .. the steps that read and write cells ===== -/
theorem arr_in {cA : ClassId} {N : Nat} {f : Nat → Value} {j : Int32} (h : inB j N = true) : ¬ (j < 0 ∨ (arrV cA N f).slots.size ≤ j.toNatClampNeg) := by
  rw [arrV_size]; exact (inB_ok h).1
theorem updV_i (f : Nat → Int32) (j : Nat) (x : Int32) : updV (fun q => .int (f q)) j (.int x) = fun q => .int (upd f j x q) := by
  funext q
  unfold updV upd
  by_cases e : q = j
  · rw [if_pos e, if_pos e]
  · rw [if_neg e, if_neg e]
theorem updV_l (f : Nat → Int64) (j : Nat) (x : Int64) : updV (fun q => .long (f q)) j (.long x) = fun q => .long (vp_updL f j x q) := by
  funext q
  unfold updV vp_updL
  by_cases e : q = j
  · rw [if_pos e, if_pos e]
  · rw [if_neg e, if_neg e]
theorem updV_o (f : Nat → Option Nat) (j : Nat) (x : Nat) : updV (fun q => va_rf (f q)) j (.ref x) = fun q => va_rf (updO f j (some x) q) := by
  funext q
  unfold updV updO
  by_cases e : q = j
  · rw [if_pos e, if_pos e]; rfl
  · rw [if_neg e, if_neg e]
section
variable {p : Program} {l : Launch} {e : Env} {R : Room} {s : State} {m : MethodId} {args : Array Value} {below : List Frame} {meth : Method} {c : Code} {Q : State → Prop} {S0 : State} {D : va_G} {g0 : Nat × Nat} {M n0 w0 : Nat}
theorem cx_arr (C : aCx p s m meth c S0 D g0 M) {cA : ClassId} {ty : FieldType} (h : ArrOfT S0 cA ty) (N : Nat) (z : Nat → Value) : s.isArrayOf (arrV cA N z) ty := arrOfT_moved C.2.2.2.2.2.2.2.2.2.2.2.2 h N z
theorem wr_some {h h' : aHf} {a : Nat} {x : Option aC} (e : wr h a x = some h') : ∃ c', x = some c' ∧ h' = aup h a c' := by
  unfold wr at e
  cases x with
  | none => cases e
  | some c' => exact ⟨c', rfl, (Option.some.inj e).symm⟩
theorem st_alen (C : aCx p s m meth c S0 D g0 M) {pc : Nat} {ls : aLs} {st : List Value} {H : aH} {q : aQ} (hm : mDec M pc = some (.arraylength, 1)) (h : aS M pc 1 .arraylength ls st H = some (.inl q)) (k : Wq p l e R s m args below meth c Q S0 D g0 (mML M) n0 w0 q) : Wq p l e R s m args below meth c Q S0 D g0 (mML M) n0 w0 (pc, ls, st, H) := by
  have hd := C.2.1 pc _ hm
  have hx := C.1
  cases st with
  | nil => cases h
  | cons v t =>
    cases v with
    | ref a =>
      have h : (gN (H.1 a)).bind _ = _ := h
      intro Hr lsr locs hR hL hl
      cases hc : H.1 a with
      | none => rw [hc] at h; cases h
      | some x =>
        have hg := hR.2.1 a x hc
        rw [hc] at h
        match x, hg, h with
        | .inl (ty, N, .inl f), hg, h =>
          obtain ⟨cl, ty', e1, e2, -, e3, -⟩ := gI9_rd hg
          have h := go_inj (show go _ _ _ _ = _ from h)
          subst h
          exact W.alen hx rfl e1 (State.isArrayOf_alike C.2.2.2.2.2.2.2.2.2.2.2.2 e2) (by rw [e3]; rfl) rfl rfl hd (k Hr lsr locs hR hL hl)
        | .inl (ty, N, .inr (.inl f)), hg, h =>
          obtain ⟨cA, e1, e2, -⟩ := hg
          have h := go_inj (show go _ _ _ _ = _ from h)
          subst h
          exact W.alen hx rfl e1 (cx_arr C e2 _ _) (by rw [arrV_size]; rfl) rfl rfl hd (k Hr lsr locs hR hL hl)
        | .inl (ty, N, .inr (.inr (.inr (.inr f)))), hg, h =>
          obtain ⟨cA, e1, e2, -⟩ := hg
          have h := go_inj (show go _ _ _ _ = _ from h)
          subst h
          exact W.alen hx rfl e1 (cx_arr C e2 _ _) (by rw [arrV_size]; rfl) rfl rfl hd (k Hr lsr locs hR hL hl)
        | .inr o, hg, h => cases h
    | _ => cases h
theorem gI_ok {x : aC} {j v : Int32} (h : gI (some x) j = some v) : ∃ ty N f, x = .inl (ty, N, .inl f) ∧ (ty = .int ∨ ty = .float) ∧ inB j N = true ∧ f j.toNatClampNeg = v := by
  match x, h with
  | .inl (.int, N, .inl f), h =>
    have h : (if inB j N then some (f j.toNatClampNeg) else none) = some v := h
    split at h
    next hb => exact ⟨_, N, f, rfl, Or.inl rfl, hb, Option.some.inj h⟩
    next => cases h
  | .inl (.float, N, .inl f), h =>
    have h : (if inB j N then some (f j.toNatClampNeg) else none) = some v := h
    split at h
    next hb => exact ⟨_, N, f, rfl, Or.inr rfl, hb, Option.some.inj h⟩
    next => cases h
theorem st_iald (C : aCx p s m meth c S0 D g0 M) {pc : Nat} {ls : aLs} {st : List Value} {H : aH} {q : aQ} (hm : mDec M pc = some (.iaload, 1)) (h : aS M pc 1 .iaload ls st H = some (.inl q)) (k : Wq p l e R s m args below meth c Q S0 D g0 (mML M) n0 w0 q) : Wq p l e R s m args below meth c Q S0 D g0 (mML M) n0 w0 (pc, ls, st, H) := by
  have hd := C.2.1 pc _ hm
  have hx := C.1
  match st, h with
  | .int j :: .ref a :: t, h =>
    have h : (gI (H.1 a) j).bind _ = _ := h
    intro Hr lsr locs hR hL hl
    cases hc : H.1 a with
    | none => rw [hc] at h; cases h
    | some x =>
      rw [hc] at h
      cases hv : gI (some x) j with
      | none => rw [hv] at h; cases h
      | some v =>
        rw [hv] at h
        have h := go_inj (show go _ _ _ _ = _ from h)
        subst h
        obtain ⟨ty, N, f, rfl, hty, hb, rfl⟩ := gI_ok hv
        obtain ⟨cl, ty', e1, e2, e3, e6, e7, e4, e5⟩ := gI9_rd (hR.2.1 a _ hc)
        have hi : ty' = .int := by
          rcases hty with rfl | rfl
          · rcases e4 with e4 | e4
            · exact e4.symm
            · cases e4.1
          · rcases e4 with e4 | e4
            · subst e4; rcases e5 with e5 | e5 <;> cases e5
            · exact e4.2
        subst hi
        exact W.iald hx rfl e1 (State.isArrayOf_alike C.2.2.2.2.2.2.2.2.2.2.2.2 e2) e3 (by rw [e6]; exact (inB_ok hb).1) (e7 _ (inB_ok hb).2) rfl rfl hd (k Hr lsr locs hR hL hl)
theorem st_lald (C : aCx p s m meth c S0 D g0 M) {pc : Nat} {ls : aLs} {st : List Value} {H : aH} {q : aQ} (hm : mDec M pc = some (.laload, 1)) (h : aS M pc 1 .laload ls st H = some (.inl q)) (k : Wq p l e R s m args below meth c Q S0 D g0 (mML M) n0 w0 q) : Wq p l e R s m args below meth c Q S0 D g0 (mML M) n0 w0 (pc, ls, st, H) := by
  have hd := C.2.1 pc _ hm
  have hx := C.1
  match st, h with
  | .int j :: .ref a :: t, h =>
    have h : (gL (H.1 a) j).bind _ = _ := h
    intro Hr lsr locs hR hL hl
    cases hc : H.1 a with
    | none => rw [hc] at h; cases h
    | some x =>
      rw [hc] at h
      match x, h, hc with
      | .inl (ty, N, .inr (.inl f)), h, hc =>
        have h : (if inB j N then some (f j.toNatClampNeg) else none).bind _ = _ := h
        split at h
        next hb =>
          have h := go_inj (show go _ _ _ _ = _ from h)
          subst h
          obtain ⟨cA, e1, e2, -, e4, -⟩ := hR.2.1 a _ hc
          subst e4
          exact W.lald hx rfl e1 (cx_arr C e2 _ _) (fun z => by cases z) (arr_in hb) (arrV_read _ _ (inB_ok hb).2) rfl rfl hd (k Hr lsr locs hR hL hl)
        next => cases h
theorem st_bald (C : aCx p s m meth c S0 D g0 M) {pc : Nat} {ls : aLs} {st : List Value} {H : aH} {q : aQ} (hm : mDec M pc = some (.baload, 1)) (h : aS M pc 1 .baload ls st H = some (.inl q)) (k : Wq p l e R s m args below meth c Q S0 D g0 (mML M) n0 w0 q) : Wq p l e R s m args below meth c Q S0 D g0 (mML M) n0 w0 (pc, ls, st, H) := by
  have hd := C.2.1 pc _ hm
  have hx := C.1
  match st, h with
  | .int j :: .ref a :: t, h =>
    have h : (gZ (H.1 a) j).bind _ = _ := h
    intro Hr lsr locs hR hL hl
    cases hc : H.1 a with
    | none => rw [hc] at h; cases h
    | some x =>
      rw [hc] at h
      match x, h, hc with
      | .inl (.boolean, N, .inl f), h, hc =>
        have h : (if inB j N then some (f j.toNatClampNeg) else none).bind _ = _ := h
        split at h
        next hb =>
          have h := go_inj (show go _ _ _ _ = _ from h)
          subst h
          obtain ⟨cA, ty', e1, e2, -, e4, -⟩ := hR.2.1 a _ hc
          rcases e4 with e4 | e4
          · subst e4
            exact W.zald hx rfl e1 (cx_arr C e2 _ _) (fun z => by cases z) (arr_in hb) (arrV_read _ _ (inB_ok hb).2) rfl rfl hd (k Hr lsr locs hR hL hl)
          · cases e4.1
        next => cases h
theorem st_aald (C : aCx p s m meth c S0 D g0 M) {pc : Nat} {ls : aLs} {st : List Value} {H : aH} {q : aQ} (hm : mDec M pc = some (.aaload, 1)) (h : aS M pc 1 .aaload ls st H = some (.inl q)) (k : Wq p l e R s m args below meth c Q S0 D g0 (mML M) n0 w0 q) : Wq p l e R s m args below meth c Q S0 D g0 (mML M) n0 w0 (pc, ls, st, H) := by
  have hd := C.2.1 pc _ hm
  have hx := C.1
  match st, h with
  | .int j :: .ref a :: t, h =>
    have h : (gP (H.1 a) j).bind _ = _ := h
    intro Hr lsr locs hR hL hl
    cases hc : H.1 a with
    | none => rw [hc] at h; cases h
    | some x =>
      rw [hc] at h
      match x, h, hc with
      | .inl (ty, N, .inr (.inr (.inr (.inr f)))), h, hc =>
        have h : (if inB j N then some (va_rf (f j.toNatClampNeg)) else none).bind _ = _ := h
        split at h
        next hb =>
          have h := go_inj (show go _ _ _ _ = _ from h)
          subst h
          obtain ⟨cA, e1, e2, -, e4, -⟩ := hR.2.1 a _ hc
          exact W.aald hx rfl e1 (cx_arr C e2 _ _) e4 (fun z => by cases z) (arr_in hb) (arrV_read _ _ (inB_ok hb).2) rfl rfl hd (k Hr lsr locs hR hL hl)
        next => cases h
theorem hl_app {locs : List Loc} {a j n : Nat} (hl : ∀ z ∈ locs, n ≤ z.base) (ha : n ≤ a) : ∀ z ∈ locs ++ [(⟨a, j⟩ : Loc)], n ≤ z.base := by
  intro z hz
  rcases List.mem_append.mp hz with hz | hz
  · exact hl z hz
  · rw [List.mem_singleton.mp hz]; exact ha
theorem st_iast (C : aCx p s m meth c S0 D g0 M) {pc : Nat} {ls : aLs} {st : List Value} {H : aH} {q : aQ} (hm : mDec M pc = some (.iastore, 1)) (h : aS M pc 1 .iastore ls st H = some (.inl q)) (k : Wq p l e R s m args below meth c Q S0 D g0 (mML M) n0 w0 q) : Wq p l e R s m args below meth c Q S0 D g0 (mML M) n0 w0 (pc, ls, st, H) := by
  have hd := C.2.1 pc _ hm
  have hx := C.1
  match st, h with
  | .int y :: .int j :: .ref a :: t, h =>
    have h : (wr H.1 a (sI (H.1 a) j y)).bind _ = _ := h
    intro Hr lsr locs hR hL hl
    cases hc : H.1 a with
    | none => rw [hc] at h; cases h
    | some x =>
      rw [hc] at h
      match x, h, hc with
      | .inl (.int, N, .inl f), h, hc =>
        have h : (wr H.1 a (if inB j N then some (aI .int N (upd f j.toNatClampNeg y)) else none)).bind _ = _ := h
        split at h
        next hb =>
          have h := go_inj (show go _ _ _ _ = _ from h)
          subst h
          obtain ⟨cA, ty', e1, e2, e3, e4, e5, e6⟩ := hR.2.1 a _ hc
          have ha : S0.heap.size ≤ a := by
            rcases hR.2.2.1 a _ hc with z | z
            · cases z
            · exact z
          rcases e4 with e4 | e4
          · subst e4
            refine W.iast hx rfl e1 (cx_arr C e2 _ _) (fun z => by cases z) (arr_in hb) rfl rfl hd (fun H' f1 f2 f3 => ?_)
            exact k H' lsr _ (gR_put hR f2 f3 ⟨cA, .int, by rw [f1, arrV_store, updV_i], e2, e3, Or.inl rfl, e5, e6⟩ ha) hL (hl_app hl ha)
          · cases e4.1
        next => cases h
theorem st_bast (C : aCx p s m meth c S0 D g0 M) {pc : Nat} {ls : aLs} {st : List Value} {H : aH} {q : aQ} (hm : mDec M pc = some (.bastore, 1)) (h : aS M pc 1 .bastore ls st H = some (.inl q)) (k : Wq p l e R s m args below meth c Q S0 D g0 (mML M) n0 w0 q) : Wq p l e R s m args below meth c Q S0 D g0 (mML M) n0 w0 (pc, ls, st, H) := by
  have hd := C.2.1 pc _ hm
  have hx := C.1
  match st, h with
  | .int y :: .int j :: .ref a :: t, h =>
    have h : (wr H.1 a (sZ (H.1 a) j y)).bind _ = _ := h
    intro Hr lsr locs hR hL hl
    cases hc : H.1 a with
    | none => rw [hc] at h; cases h
    | some x =>
      rw [hc] at h
      match x, h, hc with
      | .inl (.boolean, N, .inl f), h, hc =>
        have h : (wr H.1 a (if inB j N && (y == 0 || y == 1) then some (aI .boolean N (upd f j.toNatClampNeg y)) else none)).bind _ = _ := h
        split at h
        next hb =>
          simp only [Bool.and_eq_true, Bool.or_eq_true, beq_iff_eq] at hb
          obtain ⟨hb, hy⟩ := hb
          have h := go_inj (show go _ _ _ _ = _ from h)
          subst h
          obtain ⟨cA, ty', e1, e2, e3, e4, e5, e6⟩ := hR.2.1 a _ hc
          have ha : S0.heap.size ≤ a := by
            rcases hR.2.2.1 a _ hc with z | z
            · cases z
            · exact z
          have hy : narrow .boolean (.int y) = .int y := by rcases hy with rfl | rfl <;> decide
          rcases e4 with e4 | e4
          · subst e4
            refine W.zast hx rfl e1 (cx_arr C e2 _ _) (fun z => by cases z) (arr_in hb) rfl rfl hd (fun H' f1 f2 f3 => ?_)
            rw [hy] at f1
            exact k H' lsr _ (gR_put hR f2 f3 ⟨cA, .boolean, by rw [f1, arrV_store, updV_i], e2, e3, Or.inl rfl, e5, e6⟩ ha) hL (hl_app hl ha)
          · cases e4.1
        next => cases h
theorem st_last (C : aCx p s m meth c S0 D g0 M) {pc : Nat} {ls : aLs} {st : List Value} {H : aH} {q : aQ} (hm : mDec M pc = some (.lastore, 1)) (h : aS M pc 1 .lastore ls st H = some (.inl q)) (k : Wq p l e R s m args below meth c Q S0 D g0 (mML M) n0 w0 q) : Wq p l e R s m args below meth c Q S0 D g0 (mML M) n0 w0 (pc, ls, st, H) := by
  have hd := C.2.1 pc _ hm
  have hx := C.1
  match st, h with
  | .long y :: .int j :: .ref a :: t, h =>
    have h : (wr H.1 a (sL (H.1 a) j y)).bind _ = _ := h
    intro Hr lsr locs hR hL hl
    cases hc : H.1 a with
    | none => rw [hc] at h; cases h
    | some x =>
      rw [hc] at h
      match x, h, hc with
      | .inl (.long, N, .inr (.inl f)), h, hc =>
        have h : (wr H.1 a (if inB j N then some (aL N (vp_updL f j.toNatClampNeg y)) else none)).bind _ = _ := h
        split at h
        next hb =>
          have h := go_inj (show go _ _ _ _ = _ from h)
          subst h
          obtain ⟨cA, e1, e2, e3, e4, e6⟩ := hR.2.1 a _ hc
          have ha : S0.heap.size ≤ a := by
            rcases hR.2.2.1 a _ hc with z | z
            · cases z
            · exact z
          refine W.last hx rfl e1 (cx_arr C e2 _ _) (fun z => by cases z) (arr_in hb) rfl rfl hd (fun H' f1 f2 f3 => ?_)
          exact k H' lsr _ (gR_put hR f2 f3 ⟨cA, by rw [f1, arrV_store, updV_l], e2, e3, rfl, e6⟩ ha) hL (hl_app hl ha)
        next => cases h
theorem fF_ok {k : Nat} {q : Nat × Nat × Nat × Nat} (h : fnd3 aFT (mOc M) k = some q) : ∃ (r : vw_C) (O : String), aCl[q.1]? = some r ∧ aON[mOc M]? = some O ∧ tb q.2.2.2 = some (.fieldLink O k r.1 (r.2.1 q.2.1).2.1 (r.2.1 q.2.1).2.2.1) ∧ q.2.1 < r.2.2 ∧ (r.2.1 q.2.1).1 = r.1 ∧ (parseFieldDescriptor (r.2.1 q.2.1).2.2.1).map kdOf = some q.2.2.1 := by
  have hk := List.all_eq_true.mp okF _ (fnd3_mem h)
  obtain ⟨ci, j, tc, p9⟩ := q
  unfold chkF at hk
  dsimp only at hk
  cases h1 : aCl[ci]? with
  | none => simp only [h1] at hk; exact absurd hk (by decide)
  | some r =>
    cases h2 : aON[mOc M]? with
    | none => obtain ⟨C9, T9, N9⟩ := r; simp only [h1, h2] at hk; exact absurd hk (by decide)
    | some O =>
      obtain ⟨C9, T9, N9⟩ := r
      simp only [h1, h2, Bool.and_eq_true, decide_eq_true_eq] at hk
      obtain ⟨⟨⟨a1, a2⟩, a3⟩, a4⟩ := hk
      exact ⟨_, O, rfl, rfl, a1, a2, a3, a4⟩
theorem st_getf (C : aCx p s m meth c S0 D g0 M) {pc j : Nat} {ls : aLs} {st : List Value} {H : aH} {q : aQ} (hm : mDec M pc = some (.getfield j, 3)) (h : aS M pc 3 (.getfield j) ls st H = some (.inl q)) (k : Wq p l e R s m args below meth c Q S0 D g0 (mML M) n0 w0 q) : Wq p l e R s m args below meth c Q S0 D g0 (mML M) n0 w0 (pc, ls, st, H) := by
  have hd := C.2.1 pc _ hm
  have hx := C.1
  match st, h with
  | .ref a :: t, h =>
    have h : (fnd3 aFT (mOc M) j).bind _ = _ := h
    cases hf : fnd3 aFT (mOc M) j with
    | none => rw [hf] at h; cases h
    | some u =>
      rw [hf] at h
      have h : (gF (H.1 a) u.1 u.2.1).bind _ = _ := h
      obtain ⟨r, O, a1, a2, a3, a4, a5, -⟩ := fF_ok hf
      obtain ⟨O', b1, b2⟩ := C.2.2.2.1
      rw [a2] at b1; cases b1
      intro Hr lsr locs hR hL hl
      cases hc : H.1 a with
      | none => rw [hc] at h; cases h
      | some x =>
        rw [hc] at h
        match x, h, hc with
        | .inr (cj, fs), h, hc =>
          replace h : (if cj = u.1 then fs[u.2.1]? else none).bind _ = _ := h
          split at h
          next hcj =>
            subst hcj
            cases hv : fs[u.2.1]? with
            | none => rw [hv] at h; cases h
            | some v =>
              rw [hv] at h
              have h := go_inj (show go _ _ _ _ = _ from h)
              subst h
              obtain ⟨r', c1, c2, cell, q1, q2, q3, q4⟩ := hR.2.1 a _ hc
              rw [a1] at c1; cases c1
              replace q3 : cell.vm = .none := q3
              obtain ⟨hS, hfc, kC, hkC, hkind⟩ := cx_Kn C a1
              obtain ⟨cf, kf, fi, fd, hi, hsl⟩ := hS _ a4
              have hw := cx_u (args := args) C a1
              have hlink := cx_tb (args := args) C a3 rfl
              rw [a5] at hi
              refine W.getf hx rfl b2 hlink hi (u_facts hfc hkC (u_lays hw (fun w h => h) a4) (by rw [a5]; exact hi)).1 q1 (by rw [q3]; exact fun z => by cases z) (v := v) ?_ rfl rfl hd (k Hr lsr locs hR hL hl)
              rw [hsl, q4 _ a4]
              simp [vp_V, hv]
          next => cases h
theorem fin_ok {ci j : Nat} {r : vw_C} (h : finB M ci j = true) (hr : aCl[ci]? = some r) : (r.2.1 j).2.2.2 = false ∨ (mNm M = "<init>" ∧ aON[mOc M]? = some r.1) := by
  unfold finB at h
  obtain ⟨C9, T9, N9⟩ := r
  rw [hr] at h
  simp only [Bool.or_eq_true, Bool.not_eq_true', Bool.and_eq_true, beq_iff_eq] at h
  exact h
theorem st_putf (C : aCx p s m meth c S0 D g0 M) {pc j : Nat} {ls : aLs} {st : List Value} {H : aH} {q : aQ} (hm : mDec M pc = some (.putfield j, 3)) (h : aS M pc 3 (.putfield j) ls st H = some (.inl q)) (k : Wq p l e R s m args below meth c Q S0 D g0 (mML M) n0 w0 q) : Wq p l e R s m args below meth c Q S0 D g0 (mML M) n0 w0 (pc, ls, st, H) := by
  have hd := C.2.1 pc _ hm
  have hx := C.1
  match st, h with
  | v :: .ref a :: t, h =>
    have h : (fnd3 aFT (mOc M) j).bind _ = _ := h
    cases hf : fnd3 aFT (mOc M) j with
    | none => rw [hf] at h; cases h
    | some u =>
      rw [hf] at h
      have h : (if finB M u.1 u.2.1 then (wr H.1 a (sF (H.1 a) u.1 u.2.1 u.2.2.1 v)).bind _ else none) = _ := h
      obtain ⟨r, O, a1, a2, a3, a4, a5, a6⟩ := fF_ok hf
      obtain ⟨O', b1, b2⟩ := C.2.2.2.1
      rw [a2] at b1; cases b1
      split at h
      next hfin =>
        intro Hr lsr locs hR hL hl
        cases hc : H.1 a with
        | none => rw [hc] at h; cases h
        | some x =>
          rw [hc] at h
          match x, h, hc with
          | .inr (cj, fs), h, hc =>
            replace h : (wr H.1 a (if cj = u.1 ∧ u.2.1 < fs.length ∧ fitK u.2.2.1 v = true then some (aB u.1 (fs.set u.2.1 v)) else none)).bind _ = _ := h
            split at h
            next hcj =>
              obtain ⟨rfl, hlt, hfit⟩ := hcj
              have h := go_inj (show go _ _ _ _ = _ from h)
              subst h
              obtain ⟨r', c1, c2, cell, q1, q2, q3, q4⟩ := hR.2.1 a _ hc
              rw [a1] at c1; cases c1
              replace q3 : cell.vm = .none := q3
              have ha : S0.heap.size ≤ a := by
                rcases hR.2.2.1 a _ hc with z | z
                · exact z.elim
                · exact z
              have hap := cx_ap C a1
              obtain ⟨hS, hfc, kC, hkC, hkind⟩ := cx_Kn C a1
              obtain ⟨cf, kf, fi, fd, hi, hsl⟩ := hS _ a4
              have hw := cx_u (args := args) C a1
              have hlink := cx_tb (args := args) C a3 rfl
              have hi' := hi
              rw [a5] at hi'
              cases hty : parseFieldDescriptor (r.2.1 u.2.1).2.2.1 with
              | none => rw [hty] at a6; cases a6
              | some ty =>
                rw [hty] at a6
                obtain ⟨f1, f2⟩ := fitK_ok hfit (Option.some.inj a6)
                have hlay := hw _ (u_in_lay a4)
                have hst := (u_facts hfc hkC (u_lays hw (fun w h => h) a4) hi).1
                have fin : ∀ H' : Heap, H'[a]? = some (cell.setSlot fd.slot v) → H'.size = Hr.size → (∀ q, q ≠ a → H'[q]? = Hr[q]?) → gR D S0 g0 (aup H.1 a (aB u.1 (fs.set u.2.1 v)), H.2) H' := by
                  intro H' e1 e2 e3
                  rw [hsl] at e1
                  exact gR_put hR e2 e3 ⟨_, a1, by rw [List.length_set]; exact c2, ob_mk (t_OB.to (V := updV (vp_V fs) u.2.1 v) ⟨_, e1, q2, q3, t_set q4 hap a4 v⟩ (fun j9 _ => vp_updV_set hlt v j9))⟩ ha
                rcases fin_ok hfin a1 with hz | ⟨hz1, hz2⟩
                · unfold u_lay at hlay
                  rw [if_neg (by rw [hz]; decide)] at hlay
                  have h6 := u_store hfc hkC hkind hlay hi hty f1 f2
                  exact W.putK hx rfl (f := fd) ⟨b2, hlink, ⟨_, _, _, hi'⟩, hst⟩ (by rw [q2]; exact h6) q1 q3 (by rw [hsl]; exact k2_hasslot (q4 _ a4)) rfl rfl hd (fun H' e1 e2 e3 => k H' lsr _ (fin H' e1 e2 e3) hL (hl_app hl ha))
                · by_cases hz : (r.2.1 u.2.1).2.2.2 = true
                  · unfold u_lay at hlay
                    rw [if_pos hz] at hlay
                    have hcf : m.cls = cf := by
                      obtain ⟨_, _, c', _, _, _, -, -, hf', -, -, -, hown2, -⟩ := Cond.laysFinal_spec hlay
                      have e1 : c' = cf := by have := hi.symm.trans hf'; simp at this; exact this.1.symm
                      rw [a5] at hown2
                      rw [a2] at hz2
                      cases hz2
                      rw [← e1]; exact Option.some.inj (b2.symm.trans hown2)
                    have h6 := u_fits hfc hkC hkind (Or.inr hlay) hi hty f1 f2
                    exact W.putFinK hx rfl b2 hlink hi' hst hcf (by rw [C.2.2.2.2.2.2.2.1]; exact hz1) (by rw [q2]; exact h6) q1 q3 (by rw [hsl]; exact k2_hasslot (q4 _ a4)) rfl rfl hd (fun H' e1 e2 e3 => k H' lsr _ (fin H' e1 e2 e3) hL (hl_app hl ha))
                  · unfold u_lay at hlay
                    rw [if_neg hz] at hlay
                    have h6 := u_store hfc hkC hkind hlay hi hty f1 f2
                    exact W.putK hx rfl (f := fd) ⟨b2, hlink, ⟨_, _, _, hi'⟩, hst⟩ (by rw [q2]; exact h6) q1 q3 (by rw [hsl]; exact k2_hasslot (q4 _ a4)) rfl rfl hd (fun H' e1 e2 e3 => k H' lsr _ (fin H' e1 e2 e3) hL (hl_app hl ha))
            next => cases h
      next => cases h
theorem st_gets (C : aCx p s m meth c S0 D g0 M) {pc j : Nat} {ls : aLs} {st : List Value} {H : aH} {q : aQ} (hm : mDec M pc = some (.getstatic j, 3)) (h : aS M pc 3 (.getstatic j) ls st H = some (.inl q)) (k : Wq p l e R s m args below meth c Q S0 D g0 (mML M) n0 w0 q) : Wq p l e R s m args below meth c Q S0 D g0 (mML M) n0 w0 (pc, ls, st, H) := by
  have hd := C.2.1 pc _ hm
  have hx := C.1
  have h : (fnd3 aGT (mOc M) j).bind _ = _ := h
  cases hf : fnd3 aGT (mOc M) j with
  | none => rw [hf] at h; cases h
  | some u =>
    rw [hf] at h
    have h := go_inj (show go _ _ _ _ = _ from h)
    subst h
    obtain ⟨O, b1, b2⟩ := C.2.2.2.1
    have hmem := fnd3_mem hf
    have hk := List.all_eq_true.mp okG _ hmem
    have hZ := C.2.2.2.2.2.2.2.2.1.1 _ hmem
    obtain ⟨v, p9, C9, n9, d9⟩ := u
    unfold chkG at hk
    simp only [b1, decide_eq_true_eq] at hk
    intro Hr lsr locs hR hL hl
    obtain ⟨r1, r2, r3, r4, r5, r6⟩ := id hR
    have hval : gsV H v = gsV (fun _ => none, 0, 0, g0) v := by
      have r6 : H.2.2.2 = g0 := r6
      unfold gsV
      rw [r6]
    have hZ := va_Z.moved C.2.2.2.2.2.2.2.2.2.2.2.2 hZ
    obtain ⟨cf, kf, fi, f, a, cell, h1, h2, h3, h4, h5, h6, h7, h8⟩ := hZ
    have ha : a < S0.heap.size := (Array.getElem?_eq_some_iff.mp h5).1
    have hk' := k Hr lsr locs hR hL hl
    refine W.gets hx rfl b2 (cx_tb C hk rfl) h1 h2 h3 h4 (by rw [r5 a ha]; exact h5) (fun z => by rw [z] at h6; cases h6) h7 rfl hd ?_
    rw [← hval]
    exact hk'
end
end
section
/-! ===== .. the steps that make cells ===== -/
theorem dfl_ok {ty : FieldType} {t : Nat} (h : kdOf ty = t) (h9 : t ≠ 9) : defaultValue ty = dflK t := by
  subst h
  cases ty <;> first | rfl | exact absurd rfl h9
section
variable {p : Program} {l : Launch} {e : Env} {R : Room} {s : State} {m : MethodId} {args : Array Value} {below : List Frame} {meth : Method} {c : Code} {Q : State → Prop} {S0 : State} {D : va_G} {g0 : Nat × Nat} {M n0 w0 : Nat}
theorem W.newaF {cc : ByteArray} {H : Heap} {locs : List Loc} {cells slots : Nat} (hexec : p.tables.exec = Jvm.exec) (hb : c.code = cc) {atype : ArrayType} (harr : (Jvm.Cond.arrayClass (newarray.typeOf atype)).before args s = true)
    {g : JFrame} (hg : g.method = m) (hdg : decode cc g.pc = .ok (.newarray atype, 2)) {n : Int32} {N : Nat} {rest : List Value} (hstack : g.stack = .int n :: rest)
    (hn : ¬ n < 0) (hN : n.toNatClampNeg = N) (hbytes : N * componentBytes (newarray.typeOf atype) ≤ 536870912) (hcells : cells + 1 ≤ R.cells) (hslots : slots + N ≤ R.slots) {h : Nat} (hh : H.size = h)
    (kk : ∀ (H' : Heap) (cA : ClassId), H'[h]? = some (arrV cA N (fun _ => defaultValue (newarray.typeOf atype))) → H'.size = h + 1 → (∀ q, q < h → H'[q]? = H[q]?) → ArrOfT s cA (newarray.typeOf atype) → s.vm.findClass ("[" ++ (newarray.typeOf atype).toString) = some cA →
      W p l e R s m args below meth c H' locs (cells + 1) (slots + N) Q { g with pc := g.pc + 2, stack := .ref h :: rest }) : W p l e R s m args below meth c H locs cells slots Q g := by
  subst hN
  subst hh
  refine W.newa hexec hb harr hg hdg hstack hn hbytes hcells hslots fun cA kA comp h1 h2 h3 => ?_
  refine kk _ cA ?_ (by rw [Array.size_push]) (fun q hq => by rw [Array.getElem?_push, if_neg (Nat.ne_of_lt hq)]) (fun N z => ⟨(fun k h => by cases h), kA, h2, comp, h3⟩) h1
  rw [Array.getElem?_push_size, ← arrV_new]
theorem st_newa (C : aCx p s m meth c S0 D g0 M) {pc : Nat} {ty : ArrayType} {ls : aLs} {st : List Value} {H : aH} {q : aQ} (hm : mDec M pc = some (.newarray ty, 2)) (h : aS M pc 2 (.newarray ty) ls st H = some (.inl q)) (hc : q.2.2.2.2.1 - n0 ≤ R.cells) (hs : q.2.2.2.2.2.1 - w0 ≤ R.slots) (hn : n0 ≤ H.2.1) (hw0 : w0 ≤ H.2.2.1)
    (k : Wq p l e R s m args below meth c Q S0 D g0 (mML M) n0 w0 q) : Wq p l e R s m args below meth c Q S0 D g0 (mML M) n0 w0 (pc, ls, st, H) := by
  have hd := C.2.1 pc _ hm
  have hx := C.1
  have hA := C.2.2.2.2.2.2.2.2.2.1
  have hal := C.2.2.2.2.2.2.2.2.2.2.2.2
  match st, h with
  | .int n :: t, h =>
    have h : (if n < 0 ∨ 60000000 < n.toNatClampNeg then none else (nwA ty n.toNatClampNeg).bind fun x => go (pc + 2) ls (.ref H.2.1 :: t) (mk H x n.toNatClampNeg)) = _ := h
    split at h
    next => cases h
    next hz =>
      have hz1 : ¬ n < 0 := fun z => hz (Or.inl z)
      have hz2 : n.toNatClampNeg ≤ 60000000 := Nat.not_lt.mp fun z => hz (Or.inr z)
      obtain ⟨h0, nn, ww, gg⟩ := H
      have hn : n0 ≤ nn := hn
      have hw0 : w0 ≤ ww := hw0
      intro Hr lsr locs hR hL hl
      have hsz : Hr.size = nn := hR.1
      cases ty with
      | int =>
        have h := go_inj (show go _ _ _ _ = _ from h)
        subst h
        have hc : nn + 1 - n0 ≤ R.cells := hc
        have hs : ww + n.toNatClampNeg - w0 ≤ R.slots := hs
        have hw9 : (Jvm.Cond.arrayClass (newarray.typeOf .int)).before args s = true := cx_word C (hA .int (Or.inl rfl)) rfl args s C.2.2.2.2.1
        have hby : n.toNatClampNeg * componentBytes (newarray.typeOf .int) ≤ 536870912 := Nat.le_trans (Nat.mul_le_mul_right _ hz2) (Nat.le_of_ble_eq_true rfl)
        have hc9 : nn - n0 + 1 ≤ R.cells := by omega
        have hs9 : ww - w0 + n.toNatClampNeg ≤ R.slots := by omega
        have hN9 : n.toNatClampNeg < 2147483648 := Nat.lt_of_le_of_lt hz2 (Nat.lt_of_lt_of_le (Nat.lt_succ_self _) (Nat.le_of_ble_eq_true rfl))
        refine W.newaF hx rfl hw9 rfl hd rfl hz1 rfl hby hc9 hs9 hsz (fun H' cA f1 f2 f3 f4 f5 => ?_)
        have hk := k H' lsr locs (gR_new hR f2 f3 ⟨cA, .int, f1, arrOfT_moved hal.symm f4, by rw [← hal.findClass]; exact f5, Or.inl rfl, Or.inl rfl, hN9⟩) hL hl
        have e1 : nn - n0 + 1 = nn + 1 - n0 := by omega
        have e2 : ww - w0 + n.toNatClampNeg = ww + n.toNatClampNeg - w0 := by omega
        show W p l e R s m args below meth c H' locs (nn - n0 + 1) (ww - w0 + n.toNatClampNeg) Q _
        rw [e1, e2]
        exact hk
      | long =>
        have h := go_inj (show go _ _ _ _ = _ from h)
        subst h
        have hc : nn + 1 - n0 ≤ R.cells := hc
        have hs : ww + n.toNatClampNeg - w0 ≤ R.slots := hs
        have hw9 : (Jvm.Cond.arrayClass (newarray.typeOf .long)).before args s = true := cx_word C (hA .long (Or.inr rfl)) rfl args s C.2.2.2.2.1
        have hby : n.toNatClampNeg * componentBytes (newarray.typeOf .long) ≤ 536870912 := Nat.le_trans (Nat.mul_le_mul_right _ hz2) (Nat.le_of_ble_eq_true rfl)
        have hc9 : nn - n0 + 1 ≤ R.cells := by omega
        have hs9 : ww - w0 + n.toNatClampNeg ≤ R.slots := by omega
        have hN9 : n.toNatClampNeg < 2147483648 := Nat.lt_of_le_of_lt hz2 (Nat.lt_of_lt_of_le (Nat.lt_succ_self _) (Nat.le_of_ble_eq_true rfl))
        refine W.newaF hx rfl hw9 rfl hd rfl hz1 rfl hby hc9 hs9 hsz (fun H' cA f1 f2 f3 f4 f5 => ?_)
        have hk := k H' lsr locs (gR_new hR f2 f3 ⟨cA, f1, arrOfT_moved hal.symm f4, by rw [← hal.findClass]; exact f5, rfl, hN9⟩) hL hl
        have e1 : nn - n0 + 1 = nn + 1 - n0 := by omega
        have e2 : ww - w0 + n.toNatClampNeg = ww + n.toNatClampNeg - w0 := by omega
        show W p l e R s m args below meth c H' locs (nn - n0 + 1) (ww - w0 + n.toNatClampNeg) Q _
        rw [e1, e2]
        exact hk
      | _ => cases h
theorem cx_ra (C : aCx p s m meth c S0 D g0 M) {cA : ClassId} {ty : FieldType} (h : raK s cA ty) : raK S0 cA ty := raK.moved C.2.2.2.2.2.2.2.2.2.2.2.2.symm h
theorem st_anew (C : aCx p s m meth c S0 D g0 M) {pc j : Nat} {ls : aLs} {st : List Value} {H : aH} {q : aQ} (hm : mDec M pc = some (.anewarray j, 3)) (h : aS M pc 3 (.anewarray j) ls st H = some (.inl q)) (hc : q.2.2.2.2.1 - n0 ≤ R.cells) (hs : q.2.2.2.2.2.1 - w0 ≤ R.slots) (hn : n0 ≤ H.2.1) (hw0 : w0 ≤ H.2.2.1)
    (k : Wq p l e R s m args below meth c Q S0 D g0 (mML M) n0 w0 q) : Wq p l e R s m args below meth c Q S0 D g0 (mML M) n0 w0 (pc, ls, st, H) := by
  have hd := C.2.1 pc _ hm
  have hx := C.1
  have hO := C.2.2.2.2.2.2.2.2.2.2.1
  have hal := C.2.2.2.2.2.2.2.2.2.2.2.2
  match st, h with
  | .int n :: t, h =>
    have h : (if n < 0 ∨ 60000000 < n.toNatClampNeg then none else (fnd3 aAT (mOc M) j).bind fun C => go (pc + 3) ls (.ref H.2.1 :: t) (mk H (aP (.object C.1) n.toNatClampNeg (fun _ => none)) n.toNatClampNeg)) = _ := h
    split at h
    next => cases h
    next hz =>
      have hz1 : ¬ n < 0 := fun z => hz (Or.inl z)
      have hz2 : n.toNatClampNeg ≤ 60000000 := Nat.not_lt.mp fun z => hz (Or.inr z)
      cases hf : fnd3 aAT (mOc M) j with
      | none => rw [hf] at h; cases h
      | some u =>
        rw [hf] at h
        have h := go_inj (show go _ _ _ _ = _ from h)
        subst h
        have hmem := fnd3_mem hf
        obtain ⟨O, b1, b2⟩ := C.2.2.2.1
        have hck := List.all_eq_true.mp okAT _ hmem
        obtain ⟨nm, p9⟩ := u
        simp only [chkAT, chkC, b1, Bool.and_eq_true, decide_eq_true_eq] at hck
        obtain ⟨hk1, rfl⟩ := hck
        obtain ⟨h0, nn, ww, gg⟩ := H
        have hn : n0 ≤ nn := hn
        have hw0 : w0 ≤ ww := hw0
        intro Hr lsr locs hR hL hl
        have hsz : Hr.size = nn := hR.1
        have hc : nn + 1 - n0 ≤ R.cells := hc
        have hs : ww + n.toNatClampNeg - w0 ≤ R.slots := hs
        have hover : va_AO "OvertureDesk$Song" s := by
          obtain ⟨-, -, -, -, -, ⟨A0, hts⟩, -⟩ := C
          exact va_AO.moved hal (va_AO.of (hts _ hO))
        refine W.anew hx rfl b2 (cx_tb C hk1 rfl) (va_AO.use hover) rfl hd rfl hz1 (by omega) (by show nn - n0 + 1 ≤ _; omega) (by show ww - w0 + _ ≤ _; omega) fun cA kA comp f1 f2 f3 f4 => ?_
        have e1 : nn - n0 + 1 = nn + 1 - n0 := by omega
        have e2 : ww - w0 + n.toNatClampNeg = ww + n.toNatClampNeg - w0 := by omega
        show W p l e R s m args below meth c _ locs (nn - n0 + 1) (ww - w0 + n.toNatClampNeg) Q _
        rw [e1, e2, hsz]
        have hAr : ArrOfT s cA (.object "OvertureDesk$Song") := fun N z => ⟨(fun k h => by cases h), kA, f2, comp, f3⟩
        exact k _ lsr locs (gR_new hR (by rw [Array.size_push, hsz]) (fun q hq => by have hq : q < nn := hq; rw [Array.getElem?_push, if_neg (by omega)]) ⟨cA, by rw [← hsz, Array.getElem?_push_size]; exact congrArg some (arrV_new cA n.toNatClampNeg .null), arrOfT_moved hal.symm hAr, cx_ra C ⟨kA, comp, f2, f3, f4⟩, rfl, by omega⟩) hL hl
theorem fN_ok {k : Nat} {q : Nat × Nat × Nat × Nat} (h : fnd3 aNT (mOc M) k = some q) : ∃ (r : vw_C) (O : String) (ks : List Nat), aCl[q.1]? = some r ∧ aON[mOc M]? = some O ∧ aFK[q.1]? = some ks ∧ tb q.2.1 = some (.classLink O k r.1) ∧ tb q.2.2.1 = some (.instantiable r.1 r.2.2) ∧ tb q.2.2.2 = some (.initialized r.1) ∧ ks.length = r.2.2 ∧ (∀ t ∈ ks, t ≠ 9) ∧ (List.range r.2.2).map (fun j => (parseFieldDescriptor (r.2.1 j).2.2.1).map kdOf) = ks.map some := by
  have hk := List.all_eq_true.mp okN _ (fnd3_mem h)
  obtain ⟨ci, a, b, p9⟩ := q
  unfold chkN at hk
  dsimp only at hk
  cases h1 : aCl[ci]? with
  | none => simp only [h1] at hk; exact absurd hk (by decide)
  | some r =>
    obtain ⟨C9, T9, N9⟩ := r
    cases h2 : aON[mOc M]? with
    | none => simp only [h1, h2] at hk; exact absurd hk (by decide)
    | some O =>
      cases h3 : aFK[ci]? with
      | none => simp only [h1, h2, h3] at hk; exact absurd hk (by decide)
      | some ks =>
        simp only [h1, h2, h3, Bool.and_eq_true, decide_eq_true_eq, List.all_eq_true, bne_iff_ne] at hk
        obtain ⟨⟨⟨⟨⟨a1, a2⟩, a3⟩, a4⟩, a5⟩, a6⟩ := hk
        exact ⟨_, O, ks, rfl, rfl, rfl, a1, a2, a3, a4, a5, a6⟩
theorem st_new (C : aCx p s m meth c S0 D g0 M) {pc j : Nat} {ls : aLs} {st : List Value} {H : aH} {q : aQ} (hm : mDec M pc = some (.new j, 3)) (h : (fnd3 aNT (mOc M) j).bind (fun q => (aFK[q.1]?).bind fun ks => go (pc + 3) ls (.ref H.2.1 :: st) (mk H (aB q.1 (ks.map dflK)) ks.length)) = some (.inl q)) (hc : q.2.2.2.2.1 - n0 ≤ R.cells) (hs : q.2.2.2.2.2.1 - w0 ≤ R.slots) (hn : n0 ≤ H.2.1) (hw0 : w0 ≤ H.2.2.1)
    (k : Wq p l e R s m args below meth c Q S0 D g0 (mML M) n0 w0 q) : Wq p l e R s m args below meth c Q S0 D g0 (mML M) n0 w0 (pc, ls, st, H) := by
  have hd := C.2.1 pc _ hm
  have hx := C.1
  have hal := C.2.2.2.2.2.2.2.2.2.2.2.2
  cases hf : fnd3 aNT (mOc M) j with
  | none => rw [hf] at h; cases h
  | some u =>
    rw [hf] at h
    obtain ⟨r, O, ks, a1, a2, a3, a4, a5, a6, a7, a8, a9⟩ := fN_ok hf
    have h : (aFK[u.1]?).bind _ = _ := h
    rw [a3] at h
    have h := go_inj (show go _ _ _ _ = _ from h)
    subst h
    obtain ⟨O', b1, b2⟩ := C.2.2.2.1
    rw [a2] at b1; cases b1
    obtain ⟨h0, nn, ww, gg⟩ := H
    have hn : n0 ≤ nn := hn
    have hw0 : w0 ≤ ww := hw0
    intro Hr lsr locs hR hL hl
    have hsz : Hr.size = nn := hR.1
    have hc : nn + 1 - n0 ≤ R.cells := hc
    have hs : ww + ks.length - w0 ≤ R.slots := hs
    have hKn := cx_Kn C a1
    have hw := cx_u (args := args) C a1
    refine W.newcK hx rfl b2 (cx_tb C a4 rfl) (cx_tb C a5 rfl) (cx_tb C a6 rfl) rfl hd (by show nn - n0 + 1 ≤ _; omega) (by show ww - w0 + r.2.2 ≤ _; omega) hKn.2.1 hsz fun H1 kC hkC e1 z1 o1 => ?_
    have e1' : nn - n0 + 1 = nn + 1 - n0 := by omega
    have e2 : ww - w0 + r.2.2 = ww + ks.length - w0 := by omega
    show W p l e R s m args below meth c _ locs (nn - n0 + 1) (ww - w0 + r.2.2) Q _
    rw [e1', e2]
    have hpar : ∀ x, x < r.2.2 → parseFieldDescriptor (r.2.1 x).2.2.1 = some ((parseFieldDescriptor (r.2.1 x).2.2.1).getD .int) := fun x hx9 => by
      obtain ⟨t9, ht9⟩ := cx_ty a1 hx9
      rw [ht9]; rfl
    have hOB := u_born (fun x => (parseFieldDescriptor (r.2.1 x).2.2.1).getD .int) hw (fun w h => h) hKn hkC e1 hpar
    refine k _ lsr locs (gR_new hR z1 o1 ⟨r, a1, by rw [List.length_map]; exact a7, ob_mk (t_OB.to hOB (fun x hx9 => ?_))⟩) hL hl
    have hk9 : (ks.map some)[x]? = some (some (kdOf ((parseFieldDescriptor (r.2.1 x).2.2.1).getD .int))) := by
      rw [← a9, List.getElem?_map, List.getElem?_range hx9]
      show some ((parseFieldDescriptor (r.2.1 x).2.2.1).map kdOf) = _
      rw [hpar x hx9]; rfl
    rw [List.getElem?_map] at hk9
    cases hks : ks[x]? with
    | none => rw [hks] at hk9; cases hk9
    | some t9 =>
      rw [hks] at hk9
      have ht9 : t9 = kdOf ((parseFieldDescriptor (r.2.1 x).2.2.1).getD .int) := Option.some.inj (Option.some.inj hk9)
      have h9 := a8 t9 (List.mem_of_getElem? hks)
      rw [dfl_ok ht9.symm h9]
      simp [vp_V, hks]
theorem st_aast (C : aCx p s m meth c S0 D g0 M) {pc : Nat} {ls : aLs} {st : List Value} {H : aH} {q : aQ} (hm : mDec M pc = some (.aastore, 1)) (h : aS M pc 1 .aastore ls st H = some (.inl q)) (k : Wq p l e R s m args below meth c Q S0 D g0 (mML M) n0 w0 q) : Wq p l e R s m args below meth c Q S0 D g0 (mML M) n0 w0 (pc, ls, st, H) := by
  have hd := C.2.1 pc _ hm
  have hx := C.1
  have hal := C.2.2.2.2.2.2.2.2.2.2.2.2
  match st, h with
  | .ref v :: .int j :: .ref a :: t, h =>
    have h : (wr H.1 a (sP (H.1 a) (H.1 v) j v)).bind _ = _ := h
    intro Hr lsr locs hR hL hl
    cases hc : H.1 a with
    | none => rw [hc] at h; cases h
    | some x =>
      cases hcv : H.1 v with
      | none =>
        rw [hc, hcv] at h
        match x, h with
        | .inl (.object C9, N, .inr (.inr (.inr (.inr f)))), h => cases h
        | .inl (.array .int, N, .inr (.inr (.inr (.inr f)))), h => cases h
      | some y =>
        rw [hc, hcv] at h
        have ha : roC x ∨ S0.heap.size ≤ a := hR.2.2.1 a _ hc
        match x, y, h, hc, hcv, ha with
        | .inl (.object C9, N, .inr (.inr (.inr (.inr f)))), .inr (cj, fs), h, hc, hcv, ha =>
          replace h : (wr H.1 a (if inB j N = true ∧ (aCl[cj]?).map (·.1) = some C9 then some (aP (.object C9) N (updO f j.toNatClampNeg (some v))) else none)).bind _ = _ := h
          split at h
          next hz =>
            obtain ⟨hb, hcj⟩ := hz
            have h := go_inj (show go _ _ _ _ = _ from h)
            subst h
            obtain ⟨cA, e1, e2, e3, e4, e6⟩ := hR.2.1 a _ hc
            have ha : S0.heap.size ≤ a := by
              rcases ha with z | z
              · cases z
              · exact z
            obtain ⟨kA, comp, k1, k2, k3⟩ := raK.moved hal e3
            obtain ⟨r', c1, c2, cell, q1, q2, q3, q4⟩ := hR.2.1 v _ hcv
            rw [c1] at hcj
            have hcj : r'.1 = C9 := Option.some.inj hcj
            have hcls := (cx_Kn C c1).2
            rw [hcj] at hcls
            have hcomp : comp = D.1 cj := Option.some.inj (k3.symm.trans hcls.1)
            subst hcomp
            obtain ⟨kC, hkC, -⟩ := hcls.2
            refine W.aast hx rfl e1 (fun q h => by cases h) (fun h => by cases h) k1 k2 rfl hkC ⟨fun z => (inB_ok hb).1 (Or.inl z), by rw [arrV_size]; exact (inB_ok hb).2⟩ q1 (obV_nq q3) (by rw [q2]; exact hkC) (by rw [q2]; exact va_assign hcls) rfl rfl hd fun H1 f1 f2 f3 => ?_
            exact k H1 lsr _ (gR_put hR f2 f3 ⟨cA, by rw [f1, arrV_store, updV_o], e2, e3, rfl, e6⟩ ha) hL (hl_app hl ha)
          next => cases h
        | .inl (.array .int, N, .inr (.inr (.inr (.inr f)))), .inl (.int, N2, .inl f2), h, hc, hcv, ha =>
          replace h : (wr H.1 a (if inB j N then some (aP (.array .int) N (updO f j.toNatClampNeg (some v))) else none)).bind _ = _ := h
          split at h
          next hb =>
            have h := go_inj (show go _ _ _ _ = _ from h)
            subst h
            obtain ⟨cA, e1, e2, e3, e4, e6⟩ := hR.2.1 a _ hc
            have ha : S0.heap.size ≤ a := by
              rcases ha with z | z
              · cases z
              · exact z
            obtain ⟨kA, comp, k1, k2, k3⟩ := raK.moved hal e3
            obtain ⟨cB, ty', b1, b2, b3, b4, b5, b6⟩ := hR.2.1 v _ hcv
            have hty : ty' = .int := by
              rcases b4 with b4 | b4
              · exact b4.symm
              · cases b4.1
            subst hty
            have b3' : s.vm.findClass (rcN (.array .int)) = some cB := by rw [hal.findClass]; exact b3
            have hcomp : comp = cB := Option.some.inj (k3.symm.trans b3')
            subst hcomp
            obtain ⟨kC, hkC, -⟩ := Vm.findClass_spec b3'
            refine W.aast hx rfl e1 (fun q h => by cases h) (fun h => by cases h) k1 k2 rfl hkC ⟨fun z => (inB_ok hb).1 (Or.inl z), by rw [arrV_size]; exact (inB_ok hb).2⟩ b1 (fun q h => by cases h) hkC (Vm.assignable_self _ _) rfl rfl hd fun H1 f1 f2 f3 => ?_
            exact k H1 lsr _ (gR_put hR f2 f3 ⟨cA, by rw [f1, arrV_store, updV_o], e2, e3, rfl, e6⟩ ha) hL (hl_app hl ha)
          next => cases h
end
end
section
/-! ===== counters grow ===== -/
def mon (H : aH) (o : Option (aQ ⊕ (aO × aH))) : Prop := ∀ q, o = some (.inl q) → H.2.1 ≤ q.2.2.2.2.1 ∧ H.2.2.1 ≤ q.2.2.2.2.2.1
theorem mon_0 {H : aH} : mon H none := fun q h => by cases h
theorem mon_g {H : aH} {pc : Nat} {ls : aLs} {st : List Value} : mon H (go pc ls st H) := fun q h => by
  rw [go_inj h]; exact ⟨Nat.le_refl _, Nat.le_refl _⟩
theorem mon_w {H : aH} {h : aHf} {pc : Nat} {ls : aLs} {st : List Value} : mon H (go pc ls st (h, H.2)) := fun q e => by
  rw [go_inj e]; exact ⟨Nat.le_refl _, Nat.le_refl _⟩
theorem mon_k {H : aH} {c : aC} {s pc : Nat} {ls : aLs} {st : List Value} : mon H (go pc ls st (mk H c s)) := fun q e => by
  rw [go_inj e]; exact ⟨Nat.le_succ _, Nat.le_add_right _ _⟩
theorem mon_k2 {H : aH} {n c pc : Nat} {ls : aLs} {st : List Value} : mon H (go pc ls st (mk2 H n c)) := fun q e => by
  rw [go_inj e]
  exact ⟨by show H.2.1 ≤ H.2.1 + 1 + n; omega, by show H.2.2.1 ≤ H.2.2.1 + n + n * c; omega⟩
theorem mon_b {α : Type} {H : aH} {x : Option α} {f : α → Option (aQ ⊕ (aO × aH))} (h : ∀ v, mon H (f v)) : mon H (x.bind f) := by
  cases x with
  | none => exact mon_0
  | some v => exact h v
theorem mon_i {H : aH} {p : Prop} [Decidable p] {a b : Option (aQ ⊕ (aO × aH))} (h1 : mon H a) (h2 : mon H b) : mon H (if p then a else b) := by
  split
  · exact h1
  · exact h2
theorem mon_r {H : aH} {c : Jvm.ClassFile.Cond} {x y : Int32} {a b : Option (aQ ⊕ (aO × aH))} (h1 : mon H a) (h2 : mon H b) : mon H (aBr c x y a b) := by
  unfold aBr
  split <;> split <;> assumption
theorem mon_S (M pc len : Nat) (i : Instr) (ls : aLs) (st : List Value) (H : aH) : mon H (aS M pc len i ls st H) := by
  unfold aS
  split <;> repeat' (first | exact mon_0 | exact mon_g | exact mon_w | exact mon_k | exact mon_k2 | (refine mon_b fun _ => ?_) | (refine mon_i ?_ ?_) | (refine mon_r ?_ ?_) | split)
end
section
/-! ===== calls ===== -/
/-- what is given once for the law's whole run: the tables at its start S0, the classes, the statics, the texts -/
def aG (l : Launch) (S0 : State) (D : va_G) (g0 : Nat × Nat) : Prop :=
  l.stackTraces = false ∧ (∃ A0, ∀ w ∈ lw_tbl, w.before A0 S0 = true) ∧
  (∀ (k : Nat) (q : vw_C), aCl[k]? = some q → u_Kn S0 q.1 q.2.1 q.2.2 (D.1 k) (D.2 k)) ∧
  ((∀ q ∈ aGT, va_Z q.2.2.2.2.1 q.2.2.2.2.2.1 q.2.2.2.2.2.2 (gsV (fun _ => none, 0, 0, g0) q.2.2.1) (fun a => S0.heap.size ≤ a) S0 S0.heap) ∧ unsF S0 g0) ∧
  (∀ ty, ty = FieldType.int ∨ ty = .long → (Jvm.Cond.arrayClass ty) ∈ lw_tbl) ∧ (Jvm.Cond.arrayOver (.object "OvertureDesk$Song")) ∈ lw_tbl ∧ True ∧
  (∀ q ∈ aNC, va_Nc q.1 q.2 S0) ∧ (∀ x ∈ aXT, ∃ sa, vk_R "OvertureDesk" x.2.2.2.2.1 x.2.2.2.2.2.2.2 sa S0) ∧
  vx_Zq Bundle.tN "UNASSIGNED_STACK" Bundle.steD (fun a => S0.heap.size ≤ a) S0 S0.heap ∧ vx_Zq Bundle.tN "SUPPRESSED_SENTINEL" Bundle.listD (fun a => S0.heap.size ≤ a) S0 S0.heap
def gPc (S0 : State) (D : va_G) (g0 : Nat × Nat) (H : aH) (as : List Value) : Array Value → State → Prop := fun v U => v = as.toArray ∧ gR D S0 g0 H U.heap ∧ S0.WarmedH U.vm
def gQc (S0 : State) (D : va_G) (g0 : Nat × Nat) (x : aO × aH) : Array Value → State → Outcome → State → Prop := fun _ _ o t => ∃ v, x.1 = .inl v ∧ o = .returned v ∧ gR D S0 g0 x.2 t.heap
def gXc (S0 : State) (D : va_G) (g0 : Nat × Nat) (x : aO × aH) : String → State → State → Prop := fun E _ t => x.1 = .inr E ∧ gR D S0 g0 x.2 t.heap
def rmD (M : Nat) (H : aH) (x : aO × aH) : Room := { frames := mFR M, cells := x.2.2.1 - H.2.1, slots := x.2.2.2.1 - H.2.2.1, locals := mLO M }
/-- the methods' contracts up to a depth: what the abstract machine answers -/
def gOk (l : Launch) (S0 : State) (D : va_G) (g0 : Nat × Nat) (d : Nat) : Prop := ∀ (M : Nat) (as : List Value) (H : aH) (x : aO × aH) (r : aMR), aRec M = some r → M ≠ 0 → aE d M as H = some x →
  H.2.1 ≤ x.2.2.1 ∧ H.2.2.1 ≤ x.2.2.2.1 ∧ vx_Met l (rY r) [cwM r] (rmD M H x) (gPc S0 D g0 H as) (gQc S0 D g0 x) (gXc S0 D g0 x) (x.2.2.1 - H.2.1) (x.2.2.2.1 - H.2.2.1) (fun q => S0.heap.size ≤ q)
theorem gPc_blind {S0 : State} {D : va_G} {g0 : Nat × Nat} {H : aH} {as : List Value} : FrameBlind (gPc S0 D g0 H as) := fun _ _ _ _ h => h
def exW (w : Jvm.Cond) : Bool := goodWord w || (match w with
  | .castable .. => true
  | .declares .. => true
  | .methodLinkNest .. => true
  | _ => false)
theorem drop1 {α : Type} {l : List α} {j : Nat} {x : α} (h : l[j]? = some x) (hj : j ≠ 0) : (l.drop 1)[j - 1]? = some x := by
  rw [List.getElem?_drop]
  have e : 1 + (j - 1) = j := by omega
  rw [e]; exact h
theorem rec_code {M : Nat} {r : aMR} (h : aRec M = some r) (hM : M ≠ 0) : cwM r ∈ lw_tbl ∧ goodWord (cwM r) = true := by
  have h1 := drop1 (l := aMT) h hM
  constructor
  · have h2 := congrArg (fun l => l[M - 1]?) okMc
    simp only [List.getElem?_map, h1, Option.map_some] at h2
    exact tb_in (Option.some.inj h2)
  · exact List.all_eq_true.mp okMg r (List.mem_of_getElem? h)
theorem rec_chk {M : Nat} {r : aMR} (h : aRec M = some r) (hM : M ≠ 0) : chkM r = true := List.all_eq_true.mp okM r (List.mem_of_getElem? (drop1 (l := aMT) h hM))
section
variable {p : Program} {l : Launch} {e : Env} {R : Room} {s : State} {m : MethodId} {args : Array Value} {below : List Frame} {meth : Method} {c : Code} {Q : State → Prop} {S0 : State} {D : va_G} {g0 : Nat × Nat} {M n0 w0 : Nat}
theorem cx_exw (C : aCx p s m meth c S0 D g0 M) {w : Jvm.Cond} (hw : w ∈ lw_tbl) (hg : exW w = true) : w.before args s = true := by
  by_cases hgd : goodWord w = true
  · exact cx_word C hw hgd args s C.2.2.2.2.1
  · obtain ⟨-, -, -, -, hW, ⟨A0, hts⟩, -⟩ := C
    have h := hts w hw
    cases w with
    | castable a b => exact va_Nw.use rfl (va_Nw.warmC hW (va_Nw.of rfl h))
    | declares a => exact va_Nw.use rfl (va_Nw.warmD hW (va_Nw.of rfl h))
    | methodLinkNest a b x d => exact va_Nw.use rfl (va_Nw.warmM hW (va_Nw.of rfl h))
    | _ => exact absurd (by simpa [exW] using hg) hgd
theorem kT_ok {k : Nat} {q : Nat × String × Nat} {O : String} (h : fnd3 aKT (mOc M) k = some q) (hO : aON[mOc M]? = some O) : q.1 ≠ 0 ∧ (q.2.1 = "" → tb q.2.2 = some (.methodLink O k (mY q.1))) ∧ (q.2.1 ≠ "" → tb q.2.2 = some (.methodLinkNest O k (mY q.1) q.2.1)) := by
  have hk := List.all_eq_true.mp okK _ (fnd3_mem h)
  obtain ⟨M', ho, p9⟩ := q
  simp only [chkK, hO, Bool.and_eq_true, decide_eq_true_eq] at hk
  refine ⟨hk.1, fun z => ?_, fun z => ?_⟩
  · have z : ho = "" := z
    have h2 := hk.2
    rw [if_pos z] at h2
    exact of_decide_eq_true h2
  · have z : ho ≠ "" := z
    have h2 := hk.2
    rw [if_neg z] at h2
    exact of_decide_eq_true h2
theorem aArgs_ok {n : Nat} {st as rest : List Value} (h : aArgs n st = some (as, rest)) : st = as.reverse ++ rest ∧ as.length = n := by
  unfold aArgs at h
  split at h
  next hn =>
    cases h
    refine ⟨by rw [List.reverse_reverse, List.take_append_drop], by rw [List.length_reverse, List.length_take]; omega⟩
  next => cases h
def insK (kd k : Nat) : Instr := match kd with
  | 0 => .invokevirtual k
  | 1 => .invokestatic k
  | _ => .invokespecial k
theorem call_run (C : aCx p s m meth c S0 D g0 M) {d kd k pc : Nat} (hOk : gOk l S0 D g0 d) {q : Nat × String × Nat} {st as rest : List Value} {H : aH} {x : aO × aH} {Hr : Heap} {lsr : Array Slot} {locs : List Loc} {cells slots : Nat}
    (hq : fnd3 aKT (mOc M) k = some q) (hlt : ¬ 1000 ≤ q.1) (hkd : mKd q.1 = kd) (hrq : rqC M q.1 = true) (hargs : aArgs (mNA q.1 + (if kd = 1 then 0 else 1)) st = some (as, rest)) (hcat : catS rest ≤ 8) (hrecv : recv kd (mCi q.1) as H = true) (hE : aE d q.1 as H = some x)
    (hd : decode c.code pc = .ok (insK kd k, 3)) (hR : gR D S0 g0 H Hr) (hsz : lsr.size = mML M) (hRf : R.frames = mFR M) (hRl : R.locals = mLO M) (hc : cells + (x.2.2.1 - H.2.1) ≤ R.cells) (hs : slots + (x.2.2.2.1 - H.2.2.1) ≤ R.slots) :
    vx_Run p l e R s m args below meth c Hr locs cells slots (x.2.2.1 - H.2.1) (x.2.2.2.1 - H.2.2.1) (F0 m pc lsr st) rest (gQc S0 D g0 x as.toArray) (gXc S0 D g0 x) (fun q => S0.heap.size ≤ q) := by
  obtain ⟨O, hO, hown⟩ := C.2.2.2.1
  obtain ⟨hne, hl1, hl2⟩ := kT_ok hq hO
  have hx := C.1
  have hml := C.2.2.1
  have hal := C.2.2.2.2.2.2.2.2.2.2.2.2
  have hW := C.2.2.2.2.1
  cases hr : aRec q.1 with
  | none =>
    have h9 := List.all_eq_true.mp okH2 _ (fnd3_mem hq)
    simp only [hr, Option.isSome_none, Bool.false_or, decide_eq_true_eq] at h9
    exact absurd h9 hlt
  | some r =>
    obtain ⟨-, -, hM⟩ := hOk q.1 as H x r hr hne hE
    obtain ⟨hcw, hcg⟩ := rec_code hr hne
    have hck := rec_chk hr hne
    have e1 : mKd q.1 = rKd r := by unfold mKd; rw [hr]
    have e2 : mNA q.1 = rNA r := by unfold mNA; rw [hr]
    have e3 : mCi q.1 = rCi r := by unfold mCi; rw [hr]
    have e4 : mY q.1 = rY r := by unfold mY; rw [hr]
    rw [e1] at hkd
    rw [e2] at hargs
    rw [e3] at hrecv
    rw [e4] at hl1 hl2
    simp only [chkM, Bool.and_eq_true, decide_eq_true_eq] at hck
    obtain ⟨⟨⟨⟨⟨⟨⟨⟨⟨⟨⟨k1, k2⟩, k3⟩, k4⟩, k5⟩, k6⟩, k7⟩, k8⟩, k9⟩, k10⟩, k11⟩, k12⟩ := hck
    obtain ⟨hst, hlen⟩ := aArgs_ok hargs
    have hws : ∀ w ∈ [cwM r], ∀ (a' : Array Value) (U : State), s.WarmedH U.vm → w.before a' U = true := fun w hw a' U hU => by
      rw [List.mem_singleton.mp hw]
      exact cx_word C hcw hcg a' U (State.WarmedH.trans hW hU)
    have hini : (Jvm.Cond.initialized (rY r).cls).before args s = true := cx_tb C k2 rfl
    have hcode : (cwM r).before args s = true := cx_word C hcw hcg args s hW
    have hsig : ∀ sig, parseMethodDescriptor (rY r).desc = some sig → rNA r = sig.parameters.length := fun sig h => by
      rw [h] at k9
      exact (Option.some.inj k9).symm
    simp only [rqC, Bool.and_eq_true, Nat.ble_eq] at hrq
    have e5 : mML q.1 = rML r := by unfold mML; rw [hr]
    have hfr : (rmD q.1 H x).frames + 1 ≤ R.frames := by rw [hRf]; exact hrq.1
    have hlo : 8 + (rML r + 11) + (rmD q.1 H x).locals ≤ R.locals := by rw [hRl]; show 8 + (rML r + 11) + mLO q.1 ≤ _; have := hrq.2; omega
    have S : CallFix p m c c.code (mML M) s args [] O := ⟨hx, rfl, hml, hown, fun w h => nomatch h⟩
    have hroom : 2 * (F0 m pc lsr st).monitorRoom + (rest.map fun v => v.category).sum ≤ 8 := by
      show 2 * 0 + catS rest ≤ 8
      omega
    by_cases hh : rHH r = []
    · have hcwe : cwM r = .code (rY r) (rB r) (rML r) (rRet r) := by unfold cwM; rw [if_pos hh]
      rw [hcwe] at hws hcode hM
      have base : (rmD q.1 H x).cells = x.2.2.1 - H.2.1 ∧ (rmD q.1 H x).slots = x.2.2.2.1 - H.2.2.1 ∧ (rmD q.1 H x).frames + 1 ≤ R.frames ∧ 8 + (rML r + 11) + (rmD q.1 H x).locals ≤ R.locals ∧ (∀ w ∈ [Jvm.Cond.code (rY r) (rB r) (rML r) (rRet r)], ∀ (a' : Array Value) (U : State), s.WarmedH U.vm → w.before a' U = true) ∧ Jvm.Cond.code (rY r) (rB r) (rML r) (rRet r) ∈ [Jvm.Cond.code (rY r) (rB r) (rML r) (rRet r)] :=
        ⟨rfl, rfl, hfr, hlo, hws, List.mem_cons_self⟩
      subst hkd
      have hk3 : rKd r = 0 ∨ rKd r = 1 ∨ rKd r = 2 := by omega
      rcases hk3 with hk3 | hk3 | hk3
      · rw [hk3] at hrecv hargs k1 hd hlen
        rw [if_neg (by decide)] at k1
        rw [if_pos hk3] at k3
        match as, hrecv, hst, hlen, hM with
        | .ref b :: As, hrecv, hst, hlen, hM =>
          have hp0 : ∃ cell : Cell, Hr[b]? = some cell ∧ cell.vm.isStatics = false ∧ s.vm.findClass (rY r).cls = some cell.cls := by
            have hrecv : (if rCi r = 11 then false else (match H.1 b with | some (.inr (cj, _)) => cj == rCi r | _ => false)) = true := hrecv
            cases hcl : aCl[rCi r]? with
            | none =>
              simp only [hcl, Bool.and_eq_true, decide_eq_true_eq] at k3
              obtain ⟨⟨z1, z2⟩, -⟩ := k3
              rw [if_pos z1] at hrecv
              cases hrecv
            | some r' =>
              obtain ⟨C9, T9, N9⟩ := r'
              simp only [hcl, Bool.and_eq_true, decide_eq_true_eq] at k3
              obtain ⟨⟨hC9, z1⟩, -⟩ := k3
              rw [if_neg z1] at hrecv
              cases hb : H.1 b with
              | none => rw [hb] at hrecv; cases hrecv
              | some y =>
                rw [hb] at hrecv
                match y, hrecv, hb with
                | .inr (cj, fs), hrecv, hb =>
                  have hcj : cj = rCi r := by simpa using hrecv
                  subst hcj
                  obtain ⟨r', c1, c2, cell, q1, q2, q3, q4⟩ := hR.2.1 b _ hb
                  cases hcl.symm.trans c1
                  have hcls := (cx_Kn C hcl).2.1
                  exact ⟨cell, q1, obV_ns q3, by rw [q2, ← hC9]; exact hcls⟩
          obtain ⟨cell, q1, q3, hcls⟩ := hp0
          have hsel := cx_tb (args := args) C (show tb r.2.2.2.2.2.2.2.2.2.2.2.2.2 = some (.selects (rY r).cls (rY r) (rY r)) by
            simp only [Bool.and_eq_true, decide_eq_true_eq] at k3
            exact k3.2) rfl
          have hp : PreV s Hr (rY r).cls b (gPc S0 D g0 H (.ref b :: As)) As := ⟨gPc_blind, ⟨cell, q1, q3, hcls⟩, fun U hU hUW => ⟨rfl, by rw [hU]; exact hR, State.WarmedH.trans hW hUW⟩⟩
          have hlen' : As.length = rNA r := by
            have : (Value.ref b :: As).length = rNA r + 1 := hlen
            exact Nat.succ.inj this
          have hst' : (F0 m pc lsr st).stack = As.reverse ++ .ref b :: rest := by
            show st = _
            rw [hst, List.reverse_cons, List.append_assoc]; rfl
          by_cases hn : q.2.1 = ""
          · exact vx_runV S hM ⟨⟨base.1, base.2.1, base.2.2.1, base.2.2.2.1, base.2.2.2.2.1, base.2.2.2.2.2, hcode, hini, ⟨k7, k8⟩, hsig, cx_tb C (hl1 hn) rfl⟩, cx_tb C k1 rfl, hsel⟩ hp rfl hlen' hsz hst' hroom hd ⟨hc, hs⟩
          · exact vx_runVN S hM ⟨⟨base, hcode, hini, ⟨k7, k8⟩, hsig, cx_exw C (tb_in (hl2 hn)) rfl⟩, cx_tb C k1 rfl, hsel⟩ hp rfl hlen' hsz hst' hroom hd ⟨hc, hs⟩
      · rw [hk3] at hargs k1 hd
        rw [if_pos rfl] at k1
        have hp : PreS s Hr (gPc S0 D g0 H as) as := ⟨gPc_blind, fun U hU hUW => ⟨rfl, by rw [hU]; exact hR, State.WarmedH.trans hW hUW⟩⟩
        rw [hk3] at hlen
        have hlen' : as.length = rNA r := hlen
        by_cases hn : q.2.1 = ""
        · exact vx_runS S hM ⟨⟨base.1, base.2.1, base.2.2.1, base.2.2.2.1, base.2.2.2.2.1, base.2.2.2.2.2, hcode, hini, ⟨k7, k8⟩, hsig, cx_tb C (hl1 hn) rfl⟩, cx_tb C k1 rfl⟩ hp rfl hlen' hsz hst hroom hd ⟨hc, hs⟩
        · exact vx_runSN S hM ⟨⟨base, hcode, hini, ⟨k7, k8⟩, hsig, cx_exw C (tb_in (hl2 hn)) rfl⟩, cx_tb C k1 rfl, trivial⟩ hp rfl hlen' hsz hst hroom hd ⟨hc, hs⟩
      · rw [hk3] at hrecv hargs k1 hd hlen
        rw [if_neg (by decide)] at k1
        rw [if_pos hk3] at k4
        simp only [Bool.and_eq_true, decide_eq_true_eq] at k4
        rw [k4.2] at base hcode hM
        match as, hrecv, hst, hlen, hM with
        | .ref b :: As, hrecv, hst, hlen, hM =>
          have hlen' : As.length = rNA r := Nat.succ.inj hlen
          have hst' : (F0 m pc lsr st).stack = As.reverse ++ .ref b :: rest := by
            show st = _
            rw [hst, List.reverse_cons, List.append_assoc]; rfl
          have hp : PreS s Hr (gPc S0 D g0 H (.ref b :: As)) (.ref b :: As) := ⟨gPc_blind, fun U hU hUW => ⟨rfl, by rw [hU]; exact hR, State.WarmedH.trans hW hUW⟩⟩
          by_cases hn : q.2.1 = ""
          · exact vx_runI S hM ⟨⟨base.1, base.2.1, base.2.2.1, base.2.2.2.1, base.2.2.2.2.1, base.2.2.2.2.2, hcode, hini, ⟨k7, k8⟩, hsig, cx_tb C (hl1 hn) rfl⟩, k4.1, cx_tb C k1 rfl⟩ hp rfl hlen' hsz hst' hroom hd ⟨hc, hs⟩
          · exact vx_runIN S hM ⟨⟨base, hcode, hini, ⟨k7, k8⟩, hsig, cx_exw C (tb_in (hl2 hn)) rfl⟩, k4.1, cx_tb C k1 rfl⟩ hp rfl hlen' hsz hst' hroom hd ⟨hc, hs⟩
    · have hcwe : cwM r = .codeWith (rY r) (rB r) (rML r) (rRet r) (rHH r) := by unfold cwM; rw [if_neg hh]
      rw [hcwe] at hws hcode hM
      rw [if_neg hh] at k12
      have hk3 : rKd r = 1 := of_decide_eq_true k12
      subst hkd
      rw [hk3] at hargs k1 hd hlen
      rw [if_pos rfl] at k1
      have hp : PreS s Hr (gPc S0 D g0 H as) as := ⟨gPc_blind, fun U hU hUW => ⟨rfl, by rw [hU]; exact hR, State.WarmedH.trans hW hUW⟩⟩
      have hlen' : as.length = rNA r := hlen
      by_cases hn : q.2.1 = ""
      · exact vx_runSX S hM ⟨⟨rfl, rfl, hfr, hlo, hws, List.mem_cons_self⟩, hcode, hini, ⟨k7, k8⟩, hsig, cx_tb C (hl1 hn) rfl, cx_tb C k1 rfl⟩ hp rfl hlen' hsz hst hroom hd ⟨hc, hs⟩
      · have := List.all_eq_true.mp okH _ (fnd3_mem hq)
        simp only [Bool.or_eq_true, decide_eq_true_eq, hn, false_or, hr, hh] at this
end
end
section
/-! ===== the whole of a step, and of a run ===== -/
theorem mDec_len {M pc len : Nat} {i : Instr} (h : mDec M pc = some (i, len)) : ilen i = 0 ∨ ilen i = len := by
  unfold mDec at h
  split at h
  next => cases h
  next r hr =>
    split at h
    next q hq =>
      split at h
      next hc => cases h; exact hc
      next => cases h
    next => cases h
section
variable {p : Program} {l : Launch} {e : Env} {R : Room} {s : State} {m : MethodId} {args : Array Value} {below : List Frame} {meth : Method} {c : Code} {Q : State → Prop} {S0 : State} {D : va_G} {g0 : Nat × Nat} {M n0 w0 : Nat}
theorem stepS (C : aCx p s m meth c S0 D g0 M) {pc len : Nat} {i : Instr} {ls : aLs} {st : List Value} {H : aH} {q : aQ} (hm : mDec M pc = some (i, len)) (h : aS M pc len i ls st H = some (.inl q)) (hc : q.2.2.2.2.1 - n0 ≤ R.cells) (hs : q.2.2.2.2.2.1 - w0 ≤ R.slots) (hn : n0 ≤ H.2.1) (hw0 : w0 ≤ H.2.2.1)
    (k : Wq p l e R s m args below meth c Q S0 D g0 (mML M) n0 w0 q) : Wq p l e R s m args below meth c Q S0 D g0 (mML M) n0 w0 (pc, ls, st, H) := by
  have hlen := mDec_len hm
  cases i with
  | iconst n =>
    obtain rfl : 1 = len := hlen.resolve_left (Nat.succ_ne_zero _)
    exact st_iconst C hm h k
  | bipush n =>
    obtain rfl : 2 = len := hlen.resolve_left (Nat.succ_ne_zero _)
    exact st_bipush C hm h k
  | sipush n =>
    obtain rfl : 3 = len := hlen.resolve_left (Nat.succ_ne_zero _)
    exact st_sipush C hm h k
  | lconst n =>
    obtain rfl : 1 = len := hlen.resolve_left (Nat.succ_ne_zero _)
    exact st_lconst C hm h k
  | dconst n =>
    obtain rfl : 1 = len := hlen.resolve_left (Nat.succ_ne_zero _)
    exact st_dconst C hm h k
  | aconst_null =>
    obtain rfl : 1 = len := hlen.resolve_left (Nat.succ_ne_zero _)
    exact st_null C hm h k
  | ldc j =>
    obtain rfl : 2 = len := hlen.resolve_left (Nat.succ_ne_zero _)
    exact st_ldc C hm h k
  | ldc_w j =>
    obtain rfl : 3 = len := hlen.resolve_left (Nat.succ_ne_zero _)
    exact st_ldcw C hm h k
  | ldc2_w j =>
    obtain rfl : 3 = len := hlen.resolve_left (Nat.succ_ne_zero _)
    exact st_ldc2 C hm h k
  | iload j =>
    obtain rfl : 2 = len := hlen.resolve_left (Nat.succ_ne_zero _)
    exact st_iload C hm h k
  | lload j =>
    obtain rfl : 2 = len := hlen.resolve_left (Nat.succ_ne_zero _)
    exact st_lload C hm h k
  | dload j =>
    obtain rfl : 2 = len := hlen.resolve_left (Nat.succ_ne_zero _)
    exact st_dload C hm h k
  | aload j =>
    obtain rfl : 2 = len := hlen.resolve_left (Nat.succ_ne_zero _)
    exact st_aload C hm h k
  | iload_n j =>
    obtain rfl : 1 = len := hlen.resolve_left (Nat.succ_ne_zero _)
    exact st_iloadn C hm h k
  | lload_n j =>
    obtain rfl : 1 = len := hlen.resolve_left (Nat.succ_ne_zero _)
    exact st_lloadn C hm h k
  | dload_n j =>
    obtain rfl : 1 = len := hlen.resolve_left (Nat.succ_ne_zero _)
    exact st_dloadn C hm h k
  | aload_n j =>
    obtain rfl : 1 = len := hlen.resolve_left (Nat.succ_ne_zero _)
    exact st_aloadn C hm h k
  | istore j =>
    obtain rfl : 2 = len := hlen.resolve_left (Nat.succ_ne_zero _)
    exact st_istore C hm h k
  | lstore j =>
    obtain rfl : 2 = len := hlen.resolve_left (Nat.succ_ne_zero _)
    exact st_lstore C hm h k
  | dstore j =>
    obtain rfl : 2 = len := hlen.resolve_left (Nat.succ_ne_zero _)
    exact st_dstore C hm h k
  | astore j =>
    obtain rfl : 2 = len := hlen.resolve_left (Nat.succ_ne_zero _)
    exact st_astore C hm h k
  | istore_n j =>
    obtain rfl : 1 = len := hlen.resolve_left (Nat.succ_ne_zero _)
    exact st_istoren C hm h k
  | lstore_n j =>
    obtain rfl : 1 = len := hlen.resolve_left (Nat.succ_ne_zero _)
    exact st_lstoren C hm h k
  | dstore_n j =>
    obtain rfl : 1 = len := hlen.resolve_left (Nat.succ_ne_zero _)
    exact st_dstoren C hm h k
  | astore_n j =>
    obtain rfl : 1 = len := hlen.resolve_left (Nat.succ_ne_zero _)
    exact st_astoren C hm h k
  | iinc j n =>
    obtain rfl : 3 = len := hlen.resolve_left (Nat.succ_ne_zero _)
    exact st_iinc C hm h k
  | goto j =>
    obtain rfl : 3 = len := hlen.resolve_left (Nat.succ_ne_zero _)
    exact st_goto C hm h k
  | ifnull j =>
    obtain rfl : 3 = len := hlen.resolve_left (Nat.succ_ne_zero _)
    exact st_ifnull C hm h k
  | ifnonnull j =>
    obtain rfl : 3 = len := hlen.resolve_left (Nat.succ_ne_zero _)
    exact st_ifnonnull C hm h k
  | getfield j =>
    obtain rfl : 3 = len := hlen.resolve_left (Nat.succ_ne_zero _)
    exact st_getf C hm h k
  | putfield j =>
    obtain rfl : 3 = len := hlen.resolve_left (Nat.succ_ne_zero _)
    exact st_putf C hm h k
  | getstatic j =>
    obtain rfl : 3 = len := hlen.resolve_left (Nat.succ_ne_zero _)
    exact st_gets C hm h k
  | dcmp j =>
    obtain rfl : 1 = len := hlen.resolve_left (Nat.succ_ne_zero _)
    exact st_dcmp C hm h k
  | arraylength =>
    obtain rfl : 1 = len := hlen.resolve_left (Nat.succ_ne_zero _)
    exact st_alen C hm h k
  | iaload =>
    obtain rfl : 1 = len := hlen.resolve_left (Nat.succ_ne_zero _)
    exact st_iald C hm h k
  | laload =>
    obtain rfl : 1 = len := hlen.resolve_left (Nat.succ_ne_zero _)
    exact st_lald C hm h k
  | baload =>
    obtain rfl : 1 = len := hlen.resolve_left (Nat.succ_ne_zero _)
    exact st_bald C hm h k
  | aaload =>
    obtain rfl : 1 = len := hlen.resolve_left (Nat.succ_ne_zero _)
    exact st_aald C hm h k
  | iastore =>
    obtain rfl : 1 = len := hlen.resolve_left (Nat.succ_ne_zero _)
    exact st_iast C hm h k
  | bastore =>
    obtain rfl : 1 = len := hlen.resolve_left (Nat.succ_ne_zero _)
    exact st_bast C hm h k
  | lastore =>
    obtain rfl : 1 = len := hlen.resolve_left (Nat.succ_ne_zero _)
    exact st_last C hm h k
  | aastore =>
    obtain rfl : 1 = len := hlen.resolve_left (Nat.succ_ne_zero _)
    exact st_aast C hm h k
  | iadd =>
    obtain rfl : 1 = len := hlen.resolve_left (Nat.succ_ne_zero _)
    exact st_iadd C hm h k
  | isub =>
    obtain rfl : 1 = len := hlen.resolve_left (Nat.succ_ne_zero _)
    exact st_isub C hm h k
  | imul =>
    obtain rfl : 1 = len := hlen.resolve_left (Nat.succ_ne_zero _)
    exact st_imul C hm h k
  | iand =>
    obtain rfl : 1 = len := hlen.resolve_left (Nat.succ_ne_zero _)
    exact st_iand C hm h k
  | ior =>
    obtain rfl : 1 = len := hlen.resolve_left (Nat.succ_ne_zero _)
    exact st_ior C hm h k
  | ixor =>
    obtain rfl : 1 = len := hlen.resolve_left (Nat.succ_ne_zero _)
    exact st_ixor C hm h k
  | ishl =>
    obtain rfl : 1 = len := hlen.resolve_left (Nat.succ_ne_zero _)
    exact st_ishl C hm h k
  | ishr =>
    obtain rfl : 1 = len := hlen.resolve_left (Nat.succ_ne_zero _)
    exact st_ishr C hm h k
  | iushr =>
    obtain rfl : 1 = len := hlen.resolve_left (Nat.succ_ne_zero _)
    exact st_iushr C hm h k
  | ladd =>
    obtain rfl : 1 = len := hlen.resolve_left (Nat.succ_ne_zero _)
    exact st_ladd C hm h k
  | lsub =>
    obtain rfl : 1 = len := hlen.resolve_left (Nat.succ_ne_zero _)
    exact st_lsub C hm h k
  | lmul =>
    obtain rfl : 1 = len := hlen.resolve_left (Nat.succ_ne_zero _)
    exact st_lmul C hm h k
  | land =>
    obtain rfl : 1 = len := hlen.resolve_left (Nat.succ_ne_zero _)
    exact st_land C hm h k
  | lor =>
    obtain rfl : 1 = len := hlen.resolve_left (Nat.succ_ne_zero _)
    exact st_lor C hm h k
  | lxor =>
    obtain rfl : 1 = len := hlen.resolve_left (Nat.succ_ne_zero _)
    exact st_lxor C hm h k
  | lshl =>
    obtain rfl : 1 = len := hlen.resolve_left (Nat.succ_ne_zero _)
    exact st_lshl C hm h k
  | lshr =>
    obtain rfl : 1 = len := hlen.resolve_left (Nat.succ_ne_zero _)
    exact st_lshr C hm h k
  | lushr =>
    obtain rfl : 1 = len := hlen.resolve_left (Nat.succ_ne_zero _)
    exact st_lushr C hm h k
  | lcmp =>
    obtain rfl : 1 = len := hlen.resolve_left (Nat.succ_ne_zero _)
    exact st_lcmp C hm h k
  | idiv =>
    obtain rfl : 1 = len := hlen.resolve_left (Nat.succ_ne_zero _)
    exact st_idiv C hm h k
  | irem =>
    obtain rfl : 1 = len := hlen.resolve_left (Nat.succ_ne_zero _)
    exact st_irem C hm h k
  | ldiv =>
    obtain rfl : 1 = len := hlen.resolve_left (Nat.succ_ne_zero _)
    exact st_ldiv C hm h k
  | ddiv =>
    obtain rfl : 1 = len := hlen.resolve_left (Nat.succ_ne_zero _)
    exact st_ddiv C hm h k
  | ineg =>
    obtain rfl : 1 = len := hlen.resolve_left (Nat.succ_ne_zero _)
    exact st_ineg C hm h k
  | i2l =>
    obtain rfl : 1 = len := hlen.resolve_left (Nat.succ_ne_zero _)
    exact st_i2l C hm h k
  | l2i =>
    obtain rfl : 1 = len := hlen.resolve_left (Nat.succ_ne_zero _)
    exact st_l2i C hm h k
  | i2d =>
    obtain rfl : 1 = len := hlen.resolve_left (Nat.succ_ne_zero _)
    exact st_i2d C hm h k
  | dup =>
    obtain rfl : 1 = len := hlen.resolve_left (Nat.succ_ne_zero _)
    exact st_dup C hm h k
  | pop =>
    obtain rfl : 1 = len := hlen.resolve_left (Nat.succ_ne_zero _)
    exact st_pop C hm h k
  | dup2 =>
    obtain rfl : 1 = len := hlen.resolve_left (Nat.succ_ne_zero _)
    exact st_dup2 C hm h k
  | newarray ty =>
    obtain rfl : 2 = len := hlen.resolve_left (Nat.succ_ne_zero _)
    exact st_newa C hm h hc hs hn hw0 k
  | anewarray j =>
    obtain rfl : 3 = len := hlen.resolve_left (Nat.succ_ne_zero _)
    exact st_anew C hm h hc hs hn hw0 k
  | ifCond c9 o =>
    obtain rfl : 3 = len := hlen.resolve_left (Nat.succ_ne_zero _)
    cases c9 with
    | eq => exact st_if_eq C hm h k
    | ne => exact st_if_ne C hm h k
    | lt => exact st_if_lt C hm h k
    | ge => exact st_if_ge C hm h k
    | gt => exact st_if_gt C hm h k
    | le => exact st_if_le C hm h k
  | if_icmp c9 o =>
    obtain rfl : 3 = len := hlen.resolve_left (Nat.succ_ne_zero _)
    cases c9 with
    | eq => exact st_ic_eq C hm h k
    | ne => exact st_ic_ne C hm h k
    | lt => exact st_ic_lt C hm h k
    | ge => exact st_ic_ge C hm h k
    | gt => exact st_ic_gt C hm h k
    | le => exact st_ic_le C hm h k
  | if_acmp c9 o =>
    obtain rfl : 3 = len := hlen.resolve_left (Nat.succ_ne_zero _)
    cases c9 with
    | eq => cases h
    | ne => exact st_acmp C hm h k
  | tableswitch a9 b9 c9 d9 => exact st_tsw C hm h k
  | _ => cases h
/-- the library's own deeds -/
theorem prim_ok (C : aCx p s m meth c S0 D g0 M) {kd k pc : Nat} {q : Nat × String × Nat} {ls : aLs} {st as rest : List Value} {H H' : aH} {v : Option Value} (hq : fnd3 aKT (mOc M) k = some q) (hge : 1000 ≤ q.1) (hkd : pKd q.1 = kd) (hargs : aArgs (pNA q.1) st = some (as, rest)) (hcat : catS rest ≤ 8) (hE : aPrim q.1 as H = some (.inl v, H'))
    (hm : mDec M pc = some (insK kd k, 3)) (hRf : 1 ≤ R.frames) (hRl : 20 ≤ R.locals) (kk : Wq p l e R s m args below meth c Q S0 D g0 (mML M) n0 w0 (pc + 3, ls, v.toList ++ rest, H')) : Wq p l e R s m args below meth c Q S0 D g0 (mML M) n0 w0 (pc, ls, st, H) := by
  have hd := C.2.1 pc _ hm
  have hx := C.1
  obtain ⟨O, hO, hown⟩ := C.2.2.2.1
  obtain ⟨hne, hl1, hl2⟩ := kT_ok hq hO
  obtain ⟨hst, hlen⟩ := aArgs_ok hargs
  obtain ⟨M', ho, p9⟩ := q
  have hP := List.all_eq_true.mp okP _ (fnd3_mem hq)
  simp only [chkP, Bool.or_eq_true, Bool.and_eq_true, decide_eq_true_eq] at hP
  rcases hP with hP | hP
  · exact absurd hge (Nat.not_le.mpr hP)
  obtain ⟨hho, hP⟩ := hP
  subst hho
  replace hl1 := hl1 rfl
  obtain rfl := hP
  · subst hkd
    match as, hE, hst with
    | [.ref a], hE, hst =>
      have hE : some ((.inl none : aO), H) = some (.inl v, H') := hE
      cases hE
      intro Hr lsr locs hR hL hl
      subst hst
      exact W.objInit hx rfl hown (cx_tb C hl1 rfl) (cx_word C okOI.1 rfl args s C.2.2.2.2.1) (cx_word C okOI.2 rfl args s C.2.2.2.2.1) rfl (by rw [C.2.2.1]; exact LR_size hL) rfl hd hRf (by show 2 * 0 + catS rest + 12 ≤ _; omega) (kk Hr lsr locs hR hL hl)
end
end
section
/-! ===== a step that calls ===== -/
theorem hnd_ok {oc pc : Nat} {E : String} {hp : Nat} : ∀ {hh : List (Nat × Nat × Nat × Nat)}, hnd oc pc E hh = some (some hp) → ∃ pre x suf, tableOf hh = pre ++ x :: suf ∧ covers x pc = true ∧ x.handlerPc = hp ∧ (∃ p9, fnd3 aCT oc x.catchType = some (E, p9)) ∧ ∀ z ∈ pre, covers z pc = false ∨ ∃ nm p9, fnd3 aCT oc z.catchType = some (nm, p9) ∧ (E, nm) ∈ aNC
  | [], h => by cases h
  | (a, b, hq, t) :: r, h => by
    rw [hnd] at h
    split at h
    next hc =>
      cases hf : fnd3 aCT oc t with
      | none => rw [hf] at h; cases h
      | some nm =>
        rw [hf] at h
        replace h : (if nm.1 = E then some (some hq) else if (E, nm.1) ∈ aNC then hnd oc pc E r else none) = some (some hp) := h
        split at h
        next he =>
          cases h
          obtain ⟨n1, n2⟩ := nm
          have he : n1 = E := he
          subst he
          exact ⟨[], ⟨a, b, hp, t⟩, tableOf r, rfl, by simp [covers, hc], rfl, ⟨n2, hf⟩, fun z hz => nomatch hz⟩
        next he =>
          split at h
          next hn =>
            obtain ⟨pre, x, suf, h1, h2, h3, h4, h5⟩ := hnd_ok h
            refine ⟨⟨a, b, hq, t⟩ :: pre, x, suf, by rw [List.cons_append, ← h1]; rfl, h2, h3, h4, fun z hz => ?_⟩
            rcases List.mem_cons.mp hz with rfl | hz
            · exact Or.inr ⟨nm.1, nm.2, hf, hn⟩
            · exact h5 z hz
          next => cases h
    next hc =>
      obtain ⟨pre, x, suf, h1, h2, h3, h4, h5⟩ := hnd_ok h
      refine ⟨⟨a, b, hq, t⟩ :: pre, x, suf, by rw [List.cons_append, ← h1]; rfl, h2, h3, h4, fun z hz => ?_⟩
      rcases List.mem_cons.mp hz with rfl | hz
      · refine Or.inl ?_
        simp only [covers, Bool.and_eq_false_iff, decide_eq_false_iff_not]
        by_cases h9 : a ≤ pc
        · exact Or.inr fun h8 => hc ⟨h9, h8⟩
        · exact Or.inl h9
      · exact h5 z hz
theorem aPrim_inl {p : Nat} {as : List Value} {H : aH} {x : aO × aH} (h : aPrim p as H = some x) : (∃ v, x.1 = .inl v) ∧ x.2.2 = H.2 := by
  unfold aPrim at h
  split at h
  · cases h; exact ⟨⟨_, rfl⟩, rfl⟩
  · cases h
section
variable {p : Program} {l : Launch} {e : Env} {R : Room} {s : State} {m : MethodId} {args : Array Value} {below : List Frame} {meth : Method} {c : Code} {Q : State → Prop} {S0 : State} {D : va_G} {g0 : Nat × Nat} {M n0 w0 : Nat}
/-- what a call comes to: a step, or an end -/
theorem aCall_ok {d kd k pc : Nat} {ls : aLs} {st : List Value} {H : aH} {y : aQ ⊕ (aO × aH)} (h : aCall (aE d) M pc kd k ls st H = some y) : ∃ q : Nat × String × Nat, fnd3 aKT (mOc M) k = some q ∧
    ((1000 ≤ q.1 ∧ (pKd q.1 = kd ∧ rqP M = true) ∧ ∃ as rest x, aArgs (pNA q.1) st = some (as, rest) ∧ catS rest ≤ 8 ∧ aPrim q.1 as H = some x ∧ aBack M pc ls rest (some x) = some y) ∨
     (¬ 1000 ≤ q.1 ∧ (mKd q.1 = kd ∧ rqC M q.1 = true) ∧ ∃ as rest x, aArgs (mNA q.1 + (if kd = 1 then 0 else 1)) st = some (as, rest) ∧ catS rest ≤ 8 ∧ recv kd (mCi q.1) as H = true ∧ aE d q.1 as H = some x ∧ aBack M pc ls rest (some x) = some y)) := by
  unfold aCall at h
  cases hq : fnd3 aKT (mOc M) k with
  | none => rw [hq] at h; cases h
  | some q =>
    rw [hq] at h
    refine ⟨q, rfl, ?_⟩
    by_cases hge : 1000 ≤ q.1
    · replace h : (if 1000 ≤ q.1 then (if pKd q.1 = kd ∧ rqP M = true then (aArgs (pNA q.1) st).bind fun a => if catS a.2 ≤ 8 then aBack M pc ls a.2 (aPrim q.1 a.1 H) else none else none) else (if mKd q.1 = kd ∧ rqC M q.1 = true then (aArgs (mNA q.1 + (if kd = 1 then 0 else 1)) st).bind fun a => if catS a.2 ≤ 8 ∧ recv kd (mCi q.1) a.1 H = true then aBack M pc ls a.2 (aE d q.1 a.1 H) else none else none)) = some y := h
      rw [if_pos hge] at h
      split at h
      next hkd =>
        cases ha : aArgs (pNA q.1) st with
        | none => rw [ha] at h; cases h
        | some a =>
          rw [ha] at h
          replace h : (if catS a.2 ≤ 8 then aBack M pc ls a.2 (aPrim q.1 a.1 H) else none) = some y := h
          split at h
          next hcat =>
            cases hE : aPrim q.1 a.1 H with
            | none => rw [hE] at h; cases h
            | some x => rw [hE] at h; exact Or.inl ⟨hge, hkd, a.1, a.2, x, rfl, hcat, hE, h⟩
          next => cases h
      next => cases h
    · replace h : (if 1000 ≤ q.1 then (if pKd q.1 = kd ∧ rqP M = true then (aArgs (pNA q.1) st).bind fun a => if catS a.2 ≤ 8 then aBack M pc ls a.2 (aPrim q.1 a.1 H) else none else none) else (if mKd q.1 = kd ∧ rqC M q.1 = true then (aArgs (mNA q.1 + (if kd = 1 then 0 else 1)) st).bind fun a => if catS a.2 ≤ 8 ∧ recv kd (mCi q.1) a.1 H = true then aBack M pc ls a.2 (aE d q.1 a.1 H) else none else none)) = some y := h
      rw [if_neg hge] at h
      split at h
      next hkd =>
        cases ha : aArgs (mNA q.1 + (if kd = 1 then 0 else 1)) st with
        | none => rw [ha] at h; cases h
        | some a =>
          rw [ha] at h
          replace h : (if catS a.2 ≤ 8 ∧ recv kd (mCi q.1) a.1 H = true then aBack M pc ls a.2 (aE d q.1 a.1 H) else none) = some y := h
          split at h
          next hcat =>
            cases hE : aE d q.1 a.1 H with
            | none => rw [hE] at h; cases h
            | some x => rw [hE] at h; exact Or.inr ⟨hge, hkd, a.1, a.2, x, rfl, hcat.1, hcat.2, hE, h⟩
          next => cases h
      next => cases h
theorem st_call (C : aCx p s m meth c S0 D g0 M) {d kd k pc : Nat} (hOk : gOk l S0 D g0 d) (hT : c.exceptionTable.toList = tableOf (mHH M)) (hnc : ∀ q ∈ aNC, va_Nc q.1 q.2 S0) {ls : aLs} {st : List Value} {H : aH} {q : aQ} (hm : mDec M pc = some (insK kd k, 3)) (h : aCall (aE d) M pc kd k ls st H = some (.inl q))
    (hRf : R.frames = mFR M) (hRl : R.locals = mLO M) (hc : q.2.2.2.2.1 - n0 ≤ R.cells) (hs : q.2.2.2.2.2.1 - w0 ≤ R.slots) (hn : n0 ≤ H.2.1) (hw0 : w0 ≤ H.2.2.1)
    (kk : Wq p l e R s m args below meth c Q S0 D g0 (mML M) n0 w0 q) : Wq p l e R s m args below meth c Q S0 D g0 (mML M) n0 w0 (pc, ls, st, H) := by
  have hd := C.2.1 pc _ hm
  have hx := C.1
  have hal := C.2.2.2.2.2.2.2.2.2.2.2.2
  obtain ⟨O, hO, hown⟩ := C.2.2.2.1
  obtain ⟨q9, hq, hcase⟩ := aCall_ok h
  rcases hcase with ⟨hge, hkd, as, rest, x, ha, hcat, hE, hb⟩ | ⟨hge, hkd, as, rest, x, ha, hcat, hrecv, hE, hb⟩
  · obtain ⟨o, H'⟩ := x
    obtain ⟨⟨v, hv⟩, -⟩ := aPrim_inl hE
    have hv : o = .inl v := hv
    subst hv
    have hb := go_inj (show go _ _ _ _ = _ from hb)
    subst hb
    have hrq := hkd.2
    simp only [rqP, Bool.and_eq_true, Nat.ble_eq] at hrq
    exact prim_ok C hq hge hkd.1 ha hcat hE hm (by omega) (by omega) kk
  · cases hr : aRec q9.1 with
    | none =>
      have h9 := List.all_eq_true.mp okH2 _ (fnd3_mem hq)
      simp only [hr, Option.isSome_none, Bool.false_or, decide_eq_true_eq] at h9
      exact absurd h9 hge
    | some r =>
      obtain ⟨hne, -, -⟩ := kT_ok hq hO
      obtain ⟨m1, m2, -⟩ := hOk q9.1 as H x r hr hne hE
      obtain ⟨o, H'⟩ := x
      have m1 : H.2.1 ≤ H'.2.1 := m1
      have m2 : H.2.2.1 ≤ H'.2.2.1 := m2
      cases o with
      | inl v =>
        have hb := go_inj (show go _ _ _ _ = _ from hb)
        subst hb
        have hc : H'.2.1 - n0 ≤ R.cells := hc
        have hs : H'.2.2.1 - w0 ≤ R.slots := hs
        intro Hr lsr locs hR hL hl
        have hrun := call_run C hOk hq hge hkd.1 hkd.2 ha hcat hrecv hE hd hR (LR_size hL) hRf hRl (cells := H.2.1 - n0) (slots := H.2.2.1 - w0) (locs := locs) (args := args) (below := below) (p := p) (e := e) (m := m) (by show H.2.1 - n0 + (H'.2.1 - H.2.1) ≤ _; omega) (by show H.2.2.1 - w0 + (H'.2.2.1 - H.2.2.1) ≤ _; omega)
        intro T hTh X
        rcases hrun T hTh X with ⟨v', st₀, t, T', L, h0, X', hL9, e1, e2, ⟨v9, g1, g2, g3⟩, stp⟩ | ⟨q', st₀, t, T', L, E', ce, h0, X', hL9, e1, e2, ⟨g1, -⟩, -⟩
        · cases g1
          cases g2
          have c1 : H.2.1 - n0 + (H'.2.1 - H.2.1) = H'.2.1 - n0 := by omega
          have c2 : H.2.2.1 - w0 + (H'.2.2.1 - H.2.2.1) = H'.2.2.1 - w0 := by omega
          replace X' : Stand p l e R s m args below meth c T' (locs ++ L) (H.2.1 - n0 + (H'.2.1 - H.2.1)) (H.2.2.1 - w0 + (H'.2.2.1 - H.2.2.1)) := X'
          rw [c1, c2] at X'
          obtain ⟨t2, a1, b1⟩ := kk t.heap lsr (locs ++ L) g3 hL (fun z hz => (List.mem_append.mp hz).elim (hl z) (hL9 z)) T' e1 X'
          exact ⟨t2, stp t2 a1, b1⟩
        · cases g1
      | inr E =>
        replace hb : (match hnd (mOc M) pc E (mHH M) with
          | none => none
          | some (some hp) => match mDec M hp with
            | some (.astore k, len) => if k < ls.length then go (hp + len) ((klA ls k).set k none) [] H' else none
            | some (.astore_n k, len) => if (k : Nat) < ls.length then go (hp + len) ((klA ls k).set k none) [] H' else none
            | _ => none
          | some none => if mHH M = [] then some (.inr (.inr E, H')) else none) = some (Sum.inl q) := hb
        cases hh : hnd (mOc M) pc E (mHH M) with
        | none => rw [hh] at hb; cases hb
        | some o9 =>
          rw [hh] at hb
          cases o9 with
          | none =>
            replace hb : (if mHH M = [] then (some (Sum.inr ((Sum.inr E : aO), H')) : Option (aQ ⊕ (aO × aH))) else none) = some (Sum.inl q) := hb
            split at hb <;> cases hb
          | some hp =>
            obtain ⟨pre, x9, suf, t1, t2, t3, ⟨p9, t4⟩, t5⟩ := hnd_ok hh
            have ck : ∀ t nm p9, fnd3 aCT (mOc M) t = some (nm, p9) → t ≠ 0 ∧ (Jvm.Cond.classLink O t nm).before args s = true := fun t nm p9 hf => by
              have a1 := List.all_eq_true.mp okC _ (fnd3_mem hf)
              have a2 := List.all_eq_true.mp okC0 _ (fnd3_mem hf)
              simp only [chkC, hO, decide_eq_true_eq] at a1 a2
              exact ⟨a2, cx_tb C a1 rfl⟩
            have hEE : (Jvm.Cond.castable E E).before args s = true := by
              have a1 := List.all_eq_true.mp okCC _ (fnd3_mem t4)
              simp only [decide_eq_true_eq, Bool.or_eq_true] at a1
              rcases a1 with a1 | a1
              · have hmem : (mHH M) ≠ [] := fun z => by rw [z] at hh; cases hh
                exact absurd (okHO M hmem) (fun z => by rw [z] at a1; exact absurd a1 (by decide))
              · exact cx_exw C a1 rfl
            -- what follows the handler's store
            have key : ∀ (k9 len9 : Nat), k9 < ls.length → (∀ (cells slots : Nat) (H9 : Heap) (lsr : Array Slot) (lv : List (Nat × Value)) (locs9 : List Loc) (q' : Nat), lv_has lsr (mML M) lv → k9 < mML M → (∀ ls' : Array Slot, lv_has ls' (mML M) ((k9, .ref q') :: lv.filter (fun q => !(q.1 == k9) && !(q.1 + 1 == k9 && q.2.category == 2))) → W p l e R s m args below meth c H9 locs9 cells slots Q (F0 m (hp + len9) ls' [])) → W p l e R s m args below meth c H9 locs9 cells slots Q (F0 m hp lsr [.ref q'])) →
                q = (hp + len9, (klA ls k9).set k9 none, [], H') → Wq p l e R s m args below meth c Q S0 D g0 (mML M) n0 w0 (pc, ls, st, H) := by
              intro k9 len9 hk9 hst9 hq9
              subst hq9
              have hc : H'.2.1 - n0 ≤ R.cells := hc
              have hs : H'.2.2.1 - w0 ≤ R.slots := hs
              intro Hr lsr locs hR hL hl
              have hrun := call_run C hOk hq hge hkd.1 hkd.2 ha hcat hrecv hE hd hR (LR_size hL) hRf hRl (cells := H.2.1 - n0) (slots := H.2.2.1 - w0) (locs := locs) (args := args) (below := below) (p := p) (e := e) (m := m) (by show H.2.1 - n0 + (H'.2.1 - H.2.1) ≤ _; omega) (by show H.2.2.1 - w0 + (H'.2.2.1 - H.2.2.1) ≤ _; omega)
              intro T hTh X
              rcases hrun T hTh X with ⟨v', st₀, t, T', L, h0, X', hL9, e1, e2, ⟨v9, g1, g2, g3⟩, stp⟩ | ⟨q', st₀, t, T', L, E', ce, h0, X', hL9, e1, e2, ⟨g1, g3⟩, hce, hcv, hcl, stp⟩
              · cases g1
              · cases g1
                have c1 : H.2.1 - n0 + (H'.2.1 - H.2.1) = H'.2.1 - n0 := by omega
                have c2 : H.2.2.1 - w0 + (H'.2.2.1 - H.2.2.1) = H'.2.2.1 - w0 := by omega
                replace X' : Stand p l e R s m args below meth c T' (locs ++ L) (H.2.1 - n0 + (H'.2.1 - H.2.1)) (H.2.2.1 - w0 + (H'.2.2.1 - H.2.2.1)) := X'
                rw [c1, c2] at X'
                obtain ⟨hle, lv, hlv, hin⟩ := id hL
                obtain ⟨hk1, hk2⟩ := LR_un (a := q') hL hk9
                have hcatch : vx_W p l e R s m args below meth c t.heap (locs ++ L) (H'.2.1 - n0) (H'.2.2.1 - w0) Q (F0 m pc lsr rest) q' := by
                  refine vx_catch hown pre x9 suf (hT.trans t1) (fun z hz => ?_) t2 (ck _ _ _ t4).1 (ck _ _ _ t4).2 hEE hce hcv hcl ?_
                  · rcases t5 z hz with z1 | ⟨nm, p8, z1, z2⟩
                    · exact Or.inl z1
                    · exact Or.inr ⟨(ck _ _ _ z1).1, nm, (ck _ _ _ z1).2, va_Nc.moved hal (hnc _ z2)⟩
                  · rw [t3]
                    exact hst9 _ _ _ _ lv _ q' hlv hk1 (fun ls' hl' => kk t.heap ls' (locs ++ L) g3 (hk2 lv ls' hlv hin hl') (fun z hz => (List.mem_append.mp hz).elim (hl z) (hL9 z)))
                obtain ⟨t9, a1, b1⟩ := hcatch T' e1 X'
                exact ⟨t9, stp.trans a1, b1⟩
            replace hb : (match mDec M hp with
              | some (.astore k, len) => if k < ls.length then go (hp + len) ((klA ls k).set k none) [] H' else none
              | some (.astore_n k, len) => if (k : Nat) < ls.length then go (hp + len) ((klA ls k).set k none) [] H' else none
              | _ => none) = some (Sum.inl q) := hb
            split at hb
            · rename_i k9 len9 hm9
              split at hb
              next hk9 =>
                obtain rfl : 2 = len9 := (mDec_len hm9).resolve_left (Nat.succ_ne_zero _)
                exact key k9 2 hk9 (fun cells slots H9 lsr lv locs9 q' hlv hk1 kk9 => lv_astore hx rfl (C.2.1 hp _ hm9) hlv hk1 rfl kk9) (go_inj hb)
              next => cases hb
            · rename_i k9 len9 hm9
              split at hb
              next hk9 =>
                obtain rfl : 1 = len9 := (mDec_len hm9).resolve_left (Nat.succ_ne_zero _)
                exact key k9 1 hk9 (fun cells slots H9 lsr lv locs9 q' hlv hk1 kk9 => lv_astore_n hx rfl (C.2.1 hp _ hm9) rfl hlv hk1 rfl kk9) (go_inj hb)
              next => cases hb
            · cases hb
end
end
section
/-! ===== ends, throws; a run; the contracts of all methods ===== -/
def tn1 : List String := ["java/lang/RuntimeException", "java/lang/Exception"]
def aXE : List (Nat × Nat × String) := (aXT.map fun x => (x.2.2.2.1, x.2.2.2.2.2.1, x.2.2.1)).eraseDups
def chkXE (x : Nat × Nat × String) : Bool := Bundle.fit x.2.2 && (Jvm.Cond.classLink "OvertureDesk" x.1 x.2.2 :: .initialized x.2.2 :: vx_atS "OvertureDesk" x.2.1 x.2.2 tn1).all (fun w => decide (w ∈ lw_tbl) && exW w && vx_ot w)
theorem okXE : aXE.all chkXE = true := by decide +kernel
theorem okTn : tn1.all Bundle.fit = true := by decide +kernel
def chkX (x : Nat × Nat × String × Nat × Nat × Nat × Bool × String) : Bool := match x with
  | (M, pc, E, ik, is, ic, wd, _) => decide ((ik, ic, E) ∈ aXE) && decide (aON[mOc M]? = some "OvertureDesk") && decide (mDec M pc = some (.new ik, 3)) && decide (mDec M (pc + 3) = some (.dup, 1)) &&
    (if wd then decide (mDec M (pc + 4) = some (.ldc_w is, 3)) && decide (mDec M (pc + 7) = some (.invokespecial ic, 3)) && decide (mDec M (pc + 10) = some (.athrow, 1))
      else decide (mDec M (pc + 4) = some (.ldc is, 2)) && decide (mDec M (pc + 6) = some (.invokespecial ic, 3)) && decide (mDec M (pc + 9) = some (.athrow, 1))) && decide (mHH M = [])
theorem okX : aXT.all chkX = true := by decide +kernel
def nor (o : Option (aQ ⊕ (aO × aH))) : Prop := ∀ x, o ≠ some (.inr x)
theorem nor_0 : nor none := fun x h => by cases h
theorem nor_g {H : aH} {pc : Nat} {ls : aLs} {st : List Value} : nor (go pc ls st H) := fun x h => by cases h
theorem nor_b {α : Type} {x : Option α} {f : α → Option (aQ ⊕ (aO × aH))} (h : ∀ v, nor (f v)) : nor (x.bind f) := by
  cases x with
  | none => exact nor_0
  | some v => exact h v
theorem nor_i {p : Prop} [Decidable p] {a b : Option (aQ ⊕ (aO × aH))} (h1 : nor a) (h2 : nor b) : nor (if p then a else b) := by
  split
  · exact h1
  · exact h2
theorem nor_r {c : Jvm.ClassFile.Cond} {x y : Int32} {a b : Option (aQ ⊕ (aO × aH))} (h1 : nor a) (h2 : nor b) : nor (aBr c x y a b) := by
  unfold aBr
  split <;> split <;> assumption
theorem nor_S (M pc len : Nat) (i : Instr) (ls : aLs) (st : List Value) (H : aH) : nor (aS M pc len i ls st H) := by
  unfold aS
  split <;> repeat' (first | exact nor_0 | exact nor_g | (refine nor_b fun _ => ?_) | (refine nor_i ?_ ?_) | (refine nor_r ?_ ?_) | split)
section
variable {p : Program} {l : Launch} {e : Env} {R : Room} {s : State} {m : MethodId} {args : Array Value} {below : List Frame} {meth : Method} {c : Code} {S0 : State} {D : va_G} {g0 : Nat × Nat} {M n0 w0 : Nat}
/-- an invocation of M in the law's run: its frame's facts, and what is given for the whole run -/
def aBd (p : Program) (l : Launch) (s : State) (m : MethodId) (meth : Method) (c : Code) (S0 : State) (D : va_G) (g0 : Nat × Nat) (M n0 : Nat) : Prop :=
  aCx p s m meth c S0 D g0 M ∧ aG l S0 D g0 ∧ meth.locks = false ∧ meth.sig.returnType = mRet M ∧ c.exceptionTable.toList = tableOf (mHH M) ∧ s.heap.size = n0 ∧ S0.heap.size ≤ s.heap.size ∧ ∀ q : Nat, q < S0.heap.size → s.heap[q]? = S0.heap[q]?
abbrev Qe (below : List Frame) (args : Array Value) (s : State) (S0 : State) (D : va_G) (g0 : Nat × Nat) (n0 w0 : Nat) (x : aO × aH) : State → Prop :=
  vx_MQ below (gQc S0 D g0 x) (gXc S0 D g0 x) args s (x.2.2.1 - n0) (x.2.2.2.1 - w0) (fun q => S0.heap.size ≤ q)
theorem en_ret (B : aBd p l s m meth c S0 D g0 M n0) {pc : Nat} {ls : aLs} {st : List Value} {H : aH} {v : Option Value} {x : aO × aH} {i : Instr} {len : Nat} {u : Value} (hm : mDec M pc = some (i, len)) (hi : (i = .ireturn ∧ kI u = true) ∨ (i = .lreturn ∧ kL u = true) ∨ (i = .dreturn ∧ kD u = true) ∨ (i = .areturn ∧ kA u = true)) (hst : st = [u]) (hk : retK (mRet M) u = true) (hx1 : x.1 = .inl (some u)) (hx2 : x.2.2 = H.2)
    (hfin : ∀ Hr, gR D S0 g0 H Hr → gR D S0 g0 x.2 Hr) : Wq p l e R s m args below meth c (Qe below args s S0 D g0 n0 w0 x) S0 D g0 (mML M) n0 w0 (pc, ls, st, H) := by
  obtain ⟨C, G, hlocks, hret, hT, -⟩ := B
  have hd := C.2.1 pc _ hm
  have hx := C.1
  subst hst
  intro Hr lsr locs hR hL hl
  obtain ⟨xo, xh, xr⟩ := x
  have hx2 : xr = H.2 := hx2
  subst hx2
  have hx1 : xo = .inl (some u) := hx1
  subst hx1
  have hq : ∀ t : State, t.heap = Hr → s.WarmedH t.vm → gQc S0 D g0 (.inl (some u), xh, H.2) args s (.returned (some u)) t := fun t ht _ => ⟨some u, rfl, rfl, by rw [ht]; exact hfin Hr hR⟩
  have h1 : ilen i = 1 := by rcases hi with ⟨rfl, -⟩ | ⟨rfl, -⟩ | ⟨rfl, -⟩ | ⟨rfl, -⟩ <;> rfl
  obtain rfl : 1 = len := by
    rcases mDec_len hm with z | z
    · rw [h1] at z; cases z
    · rw [h1] at z; exact z
  refine vx_ret ?_
  rcases hi with ⟨rfl, hu⟩ | ⟨rfl, hu⟩ | ⟨rfl, hu⟩ | ⟨rfl, hu⟩
  · cases u with
    | int z =>
      cases hr : mRet M with
      | none => rw [hr] at hk; cases hk
      | some ty =>
        rw [hr] at hk hret
        cases ty with
        | int => exact W.iret hx rfl hret hq hl hd hlocks
        | boolean =>
          have hk : (z == 0 || z == 1) = true := hk
          simp only [Bool.or_eq_true, beq_iff_eq] at hk
          exact W.zret hx rfl hret (by rcases hk with rfl | rfl <;> decide) hq hl hd hlocks
        | _ => cases hk
    | _ => cases hu
  · cases u with
    | long z =>
      cases hr : mRet M with
      | none => rw [hr] at hk; cases hk
      | some ty =>
        rw [hr] at hk hret
        cases ty with
        | long => exact W.lret hx rfl hret hq hl hd hlocks
        | _ => cases hk
    | _ => cases hu
  · cases u with
    | double z =>
      cases hr : mRet M with
      | none => rw [hr] at hk; cases hk
      | some ty =>
        rw [hr] at hk hret
        cases ty with
        | double => exact W.dret hx rfl hret hq hl hd hlocks
        | _ => cases hk
    | _ => cases hu
  · have hv : u = .null ∨ ∃ a, u = .ref a := by
      cases u with
      | null => exact Or.inl rfl
      | ref a => exact Or.inr ⟨a, rfl⟩
      | _ => cases hu
    cases hr : mRet M with
    | none => rw [hr] at hk; cases u <;> cases hk
    | some ty =>
      rw [hr] at hk hret
      have hrt : (∃ n, ty = .object n) ∨ ∃ t, ty = .array t := by
        rcases hv with rfl | ⟨a, rfl⟩
        · cases ty with
          | object n => exact Or.inl ⟨n, rfl⟩
          | array t => exact Or.inr ⟨t, rfl⟩
          | _ => cases hk
        · cases ty with
          | object n => exact Or.inl ⟨n, rfl⟩
          | array t => exact Or.inr ⟨t, rfl⟩
          | _ => cases hk
      exact W.aret hx rfl hret hrt hv hq hl hd hlocks
theorem en_void (B : aBd p l s m meth c S0 D g0 M n0) {pc : Nat} {ls : aLs} {H : aH} {x : aO × aH} (hm : mDec M pc = some (.return_, 1)) (hk : mRet M = none) (hx1 : x.1 = .inl none) (hx2 : x.2.2 = H.2)
    (hfin : ∀ Hr, gR D S0 g0 H Hr → gR D S0 g0 x.2 Hr) : Wq p l e R s m args below meth c (Qe below args s S0 D g0 n0 w0 x) S0 D g0 (mML M) n0 w0 (pc, ls, [], H) := by
  obtain ⟨C, G, hlocks, hret, hT, -⟩ := B
  have hd := C.2.1 pc _ hm
  have hx := C.1
  intro Hr lsr locs hR hL hl
  obtain ⟨xo, xh, xr⟩ := x
  have hx2 : xr = H.2 := hx2
  subst hx2
  have hx1 : xo = .inl none := hx1
  subst hx1
  have hq : ∀ t : State, t.heap = Hr → s.WarmedH t.vm → gQc S0 D g0 (.inl none, xh, H.2) args s (.returned none) t := fun t ht _ => ⟨none, rfl, rfl, by rw [ht]; exact hfin Hr hR⟩
  rw [hk] at hret
  exact vx_ret (W.vret hx rfl hret hq hl hd hlocks)
theorem en_call (B : aBd p l s m meth c S0 D g0 M n0) {d kd k pc : Nat} (hOk : gOk l S0 D g0 d) {ls : aLs} {st : List Value} {H : aH} {x0 x : aO × aH} (hm : mDec M pc = some (insK kd k, 3)) (h : aCall (aE d) M pc kd k ls st H = some (.inr x0))
    (hRf : R.frames = mFR M) (hRl : R.locals = mLO M) (hc : x0.2.2.1 - n0 ≤ R.cells) (hs : x0.2.2.2.1 - w0 ≤ R.slots) (hn : n0 ≤ H.2.1) (hw0 : w0 ≤ H.2.2.1) (hx1 : x.1 = x0.1) (hx2 : x.2.2 = x0.2.2) (hfin : ∀ Hr, gR D S0 g0 x0.2 Hr → gR D S0 g0 x.2 Hr) :
    Wq p l e R s m args below meth c (Qe below args s S0 D g0 n0 w0 x) S0 D g0 (mML M) n0 w0 (pc, ls, st, H) := by
  obtain ⟨C, G, hlocks, hret, hT, -⟩ := B
  have hd := C.2.1 pc _ hm
  have hx := C.1
  obtain ⟨O, hO, hown⟩ := C.2.2.2.1
  obtain ⟨q9, hq, hcase⟩ := aCall_ok h
  rcases hcase with ⟨hge, hkd, as, rest, y, ha, hcat, hE, hb⟩ | ⟨hge, hkd, as, rest, y, ha, hcat, hrecv, hE, hb⟩
  · obtain ⟨o, H'⟩ := y
    obtain ⟨⟨v, hv⟩, -⟩ := aPrim_inl hE
    have hv : o = .inl v := hv
    subst hv
    cases hb
  · cases hr : aRec q9.1 with
    | none =>
      have h9 := List.all_eq_true.mp okH2 _ (fnd3_mem hq)
      simp only [hr, Option.isSome_none, Bool.false_or, decide_eq_true_eq] at h9
      exact absurd h9 hge
    | some r =>
      obtain ⟨hne, -, -⟩ := kT_ok hq hO
      obtain ⟨m1, m2, -⟩ := hOk q9.1 as H y r hr hne hE
      obtain ⟨o, H'⟩ := y
      have m1 : H.2.1 ≤ H'.2.1 := m1
      have m2 : H.2.2.1 ≤ H'.2.2.1 := m2
      cases o with
      | inl v => cases hb
      | inr E =>
        replace hb : (match hnd (mOc M) pc E (mHH M) with
          | none => none
          | some (some hp) => match mDec M hp with
            | some (.astore k, len) => if k < ls.length then go (hp + len) ((klA ls k).set k none) [] H' else none
            | some (.astore_n k, len) => if (k : Nat) < ls.length then go (hp + len) ((klA ls k).set k none) [] H' else none
            | _ => none
          | some none => if mHH M = [] then some (.inr (.inr E, H')) else none) = some (Sum.inr x0) := hb
        cases hh : hnd (mOc M) pc E (mHH M) with
        | none => rw [hh] at hb; cases hb
        | some o9 =>
          rw [hh] at hb
          cases o9 with
          | some hp =>
            exfalso
            replace hb : (match mDec M hp with
              | some (.astore k, len) => if k < ls.length then go (hp + len) ((klA ls k).set k none) [] H' else none
              | some (.astore_n k, len) => if (k : Nat) < ls.length then go (hp + len) ((klA ls k).set k none) [] H' else none
              | _ => none) = some (Sum.inr x0) := hb
            split at hb
            · split at hb <;> cases hb
            · split at hb <;> cases hb
            · cases hb
          | none =>
            replace hb : (if mHH M = [] then (some (Sum.inr ((Sum.inr E : aO), H')) : Option (aQ ⊕ (aO × aH))) else none) = some (Sum.inr x0) := hb
            split at hb
            next hH =>
              cases hb
              have hc : H'.2.1 - n0 ≤ R.cells := hc
              have hs : H'.2.2.1 - w0 ≤ R.slots := hs
              obtain ⟨xo, xh, xr⟩ := x
              have hx1 : xo = .inr E := hx1
              have hx2 : xr = H'.2 := hx2
              subst hx1
              subst hx2
              intro Hr lsr locs hR hL hl
              have hrun := call_run C hOk hq hge hkd.1 hkd.2 ha hcat hrecv hE hd hR (LR_size hL) hRf hRl (cells := H.2.1 - n0) (slots := H.2.2.1 - w0) (locs := locs) (args := args) (below := below) (p := p) (e := e) (m := m) (by show H.2.1 - n0 + (H'.2.1 - H.2.1) ≤ _; omega) (by show H.2.2.1 - w0 + (H'.2.2.1 - H.2.2.1) ≤ _; omega)
              intro T hTh X
              rcases hrun T hTh X with ⟨v', st₀, t, T', L, h0, X', hL9, e1, e2, ⟨v9, g1, g2, g3⟩, stp⟩ | ⟨q', st₀, t, T', L, E', ce, h0, X', hL9, e1, e2, ⟨g1, g3⟩, hce, hcv, hcl, stp⟩
              · cases g1
              · cases g1
                have c1 : H.2.1 - n0 + (H'.2.1 - H.2.1) = H'.2.1 - n0 := by omega
                have c2 : H.2.2.1 - w0 + (H'.2.2.1 - H.2.2.1) = H'.2.2.1 - w0 := by omega
                replace X' : Stand p l e R s m args below meth c T' (locs ++ L) (H.2.1 - n0 + (H'.2.1 - H.2.1)) (H.2.2.1 - w0 + (H'.2.2.1 - H.2.2.1)) := X'
                rw [c1, c2] at X'
                have hout : vx_W p l e R s m args below meth c t.heap (locs ++ L) (H'.2.1 - n0) (H'.2.2.1 - w0) (Qe below args s S0 D g0 n0 w0 (.inr E, xh, H'.2)) (F0 m pc lsr rest) q' := by
                  refine vx_out (fun z hz => ?_) hlocks hce hcv hcl (fun t9 ht9 _ => ⟨rfl, by rw [ht9]; exact hfin _ g3⟩) (fun z hz => (List.mem_append.mp hz).elim (hl z) (hL9 z)) (Nat.le_refl _) (Nat.le_refl _)
                  rw [hT, hH] at hz
                  cases hz
                obtain ⟨t9, a1, b1⟩ := hout T' e1 X'
                exact ⟨t9, stp.trans a1, b1⟩
            next => cases hb
theorem en_thr (B : aBd p l s m meth c S0 D g0 M n0) {k pc : Nat} {ls : aLs} {H : aH} {u : String × Nat × Nat × Nat × Bool × String} {x : aO × aH} (hm : mDec M pc = some (.new k, 3)) (hu : fnd3 aXT M pc = some u) (h8 : rqT M = true)
    (hRf : R.frames = mFR M) (hRl : R.locals = mLO M) (hc : H.2.1 + 1 - n0 ≤ R.cells) (hs : H.2.2.1 + 6 - w0 ≤ R.slots) (hn : n0 ≤ H.2.1) (hw0 : w0 ≤ H.2.2.1) (hx1 : x.1 = .inr u.1) (hx2 : x.2.2 = (H.2.1 + 1, H.2.2.1 + 6, H.2.2.2)) (hfin : ∀ Hr, gR D S0 g0 (H.1, H.2.1 + 1, H.2.2.1 + 6, H.2.2.2) Hr → gR D S0 g0 x.2 Hr) :
    Wq p l e R s m args below meth c (Qe below args s S0 D g0 n0 w0 x) S0 D g0 (mML M) n0 w0 (pc, ls, [], H) := by
  obtain ⟨C, G, hlocks, hret, hT, hs0, hlo, hlow⟩ := B
  have hx := C.1
  have hal := C.2.2.2.2.2.2.2.2.2.2.2.2
  obtain ⟨O, hO, hown⟩ := C.2.2.2.1
  have hmem := fnd3_mem hu
  have hk := List.all_eq_true.mp okX _ hmem
  obtain ⟨hG1, -, -, -, -, -, -, -, hstr, hUU, hNN⟩ := G
  obtain ⟨sa, hsa⟩ := hstr _ hmem
  obtain ⟨E, ik, is, ic, wd, tx⟩ := u
  simp only [chkX, Bool.and_eq_true, decide_eq_true_eq] at hk
  obtain ⟨⟨⟨⟨⟨k1, k2⟩, k3⟩, k4⟩, k5⟩, k6⟩ := hk
  rw [k2] at hO
  cases hO
  have hxe := List.all_eq_true.mp okXE _ k1
  simp only [chkXE, Bool.and_eq_true, List.all_eq_true, decide_eq_true_eq] at hxe
  obtain ⟨hfit, hws⟩ := hxe
  have hat : ∀ w ∈ Jvm.Cond.classLink "OvertureDesk" ik E :: .initialized E :: vx_atS "OvertureDesk" ic E tn1, w.before args s = true := fun w hw => cx_exw C (hws w hw).1.1 (hws w hw).1.2
  have hgood : ∀ w ∈ Jvm.Cond.classLink "OvertureDesk" ik E :: .initialized E :: vx_atS "OvertureDesk" ic E tn1, vx_ot w = true := fun w hw => (hws w hw).2
  have hfn : ∀ n ∈ tn1, Bundle.fit n = true := List.all_eq_true.mp okTn
  simp only [rqT, Bool.and_eq_true, Nat.ble_eq] at h8
  obtain ⟨h8a, h8b⟩ := h8
  intro Hr lsr locs hR hL hl
  have hsz : Hr.size = H.2.1 := hR.1
  have hS : va_S (fun a => S0.heap.size ≤ a) s.heap Hr locs := ⟨by omega, fun q hq hnq => by
    have hq9 : q < S0.heap.size := Nat.not_le.mp hnq
    rw [hlow q hq9]; exact hR.2.2.2.2.1 q hq9, hl⟩
  have hlow' : ∀ a : Nat, a < S0.heap.size → ¬ S0.heap.size ≤ a → s.heap[a]? = S0.heap[a]? := fun a ha _ => hlow a ha
  have hU : vx_Zq Bundle.tN "UNASSIGNED_STACK" Bundle.steD (fun a => S0.heap.size ≤ a) s s.heap := vx_Zq.moved hal (vx_Zq.kept hUU hlow')
  have hN : vx_Zq Bundle.tN "SUPPRESSED_SENTINEL" Bundle.listD (fun a => S0.heap.size ≤ a) s s.heap := vx_Zq.moved hal (vx_Zq.kept hNN hlow')
  obtain ⟨xo, xh, xr⟩ := x
  have hx1 : xo = .inr E := hx1
  have hx2 : xr = (H.2.1 + 1, H.2.2.1 + 6, H.2.2.2) := hx2
  subst hx1
  subst hx2
  have hout : ∀ (y : ExceptionTableEntry) (j : Nat), y ∈ c.exceptionTable.toList → covers y j = false := fun y j hy => by
    rw [hT, k6] at hy
    cases hy
  have hX : ∀ t : State, s.vm.Alike t.vm → Hr.size ≤ t.heap.size → (∀ q : Nat, q < Hr.size → t.heap[q]? = Hr[q]?) → t.heap.size = Hr.size + 1 → gXc S0 D g0 (.inr E, xh, H.2.1 + 1, H.2.2.1 + 6, H.2.2.2) E s t := fun t _ g1 g2 g3 =>
    ⟨rfl, hfin _ (gR_same (h := H.1) (n := H.2.1) (w := H.2.2.1) (g := H.2.2.2) hR (by rw [g3, hsz]) (Nat.le_succ _) (fun q hq => g2 q (by omega)))⟩
  have hsar : vk_R "OvertureDesk" is tx sa s := vk_R.warm C.2.2.2.2.1 hsa
  cases wd with
  | false =>
    simp only [Bool.false_eq_true, if_false, Bool.and_eq_true, decide_eq_true_eq] at k5
    exact vx_throwS hx rfl hG1 hown hfit hfn (hat _ List.mem_cons_self) (hat _ (List.mem_cons_of_mem _ List.mem_cons_self)) hsar (fun w hw => hat w (List.mem_cons_of_mem _ (List.mem_cons_of_mem _ hw))) hgood hU hN hS (by rw [C.2.2.1]; exact LR_size hL)
      (C.2.1 _ _ k3) (C.2.1 _ _ k4) (C.2.1 _ _ k5.1.1) (C.2.1 _ _ k5.1.2) (C.2.1 _ _ k5.2) (fun y hy => hout y _ hy) (by show 2 + 3 < _; omega) (by show 0 + (13 * (2 + 1) + 43) ≤ _; omega) (by show H.2.1 - n0 + 1 ≤ _; omega) (by show H.2.2.1 - w0 + 6 ≤ _; omega) hlocks hX hl (by show H.2.1 - n0 + 1 ≤ H.2.1 + 1 - n0; omega) (by show H.2.2.1 - w0 + 6 ≤ H.2.2.1 + 6 - w0; omega)
  | true =>
    simp only [if_true, Bool.and_eq_true, decide_eq_true_eq] at k5
    exact vx_throwSW hx rfl hG1 hown hfit hfn (hat _ List.mem_cons_self) (hat _ (List.mem_cons_of_mem _ List.mem_cons_self)) hsar (fun w hw => hat w (List.mem_cons_of_mem _ (List.mem_cons_of_mem _ hw))) hgood hU hN hS (by rw [C.2.2.1]; exact LR_size hL)
      (C.2.1 _ _ k3) (C.2.1 _ _ k4) (C.2.1 _ _ k5.1.1) (C.2.1 _ _ k5.1.2) (C.2.1 _ _ k5.2) (fun y hy => hout y _ hy) (by show 2 + 3 < _; omega) (by show 0 + (13 * (2 + 1) + 43) ≤ _; omega) (by show H.2.1 - n0 + 1 ≤ _; omega) (by show H.2.2.1 - w0 + 6 ≤ _; omega) hlocks hX hl (by show H.2.1 - n0 + 1 ≤ H.2.1 + 1 - n0; omega) (by show H.2.2.1 - w0 + 6 ≤ H.2.2.1 + 6 - w0; omega)
end
end
section
/-! ===== a run is sound; the contracts of all methods ===== -/
theorem act_mono {l : Launch} {S0 : State} {D : va_G} {g0 : Nat × Nat} {d M pc : Nat} (hOk : gOk l S0 D g0 d) {O : String} (hO : aON[mOc M]? = some O) {ls : aLs} {st : List Value} {H : aH} {il : Instr × Nat} {y : aQ ⊕ (aO × aH)} (h : aAct2 (aE d) d M pc ls st H il = some y) :
    (∀ q, y = .inl q → H.2.1 ≤ q.2.2.2.2.1 ∧ H.2.2.1 ≤ q.2.2.2.2.2.1) ∧ (∀ x, y = .inr x → H.2.1 ≤ x.2.2.1 ∧ H.2.2.1 ≤ x.2.2.2.1) := by
  have hcall : ∀ kd k, aCall (aE d) M pc kd k ls st H = some y → (∀ q, y = .inl q → H.2.1 ≤ q.2.2.2.2.1 ∧ H.2.2.1 ≤ q.2.2.2.2.2.1) ∧ (∀ x, y = .inr x → H.2.1 ≤ x.2.2.1 ∧ H.2.2.1 ≤ x.2.2.2.1) := by
    intro kd k h
    obtain ⟨q9, hq, hcase⟩ := aCall_ok h
    have hback : ∃ rest x, H.2.1 ≤ x.2.2.1 ∧ H.2.2.1 ≤ x.2.2.2.1 ∧ aBack M pc ls rest (some x) = some y := by
      rcases hcase with ⟨hge, hkd, as, rest, x, ha, hcat, hE, hb⟩ | ⟨hge, hkd, as, rest, x, ha, hcat, hrecv, hE, hb⟩
      · obtain ⟨-, e⟩ := aPrim_inl hE
        exact ⟨rest, x, by rw [e]; exact Nat.le_refl _, by rw [e]; exact Nat.le_refl _, hb⟩
      · cases hr : aRec q9.1 with
        | none =>
          have h9 := List.all_eq_true.mp okH2 _ (fnd3_mem hq)
          simp only [hr, Option.isSome_none, Bool.false_or, decide_eq_true_eq] at h9
          exact absurd h9 hge
        | some r =>
          obtain ⟨hne, -, -⟩ := kT_ok hq hO
          obtain ⟨m1, m2, -⟩ := hOk q9.1 as H x r hr hne hE
          exact ⟨rest, x, m1, m2, hb⟩
    obtain ⟨rest, ⟨o, H'⟩, m1, m2, hb⟩ := hback
    have m1 : H.2.1 ≤ H'.2.1 := m1
    have m2 : H.2.2.1 ≤ H'.2.2.1 := m2
    cases o with
    | inl v =>
      replace hb : go (pc + 3) ls (v.toList ++ rest) H' = some y := hb
      unfold go at hb
      cases hb
      exact ⟨fun q e => by cases e; exact ⟨m1, m2⟩, fun x e => by cases e⟩
    | inr E =>
      replace hb : (match hnd (mOc M) pc E (mHH M) with
        | none => none
        | some (some hp) => match mDec M hp with
          | some (.astore k, len) => if k < ls.length then go (hp + len) ((klA ls k).set k none) [] H' else none
          | some (.astore_n k, len) => if (k : Nat) < ls.length then go (hp + len) ((klA ls k).set k none) [] H' else none
          | _ => none
        | some none => if mHH M = [] then some (.inr (.inr E, H')) else none) = some y := hb
      unfold go at hb
      split at hb
      · cases hb
      · split at hb
        · split at hb
          · cases hb
            exact ⟨fun q e => by cases e; exact ⟨m1, m2⟩, fun x e => by cases e⟩
          · cases hb
        · split at hb
          · cases hb
            exact ⟨fun q e => by cases e; exact ⟨m1, m2⟩, fun x e => by cases e⟩
          · cases hb
        · cases hb
      · split at hb
        · cases hb
          exact ⟨fun q e => (by cases e), fun x e => by cases e; exact ⟨m1, m2⟩⟩
        · cases hb
  have hret : ∀ (b : Bool) (v : Option Value), (if b then some (.inr ((.inl v : aO), H)) else none : Option (aQ ⊕ (aO × aH))) = some y → (∀ q, y = .inl q → H.2.1 ≤ q.2.2.2.2.1 ∧ H.2.2.1 ≤ q.2.2.2.2.2.1) ∧ (∀ x, y = .inr x → H.2.1 ≤ x.2.2.1 ∧ H.2.2.1 ≤ x.2.2.2.1) := by
    intro b v h
    split at h
    · cases h
      exact ⟨fun q e => (by cases e), fun x e => by cases e; exact ⟨Nat.le_refl _, Nat.le_refl _⟩⟩
    · cases h
  unfold aAct2 at h
  split at h
  · exact hcall _ _ h
  · exact hcall _ _ h
  · exact hcall _ _ h
  · split at h
    · exact hret _ _ h
    · cases h
  · split at h
    · exact hret _ _ h
    · cases h
  · split at h
    · exact hret _ _ h
    · cases h
  · split at h
    · exact hret _ _ h
    · cases h
  · split at h
    · exact hret _ _ h
    · cases h
  · split at h
    · split at h
      · split at h
        · cases h
          exact ⟨fun q e => (by cases e), fun x e => by cases e; exact ⟨Nat.le_succ _, Nat.le_add_right _ _⟩⟩
        · cases h
      · cases h
    · rename_i k len _ hx
      cases h1 : fnd3 aNT (mOc M) k with
      | none => rw [h1] at h; cases h
      | some q =>
        rw [h1] at h
        cases h2 : aFK[q.1]? with
        | none => rw [Option.bind_some, h2] at h; cases h
        | some ks =>
          rw [Option.bind_some, h2] at h
          replace h : go (pc + len) ls (.ref H.2.1 :: st) (mk H (aB q.1 (ks.map dflK)) ks.length) = some y := h
          unfold go at h
          cases h
          exact ⟨fun q e => by cases e; exact ⟨Nat.le_succ _, Nat.le_add_right _ _⟩, fun x e => by cases e⟩
  · refine ⟨fun q e => ?_, fun x e => ?_⟩
    · subst e
      exact mon_S M pc _ _ ls st H q h
    · subst e
      exact absurd h (nor_S M pc _ _ ls st H x)
theorem run_mono {l : Launch} {S0 : State} {D : va_G} {g0 : Nat × Nat} {d M : Nat} (hOk : gOk l S0 D g0 d) {O : String} (hO : aON[mOc M]? = some O) {x : aO × aH} : ∀ (f pc : Nat) (ls : aLs) (st : List Value) (H : aH), aRun (aE d) d M f pc ls st H = some x → H.2.1 ≤ x.2.2.1 ∧ H.2.2.1 ≤ x.2.2.2.1 := by
  intro f
  induction f with
  | zero => intro pc ls st H h; cases h
  | succ f ih =>
    intro pc ls st H h
    rw [aRun] at h
    unfold aAct at h
    cases hm : mDec M pc with
    | none => rw [hm] at h; cases h
    | some il =>
      rw [hm] at h
      replace h : (match aAct2 (aE d) d M pc ls st H il with
        | none => none
        | some (.inr x) => some x
        | some (.inl q) => aRun (aE d) d M f q.1 q.2.1 q.2.2.1 q.2.2.2) = some x := h
      cases ha : aAct2 (aE d) d M pc ls st H il with
      | none => rw [ha] at h; cases h
      | some y =>
        rw [ha] at h
        obtain ⟨g1, g2⟩ := act_mono hOk hO ha
        cases y with
        | inl q =>
          obtain ⟨a1, a2⟩ := g1 q rfl
          obtain ⟨b1, b2⟩ := ih _ _ _ _ h
          exact ⟨Nat.le_trans a1 b1, Nat.le_trans a2 b2⟩
        | inr x9 =>
          cases h
          exact g2 _ rfl
theorem act_inl {EE : Nat → List Value → aH → aR} {d M pc : Nat} {ls : aLs} {st : List Value} {H : aH} {il : Instr × Nat} {q : aQ} (h : aAct2 EE d M pc ls st H il = some (.inl q)) :
    (∃ kd k len, il = (insK kd k, len) ∧ aCall EE M pc kd k ls st H = some (.inl q)) ∨ (∃ k len, il = (.new k, len) ∧ (fnd3 aNT (mOc M) k).bind (fun q => (aFK[q.1]?).bind fun ks => go (pc + len) ls (.ref H.2.1 :: st) (mk H (aB q.1 (ks.map dflK)) ks.length)) = some (.inl q)) ∨ aS M pc il.2 il.1 ls st H = some (.inl q) := by
  have hret : ∀ (b : Bool) (x : aO × aH), (if b then some (.inr x) else none : Option (aQ ⊕ (aO × aH))) = some (.inl q) → False := by
    intro b x h
    split at h <;> cases h
  unfold aAct2 at h
  split at h
  · exact Or.inl ⟨0, _, _, rfl, h⟩
  · exact Or.inl ⟨1, _, _, rfl, h⟩
  · exact Or.inl ⟨2, _, _, rfl, h⟩
  · split at h
    · exact (hret _ _ h).elim
    · cases h
  · split at h
    · exact (hret _ _ h).elim
    · cases h
  · split at h
    · exact (hret _ _ h).elim
    · cases h
  · split at h
    · exact (hret _ _ h).elim
    · cases h
  · split at h
    · exact (hret _ _ h).elim
    · cases h
  · split at h
    · split at h
      · split at h <;> cases h
      · cases h
    · exact Or.inr (Or.inl ⟨_, _, rfl, h⟩)
  · exact Or.inr (Or.inr h)
theorem act_inr {EE : Nat → List Value → aH → aR} {d M pc : Nat} {ls : aLs} {st : List Value} {H : aH} {il : Instr × Nat} {x : aO × aH} (h : aAct2 EE d M pc ls st H il = some (.inr x)) :
    (∃ kd k len, il = (insK kd k, len) ∧ aCall EE M pc kd k ls st H = some (.inr x)) ∨
    (∃ i len u, il = (i, len) ∧ ((i = .ireturn ∧ kI u = true) ∨ (i = .lreturn ∧ kL u = true) ∨ (i = .dreturn ∧ kD u = true) ∨ (i = .areturn ∧ kA u = true)) ∧ st = [u] ∧ retK (mRet M) u = true ∧ x = (.inl (some u), H)) ∨
    (∃ len, il = (.return_, len) ∧ st = [] ∧ mRet M = none ∧ x = (.inl none, H)) ∨
    (∃ k len u, il = (.new k, len) ∧ fnd3 aXT M pc = some u ∧ st = [] ∧ rqT M = true ∧ x = (.inr u.1, (H.1, H.2.1 + 1, H.2.2.1 + 6, H.2.2.2))) := by
  have hret : ∀ (a b : Bool) (u : Value), (if a && b then some (.inr ((.inl (some u) : aO), H)) else none : Option (aQ ⊕ (aO × aH))) = some (.inr x) → a = true ∧ b = true ∧ x = (.inl (some u), H) := by
    intro a b u h
    split at h
    next hc =>
      cases h
      rw [Bool.and_eq_true] at hc
      exact ⟨hc.1, hc.2, rfl⟩
    next => cases h
  unfold aAct2 at h
  split at h
  · exact Or.inl ⟨0, _, _, rfl, h⟩
  · exact Or.inl ⟨1, _, _, rfl, h⟩
  · exact Or.inl ⟨2, _, _, rfl, h⟩
  · split at h
    · obtain ⟨h1, h2, h3⟩ := hret _ _ _ h
      exact Or.inr (Or.inl ⟨_, _, _, rfl, Or.inl ⟨rfl, h1⟩, rfl, h2, h3⟩)
    · cases h
  · split at h
    · obtain ⟨h1, h2, h3⟩ := hret _ _ _ h
      exact Or.inr (Or.inl ⟨_, _, _, rfl, Or.inr (Or.inl ⟨rfl, h1⟩), rfl, h2, h3⟩)
    · cases h
  · split at h
    · obtain ⟨h1, h2, h3⟩ := hret _ _ _ h
      exact Or.inr (Or.inl ⟨_, _, _, rfl, Or.inr (Or.inr (Or.inl ⟨rfl, h1⟩)), rfl, h2, h3⟩)
    · cases h
  · split at h
    · obtain ⟨h1, h2, h3⟩ := hret _ _ _ h
      exact Or.inr (Or.inl ⟨_, _, _, rfl, Or.inr (Or.inr (Or.inr ⟨rfl, h1⟩)), rfl, h2, h3⟩)
    · cases h
  · split at h
    · split at h
      next hc =>
        cases h
        exact Or.inr (Or.inr (Or.inl ⟨_, rfl, rfl, Option.isNone_iff_eq_none.mp hc, rfl⟩))
      next => cases h
    · cases h
  · split at h
    next u hu =>
      split at h
      · split at h
        next hc =>
          cases h
          exact Or.inr (Or.inr (Or.inr ⟨_, _, u, rfl, hu, rfl, hc.2, rfl⟩))
        next => cases h
      · cases h
    next =>
      exfalso
      cases h1 : fnd3 aNT (mOc M) _ with
      | none => rw [h1] at h; cases h
      | some q =>
        rw [h1, Option.bind_some] at h
        cases h2 : aFK[q.1]? with
        | none => rw [h2] at h; cases h
        | some ks =>
          rw [h2] at h
          cases h
  · exact absurd h (nor_S M pc _ _ ls st H x)
section
variable {p : Program} {l : Launch} {e : Env} {R : Room} {s : State} {m : MethodId} {args : Array Value} {below : List Frame} {meth : Method} {c : Code} {S0 : State} {D : va_G} {g0 : Nat × Nat} {M n0 w0 : Nat}
theorem run_sound (B : aBd p l s m meth c S0 D g0 M n0) {d : Nat} (hOk : gOk l S0 D g0 d) (hRf : R.frames = mFR M) (hRl : R.locals = mLO M) {x0 x : aO × aH} (hc : x0.2.2.1 - n0 ≤ R.cells) (hs : x0.2.2.2.1 - w0 ≤ R.slots) (hx1 : x.1 = x0.1) (hx2 : x.2.2 = x0.2.2) (hfin : ∀ Hr, gR D S0 g0 x0.2 Hr → gR D S0 g0 x.2 Hr) :
    ∀ (f pc : Nat) (ls : aLs) (st : List Value) (H : aH), aRun (aE d) d M f pc ls st H = some x0 → n0 ≤ H.2.1 → w0 ≤ H.2.2.1 → Wq p l e R s m args below meth c (Qe below args s S0 D g0 n0 w0 x) S0 D g0 (mML M) n0 w0 (pc, ls, st, H) := by
  obtain ⟨O, hO, hown⟩ := B.1.2.2.2.1
  intro f
  induction f with
  | zero => intro pc ls st H h; cases h
  | succ f ih =>
    intro pc ls st H h hn hw0
    rw [aRun] at h
    unfold aAct at h
    cases hm : mDec M pc with
    | none => rw [hm] at h; cases h
    | some il =>
      rw [hm] at h
      replace h : (match aAct2 (aE d) d M pc ls st H il with
        | none => none
        | some (.inr x) => some x
        | some (.inl q) => aRun (aE d) d M f q.1 q.2.1 q.2.2.1 q.2.2.2) = some x0 := h
      cases ha : aAct2 (aE d) d M pc ls st H il with
      | none => rw [ha] at h; cases h
      | some y =>
        rw [ha] at h
        obtain ⟨g1, g2⟩ := act_mono hOk hO ha
        cases y with
        | inl q =>
          obtain ⟨a1, a2⟩ := g1 q rfl
          obtain ⟨b1, b2⟩ := run_mono hOk hO _ _ _ _ _ h
          have kk := ih q.1 q.2.1 q.2.2.1 q.2.2.2 h (Nat.le_trans hn a1) (Nat.le_trans hw0 a2)
          have hcq : q.2.2.2.2.1 - n0 ≤ R.cells := by omega
          have hsq : q.2.2.2.2.2.1 - w0 ≤ R.slots := by omega
          rcases act_inl ha with ⟨kd, k, len, rfl, hb⟩ | ⟨k, len, rfl, hb⟩ | hb
          · have hk3 : ilen (insK kd k) = 3 := by
              unfold insK
              split <;> rfl
            obtain rfl : 3 = len := by
              rcases mDec_len hm with z | z
              · rw [hk3] at z; cases z
              · rw [hk3] at z; exact z
            exact st_call B.1 hOk B.2.2.2.2.1 B.2.1.2.2.2.2.2.2.2.1 hm hb hRf hRl hcq hsq hn hw0 kk
          · obtain rfl : 3 = len := (mDec_len hm).resolve_left (Nat.succ_ne_zero _)
            exact st_new B.1 hm hb hcq hsq hn hw0 kk
          · obtain ⟨i, len⟩ := il
            exact stepS B.1 hm hb hcq hsq hn hw0 kk
        | inr x9 =>
          replace h : some x9 = some x0 := h
          cases h
          rcases act_inr ha with ⟨kd, k, len, rfl, hb⟩ | ⟨i, len, u, rfl, hi, hst, hk, hx0⟩ | ⟨len, rfl, hst, hk, hx0⟩ | ⟨k, len, u, rfl, hu, hst, h8, hx0⟩
          · have hk3 : ilen (insK kd k) = 3 := by
              unfold insK
              split <;> rfl
            obtain rfl : 3 = len := by
              rcases mDec_len hm with z | z
              · rw [hk3] at z; cases z
              · rw [hk3] at z; exact z
            exact en_call B hOk hm hb hRf hRl hc hs hn hw0 hx1 hx2 hfin
          · subst hx0
            exact en_ret B (v := none) hm hi hst hk hx1 hx2 hfin
          · obtain rfl : 1 = len := (mDec_len hm).resolve_left (Nat.succ_ne_zero _)
            subst hx0
            subst hst
            exact en_void B hm hk hx1 hx2 hfin
          · obtain rfl : 3 = len := (mDec_len hm).resolve_left (Nat.succ_ne_zero _)
            subst hx0
            subst hst
            exact en_thr B hm hu h8 hRf hRl hc hs hn hw0 hx1 hx2 hfin
end
/-- a method's contract, by its word -/
theorem met_of {l : Launch} {r : aMR} {rm : Room} {Pc : Array Value → State → Prop} {Qc : Array Value → State → Outcome → State → Prop} {XC : String → State → State → Prop} {mc ms : Nat} {free : Addr → Prop} (hy : plainFor (rY r) = true)
    (body : ∀ p e s m args below meth c s₁, BodyLoose p l (rY r) (headSpec [cwM r] rm) (rB r) (rML r) (rRet r) e s m args below meth c s₁ → c.maxLocals = rML r → c.exceptionTable.toList = tableOf (rHH r) → Pc args s →
      W p l e (headSpec [cwM r] rm).room s m args below meth c s.heap [] 0 0 (vx_MQ below Qc XC args s mc ms free) (entryFrame m args (rML r))) : vx_Met l (rY r) [cwM r] rm Pc Qc XC mc ms free := by
  refine MetFree.of_bodySF (code := rB r) (maxLocals := rML r) (ret := rRet r) hy ?_ ?_
  · intro args s m h hn
    have h9 := atoms_spec (ws := [cwM r]) h _ List.mem_cons_self
    unfold cwM at h9
    split at h9
    · obtain ⟨meth, c, h1, h2, h3, h4, h5, h6, -, -⟩ := Cond.code_spec hn h9
      exact ⟨meth, c, h1, h2, h3, h4, h5, h6⟩
    · obtain ⟨m9, meth, c, hn9, h1, h2, h3, h4, -, h5, h6, -⟩ := Cond.codeWith_spec h9
      cases hn.symm.trans hn9
      exact ⟨meth, c, h1, h2, h3, h4, h5, h6⟩
  · intro p e s m args below meth c s₁ B hml hP _
    have hh0 : s₁.heap = s.heap := by rw [B.state]; rfl
    have ht : c.exceptionTable.toList = tableOf (rHH r) := by
      have h9 := atoms_spec (ws := [cwM r]) B.pre _ List.mem_cons_self
      unfold cwM at h9
      split at h9
      next hh =>
        obtain ⟨meth9, c9, h1, h2, -, -, -, -, h7, -⟩ := Cond.code_spec B.named h9
        cases Option.some.inj (h1.symm.trans B.method)
        cases Option.some.inj (h2.symm.trans (Stand.of_body B).code)
        rw [hh, Array.isEmpty_iff.mp h7]
        rfl
      next hh => exact vx_table (x := rY r) B h9
    obtain ⟨t, a1, o, b1, b2, b3⟩ := body p e s m args below meth c s₁ B hml ht hP s₁ hh0 (Stand.of_body B)
    exact ⟨t, o, a1, b1, b2, b3⟩
/-- what the abstract machine answers, the machine answers -/
theorem gOk_all {l : Launch} {S0 : State} {D : va_G} {g0 : Nat × Nat} (G : aG l S0 D g0) : ∀ d, gOk l S0 D g0 d := by
  intro d
  induction d with
  | zero => intro M as H x r hr hne hE; cases hE
  | succ d ih =>
    intro M as H x r hr hne hE
    obtain ⟨hcw, hcg⟩ := rec_code hr hne
    have hck := rec_chk hr hne
    simp only [chkM, Bool.and_eq_true, decide_eq_true_eq] at hck
    obtain ⟨⟨⟨⟨⟨⟨⟨⟨⟨⟨⟨k1, k2⟩, k3⟩, k4⟩, k5⟩, k6⟩, k7⟩, k8⟩, k9⟩, k10⟩, k11⟩, k12⟩ := hck
    have e1 : mOc M = rOc r := by unfold mOc; rw [hr]
    have e2 : mML M = rML r := by unfold mML; rw [hr]
    have e3 : mRet M = rRet r := by unfold mRet; rw [hr]
    have e4 : mHH M = rHH r := by unfold mHH; rw [hr]
    have e5 : mNm M = (rY r).name := by unfold mNm; rw [hr]
    have hO : aON[mOc M]? = some (rY r).cls := by rw [e1]; exact k5
    rw [aE_succ] at hE
    split at hE
    next hle =>
      -- the run that ends
      have hx : ∃ x0 f, aRun (aE d) d M f 0 (entL as (mML M)) [] H = some x0 ∧ x.1 = x0.1 ∧ x.2.2 = x0.2.2 ∧ ∀ s : State, gR D S0 g0 H s.heap → ∀ Hr, gR D S0 g0 x0.2 Hr → gR D S0 g0 x.2 Hr := by
        cases hL : L d M 0 (entL as (mML M)) [] H with
        | none =>
          rw [hL] at hE
          unfold aFin at hE
          split at hE <;> cases hE
        | some x0 =>
          obtain ⟨f, hf⟩ := L_some.mp hL
          rw [hL] at hE
          refine ⟨x0, f, hf, ?_⟩
          unfold aFin at hE
          split at hE
          · obtain ⟨o, H'⟩ := x0
            replace hE : some (o, (fun q => if q < H.2.1 then H'.1 q else H.1 q, H'.2)) = some x := hE
            cases hE
            refine ⟨rfl, rfl, fun s hR Hr hR' => ?_⟩
            obtain ⟨r1, r2, r3, r4, r5, r6⟩ := hR'
            have hnone : ∀ (a : Nat) (c : aC), (if a < H.2.1 then H'.1 a else H.1 a) = some c → H'.1 a = some c := by
              intro a c hac
              by_cases hlt : a < H.2.1
              · rw [if_pos hlt] at hac; exact hac
              · rw [if_neg hlt] at hac
                have := gC_lt (hR.2.1 a c hac)
                have h1 := hR.1
                omega
            exact ⟨r1, fun a c hac => r2 a c (hnone a c hac), fun a c hac => r3 a c (hnone a c hac), r4, r5, r6⟩
          · cases hE
            exact ⟨rfl, rfl, fun _ _ _ h => h⟩
      obtain ⟨x0, f, hf, hx1, hx2, hfin⟩ := hx
      obtain ⟨m1, m2⟩ := run_mono ih hO f _ _ _ _ hf
      rw [← hx2] at m1 m2
      refine ⟨m1, m2, met_of k6 ?_⟩
      intro p e s m args below meth c s₁ B hml hT hP
      obtain ⟨rfl, hR, hW⟩ := hP
      have hbytes : c.code = rB r := B.bytes
      have hlow : ∀ q : Nat, q < S0.heap.size → s.heap[q]? = S0.heap[q]? := hR.2.2.2.2.1
      have hsz : s.heap.size = H.2.1 := hR.1
      have C : aCx p s m meth c S0 D g0 M := by
        refine ⟨B.exec, fun pc il hd => ?_, by rw [hml, e2], ⟨_, hO, findClass_of_methodNamed B.named⟩, hW, G.2.1, G.2.2.1, ?_, G.2.2.2.1, G.2.2.2.2.1, G.2.2.2.2.2.1, G.2.2.2.2.2.2.1, hW.alike⟩
        · rw [hbytes]
          unfold mDec at hd
          rw [hr] at hd
          replace hd : (match decode (rB r) pc with
            | .ok q => if ilen q.1 = 0 ∨ ilen q.1 = q.2 then some q else none
            | .error _ => none) = some il := hd
          split at hd
          next q hq =>
            split at hd
            · cases hd; exact hq
            · cases hd
          next => cases hd
        · rw [e5]; exact (name_of_methodNamed B.named B.method).1
      have hB : aBd p l s m meth c S0 D g0 M s.heap.size := ⟨C, G, B.notSynchronized, by rw [B.returns, e3], by rw [hT, e4], rfl, hR.2.2.2.1, hlow⟩
      rw [lg_entry_eq]
      have hrs := run_sound (p := p) (l := l) (e := e) (R := (headSpec [cwM r] (rmD M H x)).room) (s := s) (m := m) (args := as.toArray) (below := below) (meth := meth) (c := c) (w0 := H.2.2.1) hB ih rfl rfl (x0 := x0) (x := x)
        (by rw [← hx2, hsz]; exact Nat.le_refl _) (by rw [← hx2]; exact Nat.le_refl _) hx1 hx2 (hfin s hR) f 0 (entL as (mML M)) [] H hf (by rw [hsz]; exact Nat.le_refl _) (Nat.le_refl _)
      have hL := LR_ent (vs := as) (n := mML M) hle
      have hw := hrs s.heap _ [] hR hL (fun z hz => nomatch hz)
      rw [e2, hsz, Nat.sub_self, Nat.sub_self] at hw
      exact hw
    next => cases hE
end
section
/-! ===== the law's start: what the Statement gives, for the abstract machine ===== -/
def R_law : String := "OvertureDeskLaw"
def lw_P (b : Addr) (xs : List Int32) (args : Array Value) (s : State) : Prop := args = #[.ref b] ∧ s.IntsAt b xs ∧ xs.length ≤ 260 ∧ (Jvm.Cond.and given_1 narrow_1).before args s = true
/-- what a walk over the start with the record d0 says of its end, said of the start itself -/
theorem lw_closed {s t : State} {o : Outcome} {d0 : Drawn} {L : List Loc} {k n : Nat} (hd0 : s.drawn.sameBut d0 lw_cs) (hv : ∃ v, o = .returned v) (hW : (s.setDrawn d0).WarmedH t.vm) (hs : (s.setDrawn d0).sameButNew ({ t with vm := s.vm } : State) L k n) : State.butDraws s t lw_cs (fun t1 => Framed s o t1 L k n) := by
  have h2 : t.drawn = d0 := congrArg State.drawn hs.1
  refine ⟨⟨hv, hW, State.sameButNew.setDrawn hs s.drawn⟩, ?_, by decide⟩
  rw [h2]
  exact hd0
def lw_Q (_ : Array Value) (s : State) (o : Outcome) (t : State) : Prop := o = .returned (some (.int 1)) ∧ State.butDraws s t lw_cs (fun t1 => Framed s o t1 [] room_1.cells room_1.slots)
def lw_Z (below : List Frame) (a : Array Value) (s : State) : State → Prop := fun t => ∃ o, t.status = .running ∧ Ended t below o ∧ lw_Q a s o t
/-- what holds at the law's entry -/
def lw_At (p : Program) (s : State) (m : MethodId) (meth : Method) (c : Code) (b L : Nat) (xs : Nat → Int32) : Prop :=
  p.tables.exec = Jvm.exec ∧ c.code = code ∧ meth.sig.returnType = ret ∧ c.maxLocals = 6 ∧ s.vm.findClass R_law = some m.cls ∧ (∀ w ∈ lw_tbl, w.before #[Value.ref b] s = true) ∧ va_X b L xs s s.heap ∧ b < s.heap.size ∧ meth.locks = false ∧ (Jvm.Cond.and given_1 narrow_1).before #[Value.ref b] s = true
/-- a walk that needs less room -/
theorem W.narrow {p : Program} {l : Launch} {e : Env} {R R2 : Room} {s : State} {m : MethodId} {args : Array Value} {below : List Frame} {meth : Method} {c : Code} {H : Heap} {locs : List Loc} {cells slots : Nat} {Q : State → Prop} {g : JFrame} (h1 : R2.frames ≤ R.frames) (h2 : R2.locals ≤ R.locals) (h3 : R2.cells ≤ R.cells) (h4 : R2.slots ≤ R.slots)
    (k : W p l e R2 s m args below meth c H locs cells slots Q g) : W p l e R s m args below meth c H locs cells slots Q g := by
  intro T hT X
  refine k T hT ⟨X.admits, X.cas, X.clock, X.frames, ?_, X.hears, X.method, X.code, X.here, X.tail, X.warmed, X.limits, X.bytes, X.same⟩
  have hr := X.room
  unfold State.hasRoom at hr ⊢
  simp only [Bool.and_eq_true, decide_eq_true_eq] at hr ⊢
  obtain ⟨⟨⟨⟨a1, b1, b2, b3, b4, b5⟩, c1⟩, c2⟩, c3⟩ := hr
  exact ⟨⟨⟨⟨by omega, by omega, by omega, by omega, by omega, b5⟩, by omega⟩, by omega⟩, c3⟩
/-! the classes' places -/
def chkKn (q : vw_C) : Bool := (u_ws q.1 q.2.1 q.2.2).all (fun w => decide (w ∈ lw_tbl)) && decide (Jvm.Cond.instantiable q.1 q.2.2 ∈ lw_tbl)
theorem okKn : aCl.all chkKn = true := by decide +kernel
theorem kn_all {s : State} {args : Array Value} (hts : ∀ w ∈ lw_tbl, w.before args s = true) : ∃ D : va_G, ∀ (k : Nat) (q : vw_C), aCl[k]? = some q → u_Kn s q.1 q.2.1 q.2.2 (D.1 k) (D.2 k) := by
  have h0 : ∀ k : Nat, ∃ x : ClassId × (Nat → Nat), ∀ q : vw_C, aCl[k]? = some q → u_Kn s q.1 q.2.1 q.2.2 x.1 x.2 := by
    intro k
    cases hq : aCl[k]? with
    | none => exact ⟨(0, fun _ => 0), fun q h => by cases h⟩
    | some q =>
      have hk := List.all_eq_true.mp okKn q (List.mem_of_getElem? hq)
      simp only [chkKn, Bool.and_eq_true, decide_eq_true_eq, List.all_eq_true] at hk
      obtain ⟨cC, iS, h⟩ := u_known (n := q.2.2) hts hk.1 (hts _ hk.2)
      exact ⟨(cC, iS), fun q' h' => by cases h'; exact h⟩
  obtain ⟨f, hf⟩ := Classical.axiomOfChoice h0
  exact ⟨(fun k => (f k).1, fun k => (f k).2), hf⟩
/-! what the Statement says of statics, texts, classes -/
def pre9 : List Jvm.Cond := flatC (Jvm.Cond.and given_1 narrow_1)
def stT : Term := .static "OvertureDesk" "STEPS_TO_TRY" "[I"
def st_f (j : Nat) : Int32 := [96, 48, 32, 24, 16, 12, 8, 6].getD j 0
theorem okSt : (decide (Jvm.Cond.arrayOf stT .int ∈ pre9) && decide (Jvm.Cond.eq (.length stT) (.int (Int32.ofNat 8)) ∈ pre9) && (List.range 8).all (fun j => decide (Jvm.Cond.eq (.elem stT (.int (Int32.ofNat j))) (.int (st_f j)) ∈ pre9))) = true := by decide +kernel
def chkNc (q : String × String) : Bool := decide (Jvm.Cond.not (.castable q.1 q.2) ∈ pre9)
theorem okNc : aNC.all chkNc = true := by decide +kernel
def chkTx (x : Nat × Nat × String × Nat × Nat × Nat × Bool × String) : Bool := decide (Jvm.Cond.stringRef "OvertureDesk" x.2.2.2.2.1 x.2.2.2.2.2.2.2 ∈ lw_tbl) && decide (Jvm.Cond.exactly (.string "OvertureDesk" x.2.2.2.2.1) "java/lang/String" ∈ pre9)
theorem okTx : aXT.all chkTx = true := by decide +kernel
theorem gt_r {s : State} {args : Array Value} {A : Nat → Prop} {C n d : String} {t : Nat} (hts : ∀ w ∈ lw_tbl, w.before args s = true) (hA : ∀ a : Nat, a < s.heap.size → ¬ A a)
    (h : (decide (Jvm.Cond.laysStatic C n d ∈ lw_tbl) && decide (Jvm.Cond.initialized C ∈ lw_tbl)) = true) (hv : (Term.static C n d).eval args s none [] s = some (.ref t)) : va_Z C n d (.ref t) A s s.heap := by
  simp only [Bool.and_eq_true, decide_eq_true_eq] at h
  exact va_Zof (hts _ h.1) (hts _ h.2) hv hA
theorem gt_ok {s : State} {args : Array Value} {A : Nat → Prop} {stp ua : Nat} (hts : ∀ w ∈ lw_tbl, w.before args s = true) (hst : stT.eval args s none [] s = some (.ref stp)) (hA : ∀ a : Nat, a < s.heap.size → ¬ A a) :
    ∀ q ∈ aGT, va_Z q.2.2.2.2.1 q.2.2.2.2.2.1 q.2.2.2.2.2.2 (gsV (fun _ => none, 0, 0, stp, ua) q.2.2.1) A s s.heap :=
  List.forall_mem_cons.mpr ⟨gt_r hts hA (by decide +kernel) hst, fun q hq => nomatch hq⟩
theorem okWd : (decide (Jvm.Cond.arrayClass .int ∈ lw_tbl) && decide (Jvm.Cond.arrayClass .long ∈ lw_tbl) && decide (Jvm.Cond.arrayOver (.object "OvertureDesk$Song") ∈ lw_tbl)) = true := by decide +kernel
theorem okTh : (decide (Jvm.Cond.laysStatic Bundle.tN "UNASSIGNED_STACK" Bundle.steD ∈ lw_tbl) && decide (Jvm.Cond.laysStatic Bundle.tN "SUPPRESSED_SENTINEL" Bundle.listD ∈ lw_tbl) && decide (Jvm.Cond.initialized Bundle.tN ∈ lw_tbl) && decide (Jvm.Cond.isRef (.static Bundle.tN "UNASSIGNED_STACK" Bundle.steD) ∈ pre9) && decide (Jvm.Cond.isRef (.static Bundle.tN "SUPPRESSED_SENTINEL" Bundle.listD) ∈ pre9)) = true := by decide +kernel
theorem st_len {s : State} {args : Array Value} {t : Term} {N a : Nat} {cell : Cell} (hN : N < 2 ^ 31) (ht : t.eval args s none [] s = some (.ref a)) (hc : s.heap[a]? = some cell) (h : (Term.length t).eval args s none [] s = some (.int (Int32.ofNat N))) : cell.slots.size = N := by
  obtain ⟨a', cell', h1, h2, h3⟩ := Term.length_spec h
  cases ht.symm.trans h1
  obtain ⟨h4, -⟩ := State.arrayAt?_spec h2
  cases hc.symm.trans h4
  have hsz : cell.slots.size < 2 ^ 31 := by
    simp only [Term.eval, ht, h2, Option.bind_eq_bind, Option.bind_some] at h
    by_cases hlt : cell.slots.size < 2147483648
    · exact hlt
    · simp [hlt] at h
  have e : Int32.ofNat N = Int32.ofNat cell.slots.size := Value.int.inj h3
  have e2 := congrArg Int32.toInt e
  rw [Int32.toInt_ofNat_small hN, Int32.toInt_ofNat_small hsz] at e2
  omega
/-- the start's heap as the law sees it -/
def hp0 (b stp L : Nat) (xs : Nat → Int32) : aHf := fun q => if q = b then some (aI .float L xs) else if q = stp then some (aI .float 8 st_f) else none
theorem start_ok {l : Launch} {s : State} {b L : Nat} {xs : Nat → Int32} (hflags : l.flags = flags0) (hL : L ≤ 260) (hts : ∀ w ∈ lw_tbl, w.before #[Value.ref b] s = true) (hX : va_X b L xs s s.heap) (hgv : (Jvm.Cond.and given_1 narrow_1).before #[Value.ref b] s = true) :
    ∃ (D : va_G) (stp ua : Nat) (h : aHf), aG l s D (stp, ua) ∧ gR D s (stp, ua) (h, s.heap.size, 0, stp, ua) s.heap ∧ h b = some (aI .float L xs) ∧ (∃ f, h stp = some (aI .float 8 f) ∧ ∀ j : Nat, j < 8 → f j = st_f j) ∧ b < s.heap.size ∧ stp < s.heap.size ∧ ∀ q : Nat, s.heap.size ≤ q → h q = none := by
  obtain ⟨D, hKn⟩ := kn_all hts
  have hs : ∀ w ∈ pre9, w.before #[Value.ref b] s = true := flat_of_before _ hgv
  have hA : ∀ a : Nat, a < s.heap.size → ¬ (fun a : Nat => s.heap.size ≤ a) a := fun a h => Nat.not_le.mpr h
  -- the steps
  have k1 := okSt
  simp only [Bool.and_eq_true, decide_eq_true_eq, List.all_eq_true, List.mem_range] at k1
  obtain ⟨⟨k1, k2⟩, k3⟩ := k1
  have hlen := va_eqt (hs _ k2)
  obtain ⟨stp, hst, hT⟩ := va_Tof (N := 8) (f := fun j => .int (st_f j)) (A := fun a : Nat => s.heap.size ≤ a) (by decide) (hs _ k1) hlen (fun j hj => va_eqt (hs _ (k3 j hj))) hA
  obtain ⟨cS, s1, s2, s3, -, -, s6, s7⟩ := hT
  have s5 := st_len (N := 8) (by decide) hst s1 hlen
  have hstp : stp < s.heap.size := (Array.getElem?_eq_some_iff.mp s1).1
  obtain ⟨scr, x1, x2, x3, x4, x5⟩ := hX
  have hb : b < s.heap.size := (Array.getElem?_eq_some_iff.mp x1).1
  have hw := okWd
  simp only [Bool.and_eq_true, decide_eq_true_eq] at hw
  obtain ⟨⟨w1, w2⟩, w4⟩ := hw
  have ht := okTh
  simp only [Bool.and_eq_true, decide_eq_true_eq] at ht
  obtain ⟨⟨⟨⟨t1, t2⟩, t3⟩, t4⟩, t5⟩ := ht
  refine ⟨D, stp, 0, hp0 b stp L xs, ⟨?_, ⟨_, hts⟩, hKn, ⟨?_, trivial⟩, ?_, w4, trivial, ?_, ?_, vx_Zqof (hts _ t1) (hts _ t3) (hs _ t4) hA, vx_Zqof (hts _ t2) (hts _ t3) (hs _ t5) hA⟩, ⟨rfl, ?_, ?_, Nat.le_refl _, fun _ _ => rfl, rfl⟩, if_pos rfl, ?_, hb, hstp, fun q hq => ?_⟩
  · unfold Launch.stackTraces
    rw [hflags]
    decide +kernel
  · exact gt_ok hts hst hA
  · intro ty hty
    rcases hty with rfl | rfl
    · exact w1
    · exact w2
  · intro q hq
    have hk := List.all_eq_true.mp okNc q hq
    exact va_Nc.of (hs _ (of_decide_eq_true hk))
  · intro x9 hx9
    have hk := List.all_eq_true.mp okTx x9 hx9
    simp only [chkTx, Bool.and_eq_true, decide_eq_true_eq] at hk
    obtain ⟨a9, c9, cell9, k9, v1, -⟩ := Cond.exactly_spec (hs _ hk.2)
    exact ⟨a9, vk_R.of (hts _ hk.1) v1⟩
  · intro a c hac
    by_cases ha : a = b
    · have e : c = aI .float L xs := (Option.some.inj ((if_pos ha).symm.trans hac)).symm
      rw [e, ha]
      show gI9 s b .float L xs s.heap
      unfold gI9
      rw [if_pos rfl]
      exact ⟨scr, x1, x2, x3, x4, x5, by omega⟩
    · by_cases ha2 : a = stp
      · have e : c = aI .float 8 st_f := (Option.some.inj (((if_neg ha).trans (if_pos ha2)).symm.trans hac)).symm
        rw [e, ha2]
        show gI9 s stp .float 8 st_f s.heap
        unfold gI9
        rw [if_pos rfl]
        exact ⟨cS, s1, s2, s3, s5, s6, by decide⟩
      · have := ((if_neg ha).trans (if_neg ha2)).symm.trans hac
        cases this
  · intro a c hac
    refine Or.inl ?_
    by_cases ha : a = b
    · have e : c = aI .float L xs := (Option.some.inj ((if_pos ha).symm.trans hac)).symm
      rw [e]
      rfl
    · by_cases ha2 : a = stp
      · have e : c = aI .float 8 st_f := (Option.some.inj (((if_neg ha).trans (if_pos ha2)).symm.trans hac)).symm
        rw [e]
        rfl
      · have := ((if_neg ha).trans (if_neg ha2)).symm.trans hac
        cases this
  · by_cases hbs : stp = b
    · subst hbs
      cases x1.symm.trans s1
      have hL8 : L = 8 := x4.symm.trans s5
      subst hL8
      refine ⟨xs, if_pos rfl, fun j hj => ?_⟩
      have := (x5 j hj).symm.trans (s6 j hj)
      exact Value.int.inj (Option.some.inj this)
    · refine ⟨st_f, ?_, fun _ _ => rfl⟩
      show (if stp = b then _ else if stp = stp then _ else _) = _
      rw [if_neg hbs, if_pos rfl]
  · show (if q = b then _ else if q = stp then _ else _) = _
    rw [if_neg (by omega), if_neg (by omega)]
end
section
/-! ===== the claim, out of what the abstract machine answers at the law's entry ===== -/
def dLaw : Nat := 400
/-- what is left: the law, over the abstract machine -/
def lawGoal : Prop := ∀ (n b stp ua K : Nat) (xs : Nat → Int32) (h : aHf), K ≤ 260 → h b = some (aI .float K xs) → (∃ f, h stp = some (aI .float 8 f) ∧ ∀ j : Nat, j < 8 → f j = st_f j) → b < n → stp < n → (∀ q : Nat, n ≤ q → h q = none) →
  ∃ H' : aH, L dLaw 0 0 (entL [.ref b] 6) [] (h, n, 0, stp, ua) = some (.inl (some (.int 1)), H') ∧ H'.2.1 ≤ n + room_1.cells ∧ H'.2.2.1 ≤ room_1.slots
theorem law_rec : aRec 0 = some (⟨"OvertureDeskLaw", "law", "([I)Z"⟩, code, 6, (some .boolean), [], 1, 1, false, 99, 0, (0, 0, 1000, 0)) := rfl
theorem whole_start (hG : lawGoal) {p : Program} {e : Env} {s : State} {m : MethodId} {below : List Frame} {meth : Method} {c : Code} (l : Launch) (hflags : l.flags = flags0) {b K : Nat} {xs : Nat → Int32} (hK : K ≤ 260) (C0 : lw_At p s m meth c b K xs) (hname : meth.name = "law") (hexc : c.exceptionTable.toList = []) :
    W p l e room_1 s m #[Value.ref b] below meth c s.heap [] 0 0 (lw_Z below #[Value.ref b] s) (entryFrame m ([Value.ref b] : List Value).toArray 6) := by
  obtain ⟨hx, hb, hr, hml, hown, hts, hX, hbl, hlocks, hgv⟩ := C0
  obtain ⟨D, stp, ua, h, G, hR, e1, e2, e3, e4, e5⟩ := start_ok hflags hK hts hX hgv
  obtain ⟨H', hH, hc, hs⟩ := hG s.heap.size b stp ua K xs h hK e1 e2 e3 e4 e5
  obtain ⟨f, hf⟩ := L_some.mp hH
  have C : aCx p s m meth c s D (stp, ua) 0 := by
    refine ⟨hx, fun pc il hd => ?_, hml, ⟨R_law, rfl, hown⟩, State.WarmedH.refl s, G.2.1, G.2.2.1, hname, G.2.2.2.1, G.2.2.2.2.1, G.2.2.2.2.2.1, G.2.2.2.2.2.2.1, Vm.Alike.refl s.vm⟩
    obtain ⟨r, hr0, hcode⟩ : ∃ r, aRec 0 = some r ∧ rB r = code := ⟨_, law_rec, rfl⟩
    rw [hb, ← hcode]
    unfold mDec at hd
    rw [hr0] at hd
    replace hd : (match decode (rB r) pc with
      | .ok q => if ilen q.1 = 0 ∨ ilen q.1 = q.2 then some q else none
      | .error _ => none) = some il := hd
    split at hd
    next q hq =>
      split at hd
      · cases hd; exact hq
      · cases hd
    next => cases hd
  have hB : aBd p l s m meth c s D (stp, ua) 0 s.heap.size := ⟨C, G, hlocks, hr, hexc, rfl, Nat.le_refl _, fun _ _ => rfl⟩
  refine W.narrow (R2 := { frames := mFR 0, cells := room_1.cells, slots := room_1.slots, locals := mLO 0 }) (Nat.le_of_ble_eq_true rfl) (Nat.le_of_ble_eq_true rfl) (Nat.le_refl _) (Nat.le_refl _) ?_
  have hrs := run_sound (p := p) (l := l) (e := e) (R := { frames := mFR 0, cells := room_1.cells, slots := room_1.slots, locals := mLO 0 }) (s := s) (m := m) (args := #[Value.ref b]) (below := below) (meth := meth) (c := c) (w0 := 0) hB (gOk_all G dLaw) rfl rfl (x0 := (.inl (some (.int 1)), H')) (x := (.inl (some (.int 1)), H'))
    (by show H'.2.1 - s.heap.size ≤ room_1.cells; omega) (by show H'.2.2.1 - 0 ≤ room_1.slots; omega) rfl rfl (fun _ z => z) f 0 (entL [.ref b] 6) [] _ hf (Nat.le_refl _) (Nat.le_refl _)
  rw [lg_entry_eq]
  have hw := hrs s.heap _ [] hR (LR_ent (vs := [.ref b]) (n := 6) (show 1 ≤ 6 by decide)) (fun z hz => nomatch hz)
  have hw : W p l e _ s m #[Value.ref b] below meth c s.heap [] (s.heap.size - s.heap.size) (0 - 0) _ _ := hw
  rw [Nat.sub_self, Nat.sub_self] at hw
  intro T hT X
  obtain ⟨t, a1, o, b1, b2, b3⟩ := hw T hT X
  refine ⟨t, a1, o, b1, b2, ?_⟩
  rcases b3 with ⟨⟨v, v1, v2, -⟩, Lc, ⟨f1, f2, f3⟩, f4⟩ | ⟨q, -, E, ce, Lc, ⟨z1, -⟩, -⟩
  · cases v1
    refine ⟨v2, lw_closed (d0 := s.drawn) (Drawn.sameBut.refl s.drawn lw_cs) f1 f2 ?_⟩
    have f5 := State.sameButNew.drop_fresh (L := []) (J := Lc) f3 f4
    exact f5.mono (by show H'.2.1 - s.heap.size ≤ room_1.cells; omega) (by show H'.2.2.1 - 0 ≤ room_1.slots; omega)
  · cases z1
set_option maxHeartbeats 4000000 in
theorem lw_walk (hG : lawGoal) (l : Launch) (hflags : l.flags = flags0) (b : Addr) (xs : List Int32) : MetFree l x (headSpec (Jvm.Cond.code x code maxLocals ret :: tables_1) room_1) (lw_P b xs) (fun _ _ _ _ _ => True) lw_Q := by
  refine MetFree.of_bodyS (code := code) (maxLocals := maxLocals) (ret := ret) (by decide) ?_ ?_
  · intro args s m h hn
    obtain ⟨meth, c, h1, h2, h3, h4, h5, h6, -, -⟩ := Cond.code_spec hn (atoms_spec (ws := Jvm.Cond.code x code maxLocals ret :: tables_1) h _ List.mem_cons_self)
    exact ⟨meth, c, h1, h2, h3, h4, h5, h6⟩
  · intro p e s m args below meth c s₁ B hml0 hP _
    obtain ⟨rfl, hx, hbd, hgv⟩ := hP
    obtain ⟨scr, harrAt, hlist, hof, hsmall⟩ := hx
    obtain ⟨hcb, hkn, -, -⟩ := State.arrayAt?_spec harrAt
    have hown : s.vm.findClass R_law = some m.cls := findClass_of_methodNamed B.named
    have hts0 : ∀ c ∈ (Jvm.Cond.code x code maxLocals ret :: tables_1), c.before #[Value.ref b] s = true := atoms_spec (ws := Jvm.Cond.code x code maxLocals ret :: tables_1) B.pre
    have hts : ∀ w ∈ lw_tbl, w.before #[Value.ref b] s = true := k2_hts_sels lw_privs (fun w hw => hts0 w (List.mem_cons_of_mem _ hw)) lw_privs_ok
    have hml : c.maxLocals = 6 := B.maxLocals_eq (hts0 _ List.mem_cons_self)
    have X₀ : Stand p l e room_1 s m #[Value.ref b] below meth c s₁ [] 0 0 := Stand.of_body B
    have hh0 : s₁.heap = s.heap := by rw [B.state]; rfl
    have hsz : scr.slots.size = xs.length := by rw [← Array.length_toList, hlist, List.length_map]
    have hval : ∀ j : Nat, j < xs.length → scr.slots[j]? = some (.int (xs.getD j 0)) := fun j hj => by
      rw [← Array.getElem?_toList, hlist]
      simp [hj]
    have hbl : b < s.heap.size := (Array.getElem?_eq_some_iff.mp hcb).1
    have hX : va_X b xs.length (fun j => xs.getD j 0) s s.heap := ⟨scr, hcb, hof, hkn, hsz, hval⟩
    have hexc : c.exceptionTable.toList = [] := by
      obtain ⟨meth9, c9, h1, h2, -, -, -, -, h7, -⟩ := Cond.code_spec B.named (hts0 _ List.mem_cons_self)
      cases Option.some.inj (h1.symm.trans B.method)
      cases Option.some.inj (h2.symm.trans X₀.code)
      rw [Array.isEmpty_iff.mp h7]
    have K : W p l e room_1 s m #[Value.ref b] below meth c s₁.heap [] 0 0 (lw_Z below #[Value.ref b] s) (entryFrame m ([Value.ref b] : List Value).toArray 6) := by
      rw [hh0]
      exact whole_start hG l hflags hbd ⟨B.exec, B.bytes, B.returns, hml, hown, hts, hX, hbl, B.notSynchronized, hgv⟩ (name_of_methodNamed B.named B.method).1 hexc
    obtain ⟨t, a1, o, b1, b2, b3⟩ := K s₁ rfl X₀
    exact ⟨t, o, a1, b1, b2, b3⟩
theorem lw_pre_spec {args : Array Value} {s : State} (h : (Jvm.Cond.and given_1 narrow_1).before args s = true) (hr : rest_1_c.before args s = true) : ∃ (b : Addr) (xs : List Int32), lw_P b xs args s := by
  have hs := flat_of_before _ h
  have hq := flat_of_before _ hr
  have hc : (Jvm.Cond.count 1).before args s = true := hs _ (by decide +kernel)
  have harr : (Jvm.Cond.arrayOf (.arg 0) .int).before args s = true := hs _ (by decide +kernel)
  have hle : (Jvm.Cond.le (.length (.arg 0)) (.int 260)).before args s = true := hs _ (by decide +kernel)
  have hlen : (Jvm.Cond.isInt (.length (.arg 0))).before args s = true := hq _ (by decide +kernel)
  have hall : (Jvm.Cond.all (.arg 0) (.isInt (.elem (.arg 0) (.index 0)))).before args s = true := hq _ (by decide +kernel)
  obtain ⟨b, xs, hb, hx⟩ := State.ints_of_pre rfl harr hlen hall
  have hsm : xs.length < 2 ^ 31 := hx.choose_spec.2.2.2
  have hev : (Term.length (.arg 0)).eval args s none [] s = some (.int xs.length.toInt32) := hx.length_eval hb
  have hv := Cond.le_ints hev (show (Term.int 260).eval args s none [] s = some (.int 260) from rfl)
  have hd : xs.length.toInt32 ≤ 260 := by
    simpa [Cond.before, Cond.holds, hv] using hle
  have hN : xs.length ≤ 260 := (Int32.ofNat_le_ofNat hsm (by decide)).mp (show Int32.ofNat xs.length ≤ Int32.ofNat 260 from hd)
  exact ⟨b, xs, Cond.one_arg hc (show args[0]? = some (.ref b) from hb), hx, hN, h⟩
theorem lw_comes (hG : lawGoal) (l : Launch) (hflags : l.flags = flags0) : Comes l x (Jvm.Cond.code x code maxLocals ret :: tables_1) room_1 (fun tb e args s => Calls_1 tb e args s ∧ rest_1 tb e args s ∧ Pre_1 tb e args s)
    (fun _ _ args s o t => lw_Q args s o t) := by
  intro p e ha hc hk s m args below hf hfit hheap happ hpre
  obtain ⟨b, xs, hP⟩ := lw_pre_spec hpre.2.2 hpre.2.1
  obtain ⟨k, o, h1, h2, h3, hQ⟩ := lw_walk hG l hflags b xs p e ha hc hk s m args below hf ((Spec.applies_iff_loose hf).mp happ).1 hP trivial
  exact ⟨k, o, h1, h2, h3, hQ⟩
theorem lw_frame {s t : State} {o : Outcome} {args : Array Value} (h : State.butDraws s t lw_cs (fun t1 => Framed s o t1 [] room_1.cells room_1.slots)) :
    State.butDraws s t [Jvm.Choice.named "NaN.bits"] (fun t1 => Framed s o t1 (fieldLocs frame_1_writes args s ++ arrayLocs frame_1_arrays args s ++ staticLocs frame_1_statics s) room_1.cells room_1.slots) := h
theorem lw_limb (hG : lawGoal) (Lc : Jvm.Cond) (hL : ∀ (args : Array Value) (s t : State), Lc.after args s (.returned (some (.int 1))) t = true) :
    ArmFor flags0 classFile x code maxLocals ret World_1 tables_1 room_1 Calls_1 rest_1 Pre_1
      (fun tb e a s o t => postC Lc tb e a s o t ∧ State.butDraws s t [Jvm.Choice.named "NaN.bits"] (fun t1 => Framed s o t1 (fieldLocs frame_1_writes a s ++ arrayLocs frame_1_arrays a s ++ staticLocs frame_1_statics s) room_1.cells room_1.slots)) := by
  intro l hflags _ _ p e ha hc hk s m args below hf hfit hheap happ hpre
  obtain ⟨k, o, h1, h2, h3, rfl, hF⟩ := lw_comes hG l hflags p e ha hc hk s m args below hf hfit hheap happ hpre
  exact ⟨k, _, h1, h2, h3, hL args s _, lw_frame hF⟩
/-- the claim, if the law answers 1 over the abstract machine -/
theorem i_all (hG : lawGoal) : Claimed_1_1 ∧ Claimed_1_2 := ⟨lw_limb hG limb_1_1 (fun args s t => by simp [limb_1_1, Cond.after, Cond.holds, Cond.value]), lw_limb hG limb_1_2 (fun args s t => Cond.after_iff.mpr (by
  first | (rw [show limb_1_2 = Cond.eq .result (.int 1) from rfl, Cond.eq_ints (x := 1) (y := 1) rfl rfl]; simp; done) | (simp [limb_1_2, Cond.value, Term.eval]; done)))⟩
end
section
/-! ===== ints and longs as whole numbers ===== -/
theorem i0 : (0 : Int32) = iI 0 := by decide
theorem i1 : (1 : Int32) = iI 1 := by decide
theorem l0_ : (0 : Int64) = lI 0 := by decide
theorem nI_iI (n : Nat) : nI n = iI n := by
  unfold nI iI
  exact (Int32.ofInt_eq_ofNat).symm
theorem iI_add (a b : Int) : iI a + iI b = iI (a + b) := (Int32.ofInt_add a b).symm
theorem iI_sub (a b : Int) : iI a - iI b = iI (a - b) := by
  unfold iI
  rw [Int.sub_eq_add_neg, Int32.ofInt_add, Int32.ofInt_neg, Int32.sub_eq_add_neg]
theorem iI_mul (a b : Int) : iI a * iI b = iI (a * b) := (Int32.ofInt_mul a b).symm
theorem iI_neg (a : Int) : -iI a = iI (-a) := (Int32.ofInt_neg a).symm
theorem iI_t {a : Int} (h1 : -2147483648 ≤ a) (h2 : a < 2147483648) : (iI a).toInt = a := by
  exact Int32.toInt_ofInt_of_le (by omega) (by omega)
theorem iI_of (x : Int32) : iI x.toInt = x := Int32.ofInt_toInt x
theorem iI_r (x : Int32) : -2147483648 ≤ x.toInt ∧ x.toInt < 2147483648 := ⟨Int32.le_toInt x, Int32.toInt_lt x⟩
theorem iI_lt {a b : Int} (h1 : -2147483648 ≤ a) (h2 : a < 2147483648) (h3 : -2147483648 ≤ b) (h4 : b < 2147483648) : (iI a < iI b) = (a < b) := by
  rw [Int32.lt_iff_toInt_lt, iI_t h1 h2, iI_t h3 h4]
theorem iI_le {a b : Int} (h1 : -2147483648 ≤ a) (h2 : a < 2147483648) (h3 : -2147483648 ≤ b) (h4 : b < 2147483648) : (iI a ≤ iI b) = (a ≤ b) := by
  rw [Int32.le_iff_toInt_le, iI_t h1 h2, iI_t h3 h4]
theorem iI_eq {a b : Int} (h1 : -2147483648 ≤ a) (h2 : a < 2147483648) (h3 : -2147483648 ≤ b) (h4 : b < 2147483648) : (iI a = iI b) = (a = b) := by
  rw [← Int32.toInt_inj, iI_t h1 h2, iI_t h3 h4]
theorem iI_cl {a : Int} (h1 : -2147483648 ≤ a) (h2 : a < 2147483648) : (iI a).toNatClampNeg = a.toNat := by
  show (iI a).toInt.toNat = _
  rw [iI_t h1 h2]
theorem iI_td {a b : Int} (h1 : -2147483648 < a) (h2 : a < 2147483648) (h3 : -2147483648 ≤ b) (h4 : b < 2147483648) : iI a / iI b = iI (a.tdiv b) := by
  have e : (iI a / iI b).toInt = a.tdiv b := by
    rw [Int32.toInt_div_of_ne_left _ _ (fun h => by
      have := congrArg Int32.toInt h
      rw [iI_t (by omega) h2] at this
      have e2 : Int32.minValue.toInt = -2147483648 := by decide
      omega), iI_t (by omega) h2, iI_t h3 h4]
  rw [← iI_of (iI a / iI b), e]
/-- a division by more than nothing -/
theorem iI_div {a b : Int} (h1 : 0 ≤ a) (h2 : a < 2147483648) (h3 : 0 < b) (h4 : b < 2147483648) : iI a / iI b = iI (a / b) := by
  rw [iI_td (by omega) h2 (by omega) h4, Int.tdiv_eq_ediv_of_nonneg h1]
theorem inB_i {a : Int} {N : Nat} (h1 : -2147483648 ≤ a) (h2 : a < 2147483648) : inB (iI a) N = decide (0 ≤ a ∧ a < N) := by
  unfold inB
  rw [i0, iI_cl h1 h2]
  have e := iI_lt h1 h2 (b := 0) (by omega) (by omega)
  simp only [e, ← decide_not, ← Bool.decide_and]
  exact decide_eq_decide.mpr ⟨fun h => by omega, fun h => by omega⟩
/-! longs -/
theorem lI_add (a b : Int) : lI a + lI b = lI (a + b) := (Int64.ofInt_add a b).symm
theorem lI_sub (a b : Int) : lI a - lI b = lI (a - b) := by
  unfold lI
  rw [Int.sub_eq_add_neg, Int64.ofInt_add, Int64.ofInt_neg, Int64.sub_eq_add_neg]
theorem lI_mul (a b : Int) : lI a * lI b = lI (a * b) := (Int64.ofInt_mul a b).symm
theorem lI_t {a : Int} (h1 : -9223372036854775808 ≤ a) (h2 : a < 9223372036854775808) : (lI a).toInt = a := by
  exact Int64.toInt_ofInt_of_le (by omega) (by omega)
theorem lI_of (x : Int64) : lI x.toInt = x := Int64.ofInt_toInt x
theorem lI_lt {a b : Int} (h1 : -9223372036854775808 ≤ a) (h2 : a < 9223372036854775808) (h3 : -9223372036854775808 ≤ b) (h4 : b < 9223372036854775808) : (lI a < lI b) = (a < b) := by
  rw [Int64.lt_iff_toInt_lt, lI_t h1 h2, lI_t h3 h4]
theorem lI_le {a b : Int} (h1 : -9223372036854775808 ≤ a) (h2 : a < 9223372036854775808) (h3 : -9223372036854775808 ≤ b) (h4 : b < 9223372036854775808) : (lI a ≤ lI b) = (a ≤ b) := by
  rw [Int64.le_iff_toInt_le, lI_t h1 h2, lI_t h3 h4]
theorem lI_eq {a b : Int} (h1 : -9223372036854775808 ≤ a) (h2 : a < 9223372036854775808) (h3 : -9223372036854775808 ≤ b) (h4 : b < 9223372036854775808) : (lI a = lI b) = (a = b) := by
  rw [← Int64.toInt_inj, lI_t h1 h2, lI_t h3 h4]
theorem lI_td {a b : Int} (h1 : -9223372036854775808 < a) (h2 : a < 9223372036854775808) (h3 : -9223372036854775808 ≤ b) (h4 : b < 9223372036854775808) : lI a / lI b = lI (a.tdiv b) := by
  have e : (lI a / lI b).toInt = a.tdiv b := by
    rw [Int64.toInt_div_of_ne_left _ _ (fun h => by
      have := congrArg Int64.toInt h
      rw [lI_t (by omega) h2] at this
      have e2 : Int64.minValue.toInt = -9223372036854775808 := by decide
      omega), lI_t (by omega) h2, lI_t h3 h4]
  rw [← lI_of (lI a / lI b), e]
theorem lI_div {a b : Int} (h1 : 0 ≤ a) (h2 : a < 9223372036854775808) (h3 : 0 < b) (h4 : b < 9223372036854775808) : lI a / lI b = lI (a / b) := by
  rw [lI_td (by omega) h2 (by omega) h4, Int.tdiv_eq_ediv_of_nonneg h1]
theorem l_i (a : Int) : (lI a).toInt32 = iI a := Int64.toInt32_ofInt
theorem i_l {a : Int} (h1 : -2147483648 ≤ a) (h2 : a < 2147483648) : (iI a).toInt64 = lI a := by
  rw [← lI_of (iI a).toInt64, Int32.toInt_toInt64, iI_t h1 h2]
/-- a comparison of longs -/
theorem lc_lt (x y : Int64) : (lg_cmp x y < iI 0) = (x < y) := by
  unfold lg_cmp
  simp only [gt_iff_lt, Int64.lt_iff_toInt_lt, ← Int64.toInt_inj]
  repeat' split
  all_goals (apply propext; constructor <;> intro hh <;> first | omega | decide | exact absurd hh (by decide))
theorem lc_gt (x y : Int64) : (iI 0 < lg_cmp x y) = (y < x) := by
  unfold lg_cmp
  simp only [gt_iff_lt, Int64.lt_iff_toInt_lt, ← Int64.toInt_inj]
  repeat' split
  all_goals (apply propext; constructor <;> intro hh <;> first | omega | decide | exact absurd hh (by decide))
theorem lc_le (x y : Int64) : (lg_cmp x y ≤ iI 0) = (x ≤ y) := propext (lg_cmp_le x y)
theorem lc_ge (x y : Int64) : (iI 0 ≤ lg_cmp x y) = (y ≤ x) := propext (lg_cmp_ge x y)
theorem lc_eq (x y : Int64) : (lg_cmp x y = iI 0) = (x = y) := by
  unfold lg_cmp
  simp only [gt_iff_lt, Int64.lt_iff_toInt_lt, ← Int64.toInt_inj]
  repeat' split
  all_goals (apply propext; constructor <;> intro hh <;> first | omega | decide | exact absurd hh (by decide))
/-! bits -/
theorem ln_bv {n : Nat} : (lI n).toBitVec = BitVec.ofNat 64 n := by
  show (Int64.ofInt n).toBitVec = _
  rw [Int64.toBitVec_ofInt, BitVec.ofInt_natCast]
theorem in_bv {n : Nat} : (iI n).toBitVec = BitVec.ofNat 32 n := by
  show (Int32.ofInt n).toBitVec = _
  rw [Int32.toBitVec_ofInt, BitVec.ofInt_natCast]
theorem sm64 {k : Nat} (hk : k < 64) : ((iI k).toInt64 &&& 63).toBitVec.smod 64 = BitVec.ofNat 64 k := by
  have : ∀ k : Fin 64, ((iI (k.val : Nat)).toInt64 &&& 63).toBitVec.smod 64 = BitVec.ofNat 64 k.val := by decide +kernel
  exact this ⟨k, hk⟩
theorem sm32 {k : Nat} (hk : k < 32) : (iI k &&& 31).toBitVec.smod 32 = BitVec.ofNat 32 k := by
  have : ∀ k : Fin 32, (iI (k.val : Nat) &&& 31).toBitVec.smod 32 = BitVec.ofNat 32 k.val := by decide +kernel
  exact this ⟨k, hk⟩
/-- a long shifted right, its sign kept -/
theorem lshr {a : Int} (k : Nat) (hk : k < 64) (h1 : -9223372036854775808 ≤ a) (h2 : a < 9223372036854775808) : lI a >>> ((iI k).toInt64 &&& 63) = lI (a / 2 ^ k) := by
  have e : (lI a >>> ((iI k).toInt64 &&& 63)).toInt = a / 2 ^ k := by
    show (lI a >>> ((iI k).toInt64 &&& 63)).toBitVec.toInt = _
    rw [Int64.toBitVec_shiftRight, sm64 hk, BitVec.toInt_sshiftRight']
    show (lI a).toInt >>> _ = _
    rw [lI_t h1 h2, BitVec.toNat_ofNat, Nat.mod_eq_of_lt (by omega), Int.shiftRight_eq_div_pow]
    norm_cast
  rw [← lI_of (lI a >>> _), e]
theorem lshl (a : Int) (k : Nat) (hk : k < 64) : lI a <<< ((iI k).toInt64 &&& 63) = lI (a * 2 ^ k) := by
  apply Int64.toBitVec.inj
  rw [Int64.toBitVec_shiftLeft, sm64 hk]
  show BitVec.ofInt 64 a <<< (BitVec.ofNat 64 k) = BitVec.ofInt 64 (a * 2 ^ k)
  rw [BitVec.shiftLeft_eq', BitVec.toNat_ofNat, Nat.mod_eq_of_lt (by omega)]
  apply BitVec.eq_of_toInt_eq
  rw [BitVec.toInt_shiftLeft, BitVec.toInt_ofInt, BitVec.toNat_ofInt, Nat.shiftLeft_eq]
  rw [show (((a % ((2 ^ 64 : Nat) : Int)).toNat * 2 ^ k : Nat) : Int) = (a % ((2 ^ 64 : Nat) : Int)) * 2 ^ k by
    rw [Int.natCast_mul, Int.toNat_of_nonneg (Int.emod_nonneg _ (by decide)), Int.natCast_pow]; rfl]
  exact Int.emod_mul_bmod _ _
theorem ishl (a : Int) (k : Nat) (hk : k < 32) : iI a <<< (iI k &&& 31) = iI (a * 2 ^ k) := by
  apply Int32.toBitVec.inj
  rw [Int32.toBitVec_shiftLeft, sm32 hk]
  show BitVec.ofInt 32 a <<< (BitVec.ofNat 32 k) = BitVec.ofInt 32 (a * 2 ^ k)
  rw [BitVec.shiftLeft_eq', BitVec.toNat_ofNat, Nat.mod_eq_of_lt (by omega)]
  apply BitVec.eq_of_toInt_eq
  rw [BitVec.toInt_shiftLeft, BitVec.toInt_ofInt, BitVec.toNat_ofInt, Nat.shiftLeft_eq]
  rw [show (((a % ((2 ^ 32 : Nat) : Int)).toNat * 2 ^ k : Nat) : Int) = (a % ((2 ^ 32 : Nat) : Int)) * 2 ^ k by
    rw [Int.natCast_mul, Int.toNat_of_nonneg (Int.emod_nonneg _ (by decide)), Int.natCast_pow]; rfl]
  exact Int.emod_mul_bmod _ _
/-- the lowest bits -/
theorem iand {a : Int} (k : Nat) (hk : k < 31) (h1 : 0 ≤ a) : iI a &&& iI (2 ^ k - 1 : Nat) = iI (a % 2 ^ k) := by
  obtain ⟨n, rfl⟩ := Int.eq_ofNat_of_zero_le h1
  apply Int32.toBitVec.inj
  rw [Int32.toBitVec_and, in_bv, in_bv, show ((n : Int) % 2 ^ k) = ((n % 2 ^ k : Nat) : Int) by norm_cast, in_bv]
  apply BitVec.eq_of_toNat_eq
  have hp : 2 ^ k < 2 ^ 32 := Nat.pow_lt_pow_right (by decide) (by omega)
  have hp0 : 0 < 2 ^ k := Nat.two_pow_pos k
  have h3 : n % 2 ^ k < 2 ^ k := Nat.mod_lt _ hp0
  rw [BitVec.toNat_and, BitVec.toNat_ofNat, BitVec.toNat_ofNat, BitVec.toNat_ofNat, Nat.mod_eq_of_lt (a := 2 ^ k - 1) (by omega), Nat.and_two_pow_sub_one_eq_mod, Nat.mod_eq_of_lt (a := n % 2 ^ k) (by omega)]
  exact Nat.mod_mod_of_dvd n (Nat.pow_dvd_pow 2 (by omega))
theorem land {a : Int} (k : Nat) (hk : k < 63) (h1 : 0 ≤ a) : lI a &&& lI (2 ^ k - 1 : Nat) = lI (a % 2 ^ k) := by
  obtain ⟨n, rfl⟩ := Int.eq_ofNat_of_zero_le h1
  apply Int64.toBitVec.inj
  rw [Int64.toBitVec_and, ln_bv, ln_bv, show ((n : Int) % 2 ^ k) = ((n % 2 ^ k : Nat) : Int) by norm_cast, ln_bv]
  apply BitVec.eq_of_toNat_eq
  have hp : 2 ^ k < 2 ^ 64 := Nat.pow_lt_pow_right (by decide) (by omega)
  have hp0 : 0 < 2 ^ k := Nat.two_pow_pos k
  have h3 : n % 2 ^ k < 2 ^ k := Nat.mod_lt _ hp0
  rw [BitVec.toNat_and, BitVec.toNat_ofNat, BitVec.toNat_ofNat, BitVec.toNat_ofNat, Nat.mod_eq_of_lt (a := 2 ^ k - 1) (by omega), Nat.and_two_pow_sub_one_eq_mod, Nat.mod_eq_of_lt (a := n % 2 ^ k) (by omega)]
  exact Nat.mod_mod_of_dvd n (Nat.pow_dvd_pow 2 (by omega))
/-- bits that lie apart -/
theorem lor {a b : Int} (k : Nat) (h1 : 0 ≤ a) (h2 : 0 ≤ b) (h3 : b < 2 ^ k) (h4 : a * 2 ^ k + b < 9223372036854775808) : lI (a * 2 ^ k) ||| lI b = lI (a * 2 ^ k + b) := by
  obtain ⟨n, rfl⟩ := Int.eq_ofNat_of_zero_le h1
  obtain ⟨m, rfl⟩ := Int.eq_ofNat_of_zero_le h2
  have h3' : m < 2 ^ k := by
    rw [show (2 : Int) ^ k = ((2 ^ k : Nat) : Int) by rw [Int.natCast_pow]; rfl] at h3
    exact Int.ofNat_lt.mp h3
  obtain ⟨N, hN⟩ : ∃ N, N = n * 2 ^ k := ⟨_, rfl⟩
  have e : (N : Int) = (n : Int) * 2 ^ k := by rw [hN, Int.natCast_mul, Int.natCast_pow]; rfl
  rw [← e] at h4 ⊢
  have e2 : (N : Int) + (m : Int) = ((N + m : Nat) : Int) := (Int.natCast_add N m).symm
  rw [e2] at h4 ⊢
  have h5 : N + m < 18446744073709551616 := by omega
  have h6 : N < 18446744073709551616 := by omega
  have h7 : m < 18446744073709551616 := by omega
  apply Int64.toBitVec.inj
  rw [Int64.toBitVec_or, ln_bv, ln_bv, ln_bv]
  apply BitVec.eq_of_toNat_eq
  rw [BitVec.toNat_or, BitVec.toNat_ofNat, BitVec.toNat_ofNat, BitVec.toNat_ofNat]
  rw [Nat.mod_eq_of_lt (show N < 2 ^ 64 from h6), Nat.mod_eq_of_lt (show m < 2 ^ 64 from h7), Nat.mod_eq_of_lt (show N + m < 2 ^ 64 from h5), hN, Nat.mul_comm n, Nat.two_pow_add_eq_or_of_lt h3']
/-! a truth as an int -/
def bI (p : Prop) [Decidable p] : Int32 := if p then iI 1 else iI 0
theorem bI_0 {p : Prop} [Decidable p] : (bI p = iI 0) = ¬ p := by
  unfold bI
  by_cases h : p
  · rw [if_pos h]; simp only [h, not_true_eq_false, eq_iff_iff, iff_false]; decide
  · rw [if_neg h]; simp only [h, not_false_eq_true, eq_iff_iff, iff_true]
theorem bI_ok {p : Prop} [Decidable p] : (bI p == iI 0 || bI p == iI 1) = true := by
  unfold bI
  by_cases h : p
  · rw [if_pos h]; decide
  · rw [if_neg h]; decide
theorem bI_T {p : Prop} [Decidable p] (h : p) : iI 1 = bI p := (if_pos h).symm
theorem bI_F {p : Prop} [Decidable p] (h : ¬ p) : iI 0 = bI p := (if_neg h).symm
theorem z1 : (iI 1 == iI 0 || iI 1 == iI 1) = true := by decide
theorem z0 : (iI 0 == iI 0 || iI 0 == iI 1) = true := by decide
/-! cells -/
theorem gI_I {N : Nat} {f : Nat → Int32} {j : Int} (h1 : 0 ≤ j) (h2 : j < N) (h3 : j < 2147483648) : gI (some (aI .int N f)) (iI j) = some (f j.toNat) := by
  show (if inB (iI j) N then some (f (iI j).toNatClampNeg) else none) = _
  rw [inB_i (by omega) h3, iI_cl (by omega) h3, if_pos (decide_eq_true ⟨h1, h2⟩)]
theorem gI_F {N : Nat} {f : Nat → Int32} {j : Int} (h1 : 0 ≤ j) (h2 : j < N) (h3 : j < 2147483648) : gI (some (aI .float N f)) (iI j) = some (f j.toNat) := by
  show (if inB (iI j) N then some (f (iI j).toNatClampNeg) else none) = _
  rw [inB_i (by omega) h3, iI_cl (by omega) h3, if_pos (decide_eq_true ⟨h1, h2⟩)]
theorem gL_L {N : Nat} {f : Nat → Int64} {j : Int} (h1 : 0 ≤ j) (h2 : j < N) (h3 : j < 2147483648) : gL (some (aL N f)) (iI j) = some (f j.toNat) := by
  show (if inB (iI j) N then some (f (iI j).toNatClampNeg) else none) = _
  rw [inB_i (by omega) h3, iI_cl (by omega) h3, if_pos (decide_eq_true ⟨h1, h2⟩)]
theorem gZ_Z {N : Nat} {f : Nat → Int32} {j : Int} (h1 : 0 ≤ j) (h2 : j < N) (h3 : j < 2147483648) : gZ (some (aI .boolean N f)) (iI j) = some (f j.toNat) := by
  show (if inB (iI j) N then some (f (iI j).toNatClampNeg) else none) = _
  rw [inB_i (by omega) h3, iI_cl (by omega) h3, if_pos (decide_eq_true ⟨h1, h2⟩)]
theorem gP_P {ty : FieldType} {N : Nat} {f : Nat → Option Nat} {j : Int} (h1 : 0 ≤ j) (h2 : j < N) (h3 : j < 2147483648) : gP (some (aP ty N f)) (iI j) = some (va_rf (f j.toNat)) := by
  show (if inB (iI j) N then some (va_rf (f (iI j).toNatClampNeg)) else none) = _
  rw [inB_i (by omega) h3, iI_cl (by omega) h3, if_pos (decide_eq_true ⟨h1, h2⟩)]
theorem sI_I {N : Nat} {f : Nat → Int32} {j : Int} {x : Int32} (h1 : 0 ≤ j) (h2 : j < N) (h3 : j < 2147483648) : sI (some (aI .int N f)) (iI j) x = some (aI .int N (upd f j.toNat x)) := by
  show (if inB (iI j) N then some (aI .int N (upd f (iI j).toNatClampNeg x)) else none) = _
  rw [inB_i (by omega) h3, iI_cl (by omega) h3, if_pos (decide_eq_true ⟨h1, h2⟩)]
theorem sL_L {N : Nat} {f : Nat → Int64} {j : Int} {x : Int64} (h1 : 0 ≤ j) (h2 : j < N) (h3 : j < 2147483648) : sL (some (aL N f)) (iI j) x = some (aL N (vp_updL f j.toNat x)) := by
  show (if inB (iI j) N then some (aL N (vp_updL f (iI j).toNatClampNeg x)) else none) = _
  rw [inB_i (by omega) h3, iI_cl (by omega) h3, if_pos (decide_eq_true ⟨h1, h2⟩)]
theorem gN_I {ty : FieldType} {N : Nat} {f : Nat → Int32} : gN (some (aI ty N f)) = some N := rfl
theorem gN_L {N : Nat} {f : Nat → Int64} : gN (some (aL N f)) = some N := rfl
theorem gN_P {ty : FieldType} {N : Nat} {f : Nat → Option Nat} : gN (some (aP ty N f)) = some N := rfl
theorem rvB {ci : Nat} {fs : List Value} : rv (some (aB ci fs)) ci = true := by
  show (ci == ci) = true
  simp
/-! fields by their places -/
theorem gFx {ci k : Nat} {fs : List Value} {v : Value} (h : fs[k]? = some v) : gF (some (aB ci fs)) ci k = some v := by
  show (if ci = ci then fs[k]? else none) = _
  rw [if_pos rfl, h]
theorem gB0 {ci : Nat} {v : Value} {l : List Value} : gF (some (aB ci (v :: l))) ci 0 = some v := gFx rfl
theorem gB1 {ci : Nat} {a v : Value} {l : List Value} : gF (some (aB ci (a :: v :: l))) ci 1 = some v := gFx rfl
theorem gB2 {ci : Nat} {a b v : Value} {l : List Value} : gF (some (aB ci (a :: b :: v :: l))) ci 2 = some v := gFx rfl
theorem gB3 {ci : Nat} {a b c v : Value} {l : List Value} : gF (some (aB ci (a :: b :: c :: v :: l))) ci 3 = some v := gFx rfl
theorem gB4 {ci : Nat} {a b c d v : Value} {l : List Value} : gF (some (aB ci (a :: b :: c :: d :: v :: l))) ci 4 = some v := gFx rfl
theorem sFx {ci k tc : Nat} {fs fs' : List Value} {v : Value} (hk : k < fs.length) (hf : fitK tc v = true) (h : fs.set k v = fs') : sF (some (aB ci fs)) ci k tc v = some (aB ci fs') := by
  show (if ci = ci ∧ k < fs.length ∧ fitK tc v = true then some (aB ci (fs.set k v)) else none) = _
  rw [if_pos ⟨rfl, hk, hf⟩, h]
theorem ft0 {x : Int32} : fitK 0 (.int x) = true := rfl
theorem ft1 {p : Prop} [Decidable p] : fitK 1 (.int (bI p)) = true := bI_ok
theorem ft2 {x : Int64} : fitK 2 (.long x) = true := rfl
theorem ft3 {a : Nat} : fitK 3 (.ref a) = true := rfl
theorem sB0i {ci : Nat} {v : Value} {l : List Value} {x : Int32} : sF (some (aB ci (v :: l))) ci 0 0 (.int x) = some (aB ci ((.int x) :: l)) := sFx (by simp) ft0 rfl
theorem sB0r {ci : Nat} {v : Value} {l : List Value} {q : Nat} : sF (some (aB ci (v :: l))) ci 0 3 (.ref q) = some (aB ci ((.ref q) :: l)) := sFx (by simp) ft3 rfl
theorem sB0l {ci : Nat} {v : Value} {l : List Value} {x : Int64} : sF (some (aB ci (v :: l))) ci 0 2 (.long x) = some (aB ci ((.long x) :: l)) := sFx (by simp) ft2 rfl
theorem sB0z {ci : Nat} {v : Value} {l : List Value} {p : Prop} [Decidable p] : sF (some (aB ci (v :: l))) ci 0 1 (.int (bI p)) = some (aB ci ((.int (bI p)) :: l)) := sFx (by simp) ft1 rfl
theorem sB1i {ci : Nat} {a0 v : Value} {l : List Value} {x : Int32} : sF (some (aB ci (a0 :: v :: l))) ci 1 0 (.int x) = some (aB ci (a0 :: (.int x) :: l)) := sFx (by simp) ft0 rfl
theorem sB1r {ci : Nat} {a0 v : Value} {l : List Value} {q : Nat} : sF (some (aB ci (a0 :: v :: l))) ci 1 3 (.ref q) = some (aB ci (a0 :: (.ref q) :: l)) := sFx (by simp) ft3 rfl
theorem sB1l {ci : Nat} {a0 v : Value} {l : List Value} {x : Int64} : sF (some (aB ci (a0 :: v :: l))) ci 1 2 (.long x) = some (aB ci (a0 :: (.long x) :: l)) := sFx (by simp) ft2 rfl
theorem sB1z {ci : Nat} {a0 v : Value} {l : List Value} {p : Prop} [Decidable p] : sF (some (aB ci (a0 :: v :: l))) ci 1 1 (.int (bI p)) = some (aB ci (a0 :: (.int (bI p)) :: l)) := sFx (by simp) ft1 rfl
theorem sB2i {ci : Nat} {a0 a1 v : Value} {l : List Value} {x : Int32} : sF (some (aB ci (a0 :: a1 :: v :: l))) ci 2 0 (.int x) = some (aB ci (a0 :: a1 :: (.int x) :: l)) := sFx (by simp) ft0 rfl
theorem sB2r {ci : Nat} {a0 a1 v : Value} {l : List Value} {q : Nat} : sF (some (aB ci (a0 :: a1 :: v :: l))) ci 2 3 (.ref q) = some (aB ci (a0 :: a1 :: (.ref q) :: l)) := sFx (by simp) ft3 rfl
theorem sB2l {ci : Nat} {a0 a1 v : Value} {l : List Value} {x : Int64} : sF (some (aB ci (a0 :: a1 :: v :: l))) ci 2 2 (.long x) = some (aB ci (a0 :: a1 :: (.long x) :: l)) := sFx (by simp) ft2 rfl
theorem sB2z {ci : Nat} {a0 a1 v : Value} {l : List Value} {p : Prop} [Decidable p] : sF (some (aB ci (a0 :: a1 :: v :: l))) ci 2 1 (.int (bI p)) = some (aB ci (a0 :: a1 :: (.int (bI p)) :: l)) := sFx (by simp) ft1 rfl
theorem sB3i {ci : Nat} {a0 a1 a2 v : Value} {l : List Value} {x : Int32} : sF (some (aB ci (a0 :: a1 :: a2 :: v :: l))) ci 3 0 (.int x) = some (aB ci (a0 :: a1 :: a2 :: (.int x) :: l)) := sFx (by simp) ft0 rfl
theorem sB3r {ci : Nat} {a0 a1 a2 v : Value} {l : List Value} {q : Nat} : sF (some (aB ci (a0 :: a1 :: a2 :: v :: l))) ci 3 3 (.ref q) = some (aB ci (a0 :: a1 :: a2 :: (.ref q) :: l)) := sFx (by simp) ft3 rfl
theorem sB3l {ci : Nat} {a0 a1 a2 v : Value} {l : List Value} {x : Int64} : sF (some (aB ci (a0 :: a1 :: a2 :: v :: l))) ci 3 2 (.long x) = some (aB ci (a0 :: a1 :: a2 :: (.long x) :: l)) := sFx (by simp) ft2 rfl
theorem sB3z {ci : Nat} {a0 a1 a2 v : Value} {l : List Value} {p : Prop} [Decidable p] : sF (some (aB ci (a0 :: a1 :: a2 :: v :: l))) ci 3 1 (.int (bI p)) = some (aB ci (a0 :: a1 :: a2 :: (.int (bI p)) :: l)) := sFx (by simp) ft1 rfl
theorem sB4i {ci : Nat} {a0 a1 a2 a3 v : Value} {l : List Value} {x : Int32} : sF (some (aB ci (a0 :: a1 :: a2 :: a3 :: v :: l))) ci 4 0 (.int x) = some (aB ci (a0 :: a1 :: a2 :: a3 :: (.int x) :: l)) := sFx (by simp) ft0 rfl
theorem sB4r {ci : Nat} {a0 a1 a2 a3 v : Value} {l : List Value} {q : Nat} : sF (some (aB ci (a0 :: a1 :: a2 :: a3 :: v :: l))) ci 4 3 (.ref q) = some (aB ci (a0 :: a1 :: a2 :: a3 :: (.ref q) :: l)) := sFx (by simp) ft3 rfl
theorem sB4l {ci : Nat} {a0 a1 a2 a3 v : Value} {l : List Value} {x : Int64} : sF (some (aB ci (a0 :: a1 :: a2 :: a3 :: v :: l))) ci 4 2 (.long x) = some (aB ci (a0 :: a1 :: a2 :: a3 :: (.long x) :: l)) := sFx (by simp) ft2 rfl
theorem sB4z {ci : Nat} {a0 a1 a2 a3 v : Value} {l : List Value} {p : Prop} [Decidable p] : sF (some (aB ci (a0 :: a1 :: a2 :: a3 :: v :: l))) ci 4 1 (.int (bI p)) = some (aB ci (a0 :: a1 :: a2 :: a3 :: (.int (bI p)) :: l)) := sFx (by simp) ft1 rfl
end
section
/-! ===== shifts, masks: by their numbers ===== -/
theorem lshl38 (a : Int) : lI a <<< ((iI 38).toInt64 &&& 63) = lI (a * 274877906944) := by
  rw [show (274877906944 : Int) = 2 ^ 38 from rfl]
  exact lshl a 38 (by decide)
theorem lshl24 (a : Int) : lI a <<< ((iI 24).toInt64 &&& 63) = lI (a * 16777216) := by
  rw [show (16777216 : Int) = 2 ^ 24 from rfl]
  exact lshl a 24 (by decide)
theorem lshl17 (a : Int) : lI a <<< ((iI 17).toInt64 &&& 63) = lI (a * 131072) := by
  rw [show (131072 : Int) = 2 ^ 17 from rfl]
  exact lshl a 17 (by decide)
theorem lshl7 (a : Int) : lI a <<< ((iI 7).toInt64 &&& 63) = lI (a * 128) := by
  rw [show (128 : Int) = 2 ^ 7 from rfl]
  exact lshl a 7 (by decide)
theorem lshl18 (a : Int) : lI a <<< ((iI 18).toInt64 &&& 63) = lI (a * 262144) := by
  rw [show (262144 : Int) = 2 ^ 18 from rfl]
  exact lshl a 18 (by decide)
theorem lshl14 (a : Int) : lI a <<< ((iI 14).toInt64 &&& 63) = lI (a * 16384) := by
  rw [show (16384 : Int) = 2 ^ 14 from rfl]
  exact lshl a 14 (by decide)
theorem lshl20 (a : Int) : lI a <<< ((iI 20).toInt64 &&& 63) = lI (a * 1048576) := by
  rw [show (1048576 : Int) = 2 ^ 20 from rfl]
  exact lshl a 20 (by decide)
theorem lshr38 {a : Int} (h1 : -9223372036854775808 ≤ a) (h2 : a < 9223372036854775808) : lI a >>> ((iI 38).toInt64 &&& 63) = lI (a / 274877906944) := by
  rw [show (274877906944 : Int) = 2 ^ 38 from rfl]
  exact lshr 38 (by decide) h1 h2
theorem lshr24 {a : Int} (h1 : -9223372036854775808 ≤ a) (h2 : a < 9223372036854775808) : lI a >>> ((iI 24).toInt64 &&& 63) = lI (a / 16777216) := by
  rw [show (16777216 : Int) = 2 ^ 24 from rfl]
  exact lshr 24 (by decide) h1 h2
theorem lshr17 {a : Int} (h1 : -9223372036854775808 ≤ a) (h2 : a < 9223372036854775808) : lI a >>> ((iI 17).toInt64 &&& 63) = lI (a / 131072) := by
  rw [show (131072 : Int) = 2 ^ 17 from rfl]
  exact lshr 17 (by decide) h1 h2
theorem lshr7 {a : Int} (h1 : -9223372036854775808 ≤ a) (h2 : a < 9223372036854775808) : lI a >>> ((iI 7).toInt64 &&& 63) = lI (a / 128) := by
  rw [show (128 : Int) = 2 ^ 7 from rfl]
  exact lshr 7 (by decide) h1 h2
theorem lshr18 {a : Int} (h1 : -9223372036854775808 ≤ a) (h2 : a < 9223372036854775808) : lI a >>> ((iI 18).toInt64 &&& 63) = lI (a / 262144) := by
  rw [show (262144 : Int) = 2 ^ 18 from rfl]
  exact lshr 18 (by decide) h1 h2
theorem lshr14 {a : Int} (h1 : -9223372036854775808 ≤ a) (h2 : a < 9223372036854775808) : lI a >>> ((iI 14).toInt64 &&& 63) = lI (a / 16384) := by
  rw [show (16384 : Int) = 2 ^ 14 from rfl]
  exact lshr 14 (by decide) h1 h2
theorem lshr20 {a : Int} (h1 : -9223372036854775808 ≤ a) (h2 : a < 9223372036854775808) : lI a >>> ((iI 20).toInt64 &&& 63) = lI (a / 1048576) := by
  rw [show (1048576 : Int) = 2 ^ 20 from rfl]
  exact lshr 20 (by decide) h1 h2
theorem lshr21 {a : Int} (h1 : -9223372036854775808 ≤ a) (h2 : a < 9223372036854775808) : lI a >>> ((iI 21).toInt64 &&& 63) = lI (a / 2097152) := by
  rw [show (2097152 : Int) = 2 ^ 21 from rfl]
  exact lshr 21 (by decide) h1 h2
theorem iand7 {a : Int} (h1 : 0 ≤ a) : iI a &&& iI 7 = iI (a % 8) := by
  rw [show (8 : Int) = 2 ^ 3 from rfl]
  exact iand 3 (by decide) h1
theorem iand16383 {a : Int} (h1 : 0 ≤ a) : iI a &&& iI 16383 = iI (a % 16384) := by
  rw [show (16384 : Int) = 2 ^ 14 from rfl]
  exact iand 14 (by decide) h1
theorem iand127 {a : Int} (h1 : 0 ≤ a) : iI a &&& iI 127 = iI (a % 128) := by
  rw [show (128 : Int) = 2 ^ 7 from rfl]
  exact iand 7 (by decide) h1
theorem iand1023 {a : Int} (h1 : 0 ≤ a) : iI a &&& iI 1023 = iI (a % 1024) := by
  rw [show (1024 : Int) = 2 ^ 10 from rfl]
  exact iand 10 (by decide) h1
theorem iand63 {a : Int} (h1 : 0 ≤ a) : iI a &&& iI 63 = iI (a % 64) := by
  rw [show (64 : Int) = 2 ^ 6 from rfl]
  exact iand 6 (by decide) h1
theorem iand1 {a : Int} (h1 : 0 ≤ a) : iI a &&& iI 1 = iI (a % 2) := by
  rw [show (2 : Int) = 2 ^ 1 from rfl]
  exact iand 1 (by decide) h1
theorem land127 {a : Int} (h1 : 0 ≤ a) : lI a &&& lI 127 = lI (a % 128) := by
  rw [show (128 : Int) = 2 ^ 7 from rfl]
  exact land 7 (by decide) h1
theorem land63 {a : Int} (h1 : 0 ≤ a) : lI a &&& lI 63 = lI (a % 64) := by
  rw [show (64 : Int) = 2 ^ 6 from rfl]
  exact land 6 (by decide) h1
theorem land1 {a : Int} (h1 : 0 ≤ a) : lI a &&& lI 1 = lI (a % 2) := by
  rw [show (2 : Int) = 2 ^ 1 from rfl]
  exact land 1 (by decide) h1
theorem lor38 {a b : Int} (h1 : 0 ≤ a) (h2 : 0 ≤ b) (h3 : b < 274877906944) (h4 : a < 33554432) : lI (a * 274877906944) ||| lI b = lI (a * 274877906944 + b) := by
  have h5 : a * 274877906944 + b < 9223372036854775808 := by omega
  rw [show (274877906944 : Int) = 2 ^ 38 from rfl] at h3 h5 ⊢
  exact lor 38 h1 h2 h3 h5
theorem lor24 {a b : Int} (h1 : 0 ≤ a) (h2 : 0 ≤ b) (h3 : b < 16777216) (h4 : a < 549755813888) : lI (a * 16777216) ||| lI b = lI (a * 16777216 + b) := by
  have h5 : a * 16777216 + b < 9223372036854775808 := by omega
  rw [show (16777216 : Int) = 2 ^ 24 from rfl] at h3 h5 ⊢
  exact lor 24 h1 h2 h3 h5
theorem lor17 {a b : Int} (h1 : 0 ≤ a) (h2 : 0 ≤ b) (h3 : b < 131072) (h4 : a < 70368744177664) : lI (a * 131072) ||| lI b = lI (a * 131072 + b) := by
  have h5 : a * 131072 + b < 9223372036854775808 := by omega
  rw [show (131072 : Int) = 2 ^ 17 from rfl] at h3 h5 ⊢
  exact lor 17 h1 h2 h3 h5
theorem lor7 {a b : Int} (h1 : 0 ≤ a) (h2 : 0 ≤ b) (h3 : b < 128) (h4 : a < 72057594037927936) : lI (a * 128) ||| lI b = lI (a * 128 + b) := by
  have h5 : a * 128 + b < 9223372036854775808 := by omega
  rw [show (128 : Int) = 2 ^ 7 from rfl] at h3 h5 ⊢
  exact lor 7 h1 h2 h3 h5
theorem lor18 {a b : Int} (h1 : 0 ≤ a) (h2 : 0 ≤ b) (h3 : b < 262144) (h4 : a < 35184372088832) : lI (a * 262144) ||| lI b = lI (a * 262144 + b) := by
  have h5 : a * 262144 + b < 9223372036854775808 := by omega
  rw [show (262144 : Int) = 2 ^ 18 from rfl] at h3 h5 ⊢
  exact lor 18 h1 h2 h3 h5
theorem lor14 {a b : Int} (h1 : 0 ≤ a) (h2 : 0 ≤ b) (h3 : b < 16384) (h4 : a < 562949953421312) : lI (a * 16384) ||| lI b = lI (a * 16384 + b) := by
  have h5 : a * 16384 + b < 9223372036854775808 := by omega
  rw [show (16384 : Int) = 2 ^ 14 from rfl] at h3 h5 ⊢
  exact lor 14 h1 h2 h3 h5
/-! a note as a number: track, beginning, pitch, length, force -/
def cO (t s p l f : Nat) : Nat := t * 274877906944 + s * 16777216 + p * 131072 + l * 128 + f
def cT (c : Nat) : Nat := c / 274877906944
def cS (c : Nat) : Nat := c / 16777216 % 16384
def cP (c : Nat) : Nat := c / 131072 % 128
def cL (c : Nat) : Nat := c / 128 % 1024
def cF (c : Nat) : Nat := c % 128
/-- eight tracks -/
def cOk (c : Nat) : Prop := c < 2199023255552
theorem cO_ok {t s p l f : Nat} (ht : t < 8) (hs : s < 16384) (hp : p < 128) (hl : l < 1024) (hf : f < 128) : cOk (cO t s p l f) := by unfold cOk cO; omega
theorem cT_O {t s p l f : Nat} (hs : s < 16384) (hp : p < 128) (hl : l < 1024) (hf : f < 128) : cT (cO t s p l f) = t := by unfold cT cO; omega
theorem cS_O {t s p l f : Nat} (hs : s < 16384) (hp : p < 128) (hl : l < 1024) (hf : f < 128) : cS (cO t s p l f) = s := by unfold cS cO; omega
theorem cP_O {t s p l f : Nat} (hp : p < 128) (hl : l < 1024) (hf : f < 128) : cP (cO t s p l f) = p := by unfold cP cO; omega
theorem cL_O {t s p l f : Nat} (hl : l < 1024) (hf : f < 128) : cL (cO t s p l f) = l := by unfold cL cO; omega
theorem cF_O {t s p l f : Nat} (hf : f < 128) : cF (cO t s p l f) = f := by unfold cF cO; omega
theorem cT_lt {c : Nat} (h : cOk c) : cT c < 8 := by unfold cOk at h; unfold cT; omega
theorem cS_lt (c : Nat) : cS c < 16384 := by unfold cS; omega
theorem cP_lt (c : Nat) : cP c < 128 := by unfold cP; omega
theorem cL_lt (c : Nat) : cL c < 1024 := by unfold cL; omega
theorem cF_lt (c : Nat) : cF c < 128 := by unfold cF; omega
theorem cO_eta (c : Nat) : cO (cT c) (cS c) (cP c) (cL c) (cF c) = c := by unfold cO cT cS cP cL cF; omega
/-- the numbers' order is the notes' order -/
theorem cO_lt {t s p l f t' s' p' l' f' : Nat} (hs : s < 16384) (hp : p < 128) (hl : l < 1024) (hf : f < 128) (hs' : s' < 16384) (hp' : p' < 128) (hl' : l' < 1024) (hf' : f' < 128) :
    cO t s p l f < cO t' s' p' l' f' ↔ t < t' ∨ t = t' ∧ (s < s' ∨ s = s' ∧ (p < p' ∨ p = p' ∧ (l < l' ∨ l = l' ∧ f < f'))) := by
  unfold cO; omega
end
