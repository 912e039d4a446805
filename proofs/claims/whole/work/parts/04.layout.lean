/-! Printed by gen_layout.py: the shape of each cell, the kinds of fields, the methods, the words. -/
abbrev Sh : Type := (Nat × Nat) ⊕ Nat
def shL : List Sh := [.inr 10, .inl (1, 400), .inr 6, .inl (0, 4), .inr 3, .inl (0, 10), .inl (0, 10), .inl (0, 10), .inl (0, 8), .inl (0, 8), .inl (0, 8), .inl (0, 8), .inr 5, .inl (0, 10), .inl (0, 10), .inl (0, 100), .inl (0, 8), .inl (0, 8), .inr 3, .inl (0, 10), .inl (0, 10), .inl (0, 10), .inl (0, 8), .inl (0, 8), .inl (0, 8), .inl (0, 8), .inr 5, .inl (0, 10), .inl (0, 10), .inl (0, 100), .inl (0, 8), .inl (0, 8), .inr 4, .inl (0, 10), .inl (0, 80), .inr 4, .inl (0, 10), .inl (0, 80), .inr 4, .inl (0, 10), .inl (0, 80), .inl (0, 10), .inr 2, .inl (0, 10), .inl (0, 8), .inl (0, 80), .inl (0, 9), .inl (0, 8), .inr 0, .inl (0, 1024), .inr 1, .inl (0, 72), .inl (0, 45), .inr 9, .inr 1, .inl (0, 72), .inl (0, 80), .inl (0, 80), .inl (2, 240), .inr 7, .inl (0, 1024), .inl (0, 1024), .inl (0, 1024), .inl (0, 1024), .inr 8, .inl (0, 32), .inl (0, 32), .inl (0, 32), .inl (0, 3300), .inl (0, 32), .inr 11, .inl (0, 400), .inl (0, 2), .inl (0, 20), .inl (0, 20), .inl (0, 2), .inl (0, 16), .inl (0, 16), .inl (0, 16), .inl (0, 16), .inl (0, 16), .inl (0, 2), .inl (0, 20), .inl (0, 20), .inl (0, 2), .inl (0, 20), .inl (0, 200), .inl (0, 10), .inl (0, 240), .inl (0, 3), .inl (0, 30), .inl (0, 10), .inl (0, 4), .inl (0, 10), .inl (0, 8), .inl (0, 8), .inl (0, 8), .inl (0, 10), .inl (0, 80), .inl (0, 8100), .inl (0, 8100), .inl (0, 1024), .inl (0, 1024), .inl (0, 1024), .inl (0, 80), .inl (0, 10)]
def shp (k : Nat) : Sh := shL.getD k (.inl (9, 0))
def fkL : List (List Nat) := [[2, 2, 2, 0], [2, 0, 2], [2, 0, 0, 2, 2, 2, 2, 2, 0], [0, 0, 0, 2, 2, 2, 2, 2, 2, 2, 0, 2, 2, 0, 0, 0, 0, 2, 2], [0, 2, 2], [0, 0, 2, 2], [2, 0], [2, 2, 2, 2, 0, 0, 0], [2, 2, 2, 0, 2, 2, 0, 0, 0], [2, 2, 2, 0, 2, 0, 0, 0, 0, 0], [2, 0, 2, 2, 2, 2, 2, 2, 0, 2, 2, 2, 2, 2, 2], [0, 2, 2, 2, 2, 2, 2, 2, 2, 2, 2, 2, 2, 2, 2, 2, 2, 2, 2, 2, 2, 2, 0, 0, 2, 2, 2, 2, 2, 2, 1, 0, 0, 2, 2, 2, 2, 2, 2, 0, 2, 2]]
def fk (ci : Nat) : List Nat := fkL.getD ci []
def RSL : List (List (Option Nat)) := [[some 1, none, some 2, none, none, some 32, some 35, some 38, none, some 41, some 42, some 48, some 53, some 59, some 64], [], [some 3, none], [], [none, none, none, some 5, some 6, some 7, some 8, some 9, some 10, some 11, none, some 12, some 15, none, none, none, none, some 16, some 17], [], [], [], [], [], [], [], [none, none, some 13, some 14], [], [], [], [], [], [none, none, none, some 19, some 20, some 21, some 22, some 23, some 24, some 25, none, some 26, some 29, none, none, none, none, some 30, some 31], [], [], [], [], [], [], [], [none, none, some 27, some 28], [], [], [], [], [], [none, some 33, some 34], [], [], [none, some 36, some 37], [], [], [none, some 39, some 40], [], [], [], [none, none, none, some 43, some 44, some 45, some 46, some 47, none], [], [], [], [], [], [some 49, some 50, some 52, none], [], [none, none, some 51], [], [], [some 54, some 56, some 57, none, some 58, none, none, none, none, none], [none, none, some 55], [], [], [], [], [some 60, some 61, some 62, some 63, none, none, none], [], [], [], [], [some 65, some 66, some 67, none, some 68, some 69, none, none, none], [], [], [], [], [], [none, some 71, some 72, some 73, some 74, some 75, some 76, some 77, some 78, some 79, some 80, some 81, some 82, some 83, some 84, some 85, some 86, some 87, some 88, some 89, some 90, some 91, none, none, some 92, some 93, some 94, some 95, some 96, some 97, none, none, none, some 98, some 99, some 100, some 101, some 102, some 103, none, some 104, some 105], [], [], [], [], [], [], [], [], [], [], [], [], [], [], [], [], [], [], [], [], [], [], [], [], [], [], [], [], [], [], [], [], [], [], []]
def RS (k s : Nat) : Option Nat := (RSL.getD k []).getD s none
def RR (co dr : Nat) (cc a1 a2 : Option Nat) : Nat → Nat → Option Nat := fun k s => if k = 0 ∧ s = 3 then some co else if k = 0 ∧ s = 4 then some dr else if k = 42 ∧ s = 0 then cc else if k = 50 ∧ s = 0 then a1 else if k = 54 ∧ s = 0 then a2 else RS k s
abbrev NC : Nat := 106
theorem in_of {big : List Cond} {ws : List Cond} (ps : List Nat) (hp : ws = ps.filterMap (fun i => big[i]?)) : ∀ w ∈ ws, w ∈ big := by
  intro w hw
  rw [hp] at hw
  obtain ⟨i, -, hi⟩ := List.mem_filterMap.mp hw
  exact List.mem_of_getElem? hi
theorem wl_0 : ∀ w ∈ ([.fieldLink RX6 9 "OnByThursday$Reader" "numbers" "[I", .fieldLink RX6 24 "OnByThursday$Reader" "numberCount" "I", .fieldLink RX5 18 "OnByThursday$Plot" "scenes" "I", .fieldLink RX3 117 "OnByThursday$Plot" "scenes" "I", .fieldLink RX10 314 "OnByThursday$Plot" "scenes" "I", .fieldLink RX5 22 "OnByThursday$Plot" "change" "I", .fieldLink RX3 133 "OnByThursday$Plot" "change" "I", .fieldLink RX5 9 "OnByThursday$Plot" "onStage" "[I", .fieldLink RX5 15 "OnByThursday$Plot" "minutes" "[I", .fieldLink RX3 49 "OnByThursday$Company" "players" "I", .fieldLink RX8 42 "OnByThursday$Company" "players" "I", .fieldLink RX7 42 "OnByThursday$Company" "players" "I", .fieldLink RX9 64 "OnByThursday$Company" "players" "I", .fieldLink RX0 55 "OnByThursday$Company" "players" "I", .fieldLink RX10 110 "OnByThursday$Company" "players" "I", .fieldLink RX2 67 "OnByThursday$Company" "players" "I", .fieldLink RX1 46 "OnByThursday$Company" "players" "I", .fieldLink RX3 53 "OnByThursday$Company" "parts" "I", .fieldLink RX1 19 "OnByThursday$Company" "parts" "I", .fieldLink RX8 47 "OnByThursday$Company" "parts" "I", .fieldLink RX0 39 "OnByThursday$Company" "parts" "I", .fieldLink RX9 69 "OnByThursday$Company" "parts" "I", .fieldLink RX2 64 "OnByThursday$Company" "parts" "I", .fieldLink RX10 113 "OnByThursday$Company" "parts" "I"] : List Cond), w ∈ lw_tbl := in_of [97, 98, 118, 119, 120, 121, 122, 123, 124, 134, 135, 136, 137, 138, 139, 140, 141, 142, 143, 144, 145, 146, 147, 148] (by decide +kernel)
theorem wl_1 : ∀ w ∈ ([.fieldLink RX4 65 "OnByThursday$Company" "parts" "I", .fieldLink RX3 56 "OnByThursday$Company" "covers" "I", .fieldLink RX10 317 "OnByThursday$Company" "covers" "I", .fieldLink RX3 9 "OnByThursday$Company" "height" "[I", .fieldLink RX10 135 "OnByThursday$Company" "height" "[I", .fieldLink RX2 97 "OnByThursday$Company" "height" "[I", .fieldLink RX3 15 "OnByThursday$Company" "skills" "[I", .fieldLink RX10 138 "OnByThursday$Company" "skills" "[I", .fieldLink RX3 18 "OnByThursday$Company" "known" "[I", .fieldLink RX10 145 "OnByThursday$Company" "known" "[I", .fieldLink RX3 21 "OnByThursday$Company" "size" "[I", .fieldLink RX2 100 "OnByThursday$Company" "size" "[I", .fieldLink RX10 154 "OnByThursday$Company" "size" "[I", .fieldLink RX3 24 "OnByThursday$Company" "wanted" "[I", .fieldLink RX10 157 "OnByThursday$Company" "wanted" "[I", .fieldLink RX3 27 "OnByThursday$Company" "length" "[I", .fieldLink RX4 45 "OnByThursday$Company" "length" "[I", .fieldLink RX10 160 "OnByThursday$Company" "length" "[I", .fieldLink RX3 30 "OnByThursday$Company" "owner" "[I", .fieldLink RX2 91 "OnByThursday$Company" "owner" "[I", .fieldLink RX10 175 "OnByThursday$Company" "owner" "[I", .fieldLink RX3 59 "OnByThursday$Company" "cuttable" "I", .fieldLink RX0 45 "OnByThursday$Company" "cuttable" "I", .fieldLink RX10 163 "OnByThursday$Company" "cuttable" "I"] : List Cond), w ∈ lw_tbl := in_of [149, 150, 151, 152, 153, 154, 155, 156, 157, 158, 159, 160, 161, 162, 163, 164, 165, 166, 167, 168, 169, 170, 171, 172] (by decide +kernel)
theorem wl_2 : ∀ w ∈ ([.fieldLink RX3 36 "OnByThursday$Company" "plot" "LOnByThursday$Plot;", .fieldLink RX10 166 "OnByThursday$Company" "plot" "LOnByThursday$Plot;", .fieldLink RX3 40 "OnByThursday$Company" "contagion" "[I", .fieldLink RX7 75 "OnByThursday$Company" "contagion" "[I", .fieldLink RX3 71 "OnByThursday$Company" "tailor" "I", .fieldLink RX2 94 "OnByThursday$Company" "tailor" "I", .fieldLink RX3 74 "OnByThursday$Company" "forgetting" "I", .fieldLink RX4 34 "OnByThursday$Company" "forgetting" "I", .fieldLink RX3 77 "OnByThursday$Company" "payNight" "I", .fieldLink RX4 59 "OnByThursday$Company" "payNight" "I", .fieldLink RX3 80 "OnByThursday$Company" "payLines" "I", .fieldLink RX4 62 "OnByThursday$Company" "payLines" "I", .fieldLink RX3 43 "OnByThursday$Company" "able" "[I", .fieldLink RX1 28 "OnByThursday$Company" "able" "[I", .fieldLink RX2 44 "OnByThursday$Company" "able" "[I", .fieldLink RX3 46 "OnByThursday$Company" "clash" "[I", .fieldLink RX1 31 "OnByThursday$Company" "clash" "[I", .fieldLink RX2 53 "OnByThursday$Company" "clash" "[I", .fieldLink RX9 90 "OnByThursday$Company" "clash" "[I", .fieldLink RX10 178 "OnByThursday$Company" "clash" "[I", .fieldLink RX4 18 "OnByThursday$Diary" "today" "I", .fieldLink RX10 249 "OnByThursday$Diary" "today" "I", .fieldLink RX4 9 "OnByThursday$Diary" "owing" "[I", .fieldLink RX10 302 "OnByThursday$Diary" "owing" "[I"] : List Cond), w ∈ lw_tbl := in_of [173, 174, 175, 176, 177, 178, 179, 180, 181, 182, 183, 184, 185, 186, 187, 188, 189, 190, 191, 192, 238, 239, 240, 241] (by decide +kernel)
theorem wl_3 : ∀ w ∈ ([.fieldLink RX4 15 "OnByThursday$Diary" "said" "[I", .fieldLink RX2 27 "OnByThursday$Caster" "company" "LOnByThursday$Company;", .fieldLink RX2 31 "OnByThursday$Caster" "off" "I", .fieldLink RX2 35 "OnByThursday$Caster" "cut" "I", .fieldLink RX2 9 "OnByThursday$Caster" "taken" "[I", .fieldLink RX2 15 "OnByThursday$Caster" "chosen" "[I", .fieldLink RX2 18 "OnByThursday$Caster" "trouble" "[I", .fieldLink RX2 21 "OnByThursday$Caster" "floor" "[I", .fieldLink RX2 24 "OnByThursday$Caster" "best" "[I", .fieldLink RX10 209 "OnByThursday$Caster" "best" "[I", .fieldLink RX2 74 "OnByThursday$Caster" "bestTrouble" "I", .fieldLink RX10 198 "OnByThursday$Caster" "bestTrouble" "I", .fieldLink RX1 15 "OnByThursday$Attempt" "company" "LOnByThursday$Company;", .fieldLink RX1 25 "OnByThursday$Attempt" "open" "I", .fieldLink RX1 9 "OnByThursday$Attempt" "left" "[I", .fieldLink RX0 9 "OnByThursday$Absences" "answers" "[I", .fieldLink RX0 18 "OnByThursday$Absences" "attempt" "LOnByThursday$Attempt;", .fieldLink RX0 22 "OnByThursday$Absences" "weakSets" "[I", .fieldLink RX9 57 "OnByThursday$Absences" "weakSets" "[I", .fieldLink RX10 277 "OnByThursday$Absences" "weakSets" "[I", .fieldLink RX9 54 "OnByThursday$Absences" "weakCount" "I", .fieldLink RX0 52 "OnByThursday$Absences" "weakCount" "I", .fieldLink RX10 274 "OnByThursday$Absences" "weakCount" "I", .fieldLink RX9 12 "OnByThursday$Understudies" "attempt" "LOnByThursday$Attempt;"] : List Cond), w ∈ lw_tbl := in_of [242, 256, 257, 258, 259, 260, 261, 262, 263, 264, 265, 266, 298, 299, 300, 308, 309, 310, 311, 312, 313, 314, 315, 333] (by decide +kernel)
theorem wl_4 : ∀ w ∈ ([.fieldLink RX9 18 "OnByThursday$Understudies" "coverPlayer" "[I", .fieldLink RX9 22 "OnByThursday$Understudies" "coverPart" "[I", .fieldLink RX9 51 "OnByThursday$Understudies" "covers" "I", .fieldLink RX9 25 "OnByThursday$Understudies" "helped" "[J", .fieldLink RX9 29 "OnByThursday$Understudies" "surveyedSizes" "I", .fieldLink RX9 33 "OnByThursday$Understudies" "twoAsked" "Z", .fieldLink RX9 105 "OnByThursday$Understudies" "twoEnough" "Z", .fieldLink RX9 93 "OnByThursday$Understudies" "bestCover" "I", .fieldLink RX10 287 "OnByThursday$Understudies" "bestCover" "I", .fieldLink RX9 102 "OnByThursday$Understudies" "stillWeak" "I", .fieldLink RX10 290 "OnByThursday$Understudies" "stillWeak" "I", .fieldLink RX7 9 "OnByThursday$Sickness" "times" "[I", .fieldLink RX10 264 "OnByThursday$Sickness" "times" "[I", .fieldLink RX7 15 "OnByThursday$Sickness" "nextTimes" "[I", .fieldLink RX7 18 "OnByThursday$Sickness" "branchSet" "[I", .fieldLink RX7 21 "OnByThursday$Sickness" "branchTimes" "[I", .fieldLink RX7 60 "OnByThursday$Sickness" "branches" "I", .fieldLink RX7 24 "OnByThursday$Sickness" "start" "I", .fieldLink RX7 28 "OnByThursday$Sickness" "day" "I", .fieldLink RX8 11 "OnByThursday$Timetable" "pair" "[I", .fieldLink RX8 15 "OnByThursday$Timetable" "pairHours" "[I", .fieldLink RX8 18 "OnByThursday$Timetable" "pairLines" "[I", .fieldLink RX8 38 "OnByThursday$Timetable" "pairs" "I", .fieldLink RX8 21 "OnByThursday$Timetable" "worth" "[I"] : List Cond), w ∈ lw_tbl := in_of [334, 335, 336, 337, 338, 339, 340, 341, 342, 343, 344, 373, 374, 375, 376, 377, 378, 379, 380, 402, 403, 404, 405, 406] (by decide +kernel)
theorem wl_5 : ∀ w ∈ ([.fieldLink RX8 24 "OnByThursday$Timetable" "chosen" "[I", .fieldLink RX10 246 "OnByThursday$Timetable" "chosen" "[I", .fieldLink RX8 79 "OnByThursday$Timetable" "chosenCount" "I", .fieldLink RX10 243 "OnByThursday$Timetable" "chosenCount" "I", .fieldLink RX8 82 "OnByThursday$Timetable" "linesMore" "I", .fieldLink RX10 237 "OnByThursday$Timetable" "linesMore" "I", .fieldLink RX8 85 "OnByThursday$Timetable" "hoursTaken" "I", .fieldLink RX10 240 "OnByThursday$Timetable" "hoursTaken" "I", .fieldLink RX10 9 "OnByThursday" "text" "[B", .fieldLink RX10 102 "OnByThursday" "textLength" "I", .fieldLink RX10 16 "OnByThursday" "reader" "LOnByThursday$Reader;", .fieldLink RX10 23 "OnByThursday" "company" "LOnByThursday$Company;", .fieldLink RX10 27 "OnByThursday" "draft" "LOnByThursday$Company;", .fieldLink RX10 33 "OnByThursday" "diary" "LOnByThursday$Diary;", .fieldLink RX10 37 "OnByThursday" "firstKept" "LOnByThursday$Diary;", .fieldLink RX10 40 "OnByThursday" "secondKept" "LOnByThursday$Diary;", .fieldLink RX10 117 "OnByThursday" "keptCount" "I", .fieldLink RX10 43 "OnByThursday" "toldSums" "[I", .fieldLink RX10 50 "OnByThursday" "caster" "LOnByThursday$Caster;", .fieldLink RX10 57 "OnByThursday" "absences" "LOnByThursday$Absences;", .fieldLink RX10 64 "OnByThursday" "understudies" "LOnByThursday$Understudies;", .fieldLink RX10 71 "OnByThursday" "sickness" "LOnByThursday$Sickness;", .fieldLink RX10 78 "OnByThursday" "timetable" "LOnByThursday$Timetable;", .fieldLink RX11 128 "OnByThursdayModel" "length" "I"] : List Cond), w ∈ lw_tbl := in_of [407, 408, 409, 410, 411, 412, 413, 414, 504, 505, 506, 507, 508, 509, 510, 511, 512, 513, 514, 515, 516, 517, 518, 1008] (by decide +kernel)
theorem wl_6 : ∀ w ∈ ([.fieldLink RX11 7 "OnByThursdayModel" "text" "[I", .fieldLink RX11 13 "OnByThursdayModel" "playerMany" "[I", .fieldLink RX11 16 "OnByThursdayModel" "heights" "[I", .fieldLink RX11 19 "OnByThursdayModel" "skills" "[I", .fieldLink RX11 22 "OnByThursdayModel" "partMany" "[I", .fieldLink RX11 25 "OnByThursdayModel" "sizes" "[I", .fieldLink RX11 28 "OnByThursdayModel" "wants" "[I", .fieldLink RX11 31 "OnByThursdayModel" "linesOf" "[I", .fieldLink RX11 34 "OnByThursdayModel" "mayCut" "[I", .fieldLink RX11 37 "OnByThursdayModel" "owners" "[I", .fieldLink RX11 40 "OnByThursdayModel" "sceneMany" "[I", .fieldLink RX11 43 "OnByThursdayModel" "scenes" "[I", .fieldLink RX11 46 "OnByThursdayModel" "minutes" "[I", .fieldLink RX11 49 "OnByThursdayModel" "coverMany" "[I", .fieldLink RX11 52 "OnByThursdayModel" "knows" "[I", .fieldLink RX11 55 "OnByThursdayModel" "colds" "[I", .fieldLink RX11 58 "OnByThursdayModel" "numbers" "[I", .fieldLink RX11 61 "OnByThursdayModel" "said" "[I", .fieldLink RX11 64 "OnByThursdayModel" "todays" "[I", .fieldLink RX11 67 "OnByThursdayModel" "oweds" "[I", .fieldLink RX11 70 "OnByThursdayModel" "tolds" "[I", .fieldLink RX11 180 "OnByThursdayModel" "keptMany" "I", .fieldLink RX11 134 "OnByThursdayModel" "place" "I", .fieldLink RX11 73 "OnByThursdayModel" "told" "[I"] : List Cond), w ∈ lw_tbl := in_of [1009, 1010, 1011, 1012, 1013, 1014, 1015, 1016, 1017, 1018, 1019, 1020, 1021, 1022, 1023, 1024, 1025, 1026, 1027, 1028, 1029, 1030, 1031, 1032] (by decide +kernel)
theorem wl_7 : ∀ w ∈ ([.fieldLink RX11 76 "OnByThursdayModel" "mays" "[I", .fieldLink RX11 79 "OnByThursdayModel" "withs" "[I", .fieldLink RX11 82 "OnByThursdayModel" "pile" "[I", .fieldLink RX11 85 "OnByThursdayModel" "best" "[I", .fieldLink RX11 88 "OnByThursdayModel" "haves" "[I", .fieldLink RX11 212 "OnByThursdayModel" "castings" "J", .fieldLink RX11 216 "OnByThursdayModel" "leastTrouble" "I", .fieldLink RX11 247 "OnByThursdayModel" "pairMany" "I", .fieldLink RX11 91 "OnByThursdayModel" "pairs" "[I", .fieldLink RX11 94 "OnByThursdayModel" "gains" "[I", .fieldLink RX11 97 "OnByThursdayModel" "spent" "[I", .fieldLink RX11 100 "OnByThursdayModel" "here" "[I", .fieldLink RX11 103 "OnByThursdayModel" "next" "[I", .fieldLink RX11 106 "OnByThursdayModel" "split" "[I", .fieldLink RX11 282 "OnByThursdayModel" "firstWeak" "I", .fieldLink RX11 109 "OnByThursdayModel" "oldSaid" "[I", .fieldLink RX11 112 "OnByThursdayModel" "oldOwed" "[I", .code yJ6_bitCount_0f7a4 cJ6_bitCount_0f7a4 1 (some .int), .initialized RJ6, .static yJ6_bitCount_0f7a4, .code yJ7_fill_53178 cJ7_fill_53178 4 none, .initialized RJ7, .static yJ7_fill_53178, .code yJ7_fill_fda19 cJ7_fill_fda19 5 none] : List Cond), w ∈ lw_tbl := in_of [1033, 1034, 1035, 1036, 1037, 1038, 1039, 1040, 1041, 1042, 1043, 1044, 1045, 1046, 1047, 1048, 1049, 754, 81, 753, 440, 77, 439, 803] (by decide +kernel)
theorem wl_8 : ∀ w ∈ ([.initialized RJ7, .static yJ7_fill_fda19, .code yJ7_rangeCheck_23922 cJ7_rangeCheck_23922 3 none, .initialized RJ7, .static yJ7_rangeCheck_23922, .code yJ13_bitCount_95d88 cJ13_bitCount_95d88 2 (some .int), .initialized RJ13, .static yJ13_bitCount_95d88, .code yX0_cheapestCut cX0_cheapestCut 7 (some .int), .initialized RX0, .instanceMethod yX0_cheapestCut, .selects RX0 yX0_cheapestCut yX0_cheapestCut, .code yX0_findWeak cX0_findWeak 4 none, .initialized RX0, .instanceMethod yX0_findWeak, .selects RX0 yX0_findWeak yX0_findWeak, .code yX0_forget cX0_forget 1 none, .initialized RX0, .instanceMethod yX0_forget, .selects RX0 yX0_forget yX0_forget, .code yX0_init cX0_init 1 none, .initialized RX0, .instanceMethod yX0_init, .code yX0_isMet cX0_isMet 3 (some .boolean)] : List Cond), w ∈ lw_tbl := in_of [77, 802, 806, 77, 805, 908, 82, 907, 732, 72, 730, 731, 873, 72, 871, 872, 494, 72, 492, 493, 290, 72, 289, 857] (by decide +kernel)
theorem wl_9 : ∀ w ∈ ([.initialized RX0, .instanceMethod yX0_isMet, .selects RX0 yX0_isMet yX0_isMet, .code yX1_begin cX1_begin 5 none, .initialized RX1, .instanceMethod yX1_begin, .selects RX1 yX1_begin yX1_begin, .code yX1_canFill cX1_canFill 7 (some .boolean), .initialized RX1, .static yX1_canFill, .code yX1_give cX1_give 4 none, .initialized RX1, .instanceMethod yX1_give, .selects RX1 yX1_give yX1_give, .code yX1_init cX1_init 1 none, .initialized RX1, .instanceMethod yX1_init, .code yX1_scarcest cX1_scarcest 7 (some .int), .initialized RX1, .instanceMethod yX1_scarcest, .selects RX1 yX1_scarcest yX1_scarcest, .code yX1_strike cX1_strike 8 (some .boolean), .initialized RX1, .instanceMethod yX1_strike] : List Cond), w ∈ lw_tbl := in_of [72, 855, 856, 740, 73, 738, 739, 747, 73, 746, 900, 73, 898, 899, 296, 73, 295, 751, 73, 750, 12, 762, 73, 761] (by decide +kernel)
theorem wl_10 : ∀ w ∈ ([.selects RX1 yX1_strike yX1_strike, .code yX1_succeeds cX1_succeeds 1 (some .boolean), .initialized RX1, .instanceMethod yX1_succeeds, .selects RX1 yX1_succeeds yX1_succeeds, .code yX2_begin cX2_begin 4 none, .initialized RX2, .instanceMethod yX2_begin, .selects RX2 yX2_begin yX2_begin, .code yX2_countCastings cX2_countCastings 4 (some .long), .initialized RX2, .instanceMethod yX2_countCastings, .selects RX2 yX2_countCastings yX2_countCastings, .code yX2_countFrom cX2_countFrom 5 (some .long), .initialized RX2, .static yX2_countFrom, .code yX2_findLeast cX2_findLeast 6 (some .boolean), .initialized RX2, .instanceMethod yX2_findLeast, .selects RX2 yX2_findLeast yX2_findLeast, .code yX2_forgottenLines cX2_forgottenLines 4 (some .int), .initialized RX2, .instanceMethod yX2_forgottenLines, .selects RX2 yX2_forgottenLines yX2_forgottenLines] : List Cond), w ∈ lw_tbl := in_of [13, 744, 73, 742, 743, 671, 71, 670, 9, 667, 71, 665, 666, 675, 71, 674, 688, 71, 686, 687, 724, 71, 722, 723] (by decide +kernel)
theorem wl_11 : ∀ w ∈ ([.code yX2_improveFrom cX2_improveFrom 4 none, .initialized RX2, .static yX2_improveFrom, .code yX2_init cX2_init 1 none, .initialized RX2, .instanceMethod yX2_init, .code yX2_isFree cX2_isFree 3 (some .boolean), .initialized RX2, .instanceMethod yX2_isFree, .selects RX2 yX2_isFree yX2_isFree, .code yX2_partsNotByOwners cX2_partsNotByOwners 3 (some .int), .initialized RX2, .instanceMethod yX2_partsNotByOwners, .selects RX2 yX2_partsNotByOwners yX2_partsNotByOwners, .code yX2_partsPlayedBy cX2_partsPlayedBy 4 (some .int), .initialized RX2, .instanceMethod yX2_partsPlayedBy, .selects RX2 yX2_partsPlayedBy yX2_partsPlayedBy, .code yX2_weigh cX2_weigh 6 (some .int), .initialized RX2, .instanceMethod yX2_weigh, .selects RX2 yX2_weigh yX2_weigh, .code yX3_addCover cX3_addCover 3 (some .boolean), .initialized RX3] : List Cond), w ∈ lw_tbl := in_of [713, 71, 712, 254, 71, 253, 680, 71, 679, 10, 720, 71, 718, 719, 935, 71, 933, 934, 693, 71, 692, 11, 599, 68] (by decide +kernel)
theorem wl_12 : ∀ w ∈ ([.instanceMethod yX3_addCover, .selects RX3 yX3_addCover yX3_addCover, .code yX3_addPart cX3_addPart 5 (some .boolean), .initialized RX3, .instanceMethod yX3_addPart, .selects RX3 yX3_addPart yX3_addPart, .code yX3_addPlayer cX3_addPlayer 3 (some .boolean), .initialized RX3, .instanceMethod yX3_addPlayer, .selects RX3 yX3_addPlayer yX3_addPlayer, .code yX3_clear cX3_clear 1 none, .initialized RX3, .instanceMethod yX3_clear, .selects RX3 yX3_clear yX3_clear, .code yX3_giveOwn cX3_giveOwn 3 (some .boolean), .initialized RX3, .instanceMethod yX3_giveOwn, .selects RX3 yX3_giveOwn yX3_giveOwn, .code yX3_hasPart cX3_hasPart 2 (some .boolean), .initialized RX3, .instanceMethod yX3_hasPart, .selects RX3 yX3_hasPart yX3_hasPart, .code yX3_hasParts cX3_hasParts 2 (some .boolean), .initialized RX3] : List Cond), w ∈ lw_tbl := in_of [598, 3, 452, 68, 450, 451, 448, 68, 446, 447, 437, 68, 435, 436, 456, 68, 454, 455, 464, 68, 462, 463, 590, 68] (by decide +kernel)
theorem wl_13 : ∀ w ∈ ([.instanceMethod yX3_hasParts, .selects RX3 yX3_hasParts yX3_hasParts, .code yX3_hasPlayer cX3_hasPlayer 2 (some .boolean), .initialized RX3, .instanceMethod yX3_hasPlayer, .selects RX3 yX3_hasPlayer yX3_hasPlayer, .code yX3_hasPlayers cX3_hasPlayers 2 (some .boolean), .initialized RX3, .instanceMethod yX3_hasPlayers, .selects RX3 yX3_hasPlayers yX3_hasPlayers, .code yX3_hours cX3_hours 2 (some .int), .initialized RX3, .instanceMethod yX3_hours, .selects RX3 yX3_hours yX3_hours, .code yX3_init cX3_init 1 none, .initialized RX3, .instanceMethod yX3_init, .code yX3_isSkilled cX3_isSkilled 3 (some .boolean), .initialized RX3, .instanceMethod yX3_isSkilled, .selects RX3 yX3_isSkilled yX3_isSkilled, .code yX3_linesTogether cX3_linesTogether 4 (some .int), .initialized RX3, .instanceMethod yX3_linesTogether] : List Cond), w ∈ lw_tbl := in_of [588, 589, 460, 68, 458, 459, 662, 68, 660, 661, 781, 68, 779, 780, 110, 68, 109, 475, 68, 473, 474, 736, 68, 734] (by decide +kernel)
theorem wl_14 : ∀ w ∈ ([.selects RX3 yX3_linesTogether yX3_linesTogether, .code yX3_mayPlay cX3_mayPlay 3 (some .boolean), .initialized RX3, .instanceMethod yX3_mayPlay, .selects RX3 yX3_mayPlay yX3_mayPlay, .code yX3_ownParts cX3_ownParts 4 (some .int), .initialized RX3, .instanceMethod yX3_ownParts, .selects RX3 yX3_ownParts yX3_ownParts, .code yX3_playable cX3_playable 4 (some .int), .initialized RX3, .instanceMethod yX3_playable, .selects RX3 yX3_playable yX3_playable, .code yX3_setChange cX3_setChange 2 (some .boolean), .initialized RX3, .instanceMethod yX3_setChange, .selects RX3 yX3_setChange yX3_setChange, .code yX3_setContagion cX3_setContagion 4 (some .boolean), .initialized RX3, .instanceMethod yX3_setContagion, .selects RX3 yX3_setContagion yX3_setContagion, .code yX3_setForgetting cX3_setForgetting 2 (some .boolean), .initialized RX3, .instanceMethod yX3_setForgetting] : List Cond), w ∈ lw_tbl := in_of [735, 640, 68, 638, 639, 632, 68, 630, 631, 636, 68, 634, 635, 607, 68, 606, 5, 603, 68, 602, 4, 615, 68, 614] (by decide +kernel)
theorem wl_15 : ∀ w ∈ ([.selects RX3 yX3_setForgetting yX3_setForgetting, .code yX3_setPay cX3_setPay 3 (some .boolean), .initialized RX3, .instanceMethod yX3_setPay, .selects RX3 yX3_setPay yX3_setPay, .code yX3_setTailor cX3_setTailor 2 (some .boolean), .initialized RX3, .instanceMethod yX3_setTailor, .selects RX3 yX3_setTailor yX3_setTailor, .code yX3_settle cX3_settle 3 none, .initialized RX3, .instanceMethod yX3_settle, .selects RX3 yX3_settle yX3_settle, .code yX3_take cX3_take 8 (some .boolean), .initialized RX3, .instanceMethod yX3_take, .selects RX3 yX3_take yX3_take, .code yX3_tellScene cX3_tellScene 3 (some .boolean), .initialized RX3, .instanceMethod yX3_tellScene, .selects RX3 yX3_tellScene yX3_tellScene, .code yX4_clear cX4_clear 1 none, .initialized RX4, .instanceMethod yX4_clear] : List Cond), w ∈ lw_tbl := in_of [7, 619, 68, 618, 8, 611, 68, 610, 6, 468, 68, 466, 467, 580, 68, 578, 579, 586, 68, 585, 2, 488, 70, 486] (by decide +kernel)
theorem wl_16 : ∀ w ∈ ([.selects RX4 yX4_clear yX4_clear, .code yX4_copy cX4_copy 2 none, .initialized RX4, .instanceMethod yX4_copy, .selects RX4 yX4_copy yX4_copy, .code yX4_init cX4_init 1 none, .initialized RX4, .instanceMethod yX4_init, .code yX4_keptLines cX4_keptLines 6 (some .int), .initialized RX4, .instanceMethod yX4_keptLines, .selects RX4 yX4_keptLines yX4_keptLines, .code yX4_lostLines cX4_lostLines 4 (some .int), .initialized RX4, .instanceMethod yX4_lostLines, .selects RX4 yX4_lostLines yX4_lostLines, .code yX4_playNight cX4_playNight 6 none, .initialized RX4, .instanceMethod yX4_playNight, .selects RX4 yX4_playNight yX4_playNight, .code yX4_sayToday cX4_sayToday 3 none, .initialized RX4, .instanceMethod yX4_sayToday, .selects RX4 yX4_sayToday yX4_sayToday] : List Cond), w ∈ lw_tbl := in_of [487, 969, 70, 967, 968, 236, 70, 235, 701, 70, 699, 700, 697, 70, 695, 696, 939, 70, 937, 938, 777, 70, 775, 776] (by decide +kernel)
theorem wl_17 : ∀ w ∈ ([.code yX5_addScene cX5_addScene 3 none, .initialized RX5, .instanceMethod yX5_addScene, .selects RX5 yX5_addScene yX5_addScene, .code yX5_clashes cX5_clashes 10 (some .boolean), .initialized RX5, .instanceMethod yX5_clashes, .selects RX5 yX5_clashes yX5_clashes, .code yX5_clear cX5_clear 1 none, .initialized RX5, .instanceMethod yX5_clear, .selects RX5 yX5_clear yX5_clear, .code yX5_init cX5_init 1 none, .initialized RX5, .instanceMethod yX5_init, .code yX5_scenesOf cX5_scenesOf 4 (some .int), .initialized RX5, .instanceMethod yX5_scenesOf, .selects RX5 yX5_scenesOf yX5_scenesOf, .code yX6_endOfFigures cX6_endOfFigures 4 (some .int), .initialized RX6, .static yX6_endOfFigures, .code yX6_endOfItem cX6_endOfItem 7 (some .int), .initialized RX6] : List Cond), w ∈ lw_tbl := in_of [594, 69, 592, 593, 479, 69, 477, 478, 444, 69, 442, 443, 116, 69, 115, 649, 69, 647, 648, 573, 67, 572, 570, 67] (by decide +kernel)
theorem wl_18 : ∀ w ∈ ([.instanceMethod yX6_endOfItem, .selects RX6 yX6_endOfItem yX6_endOfItem, .code yX6_firstFault cX6_firstFault 6 (some .int), .initialized RX6, .instanceMethod yX6_firstFault, .selects RX6 yX6_firstFault yX6_firstFault, .code yX6_init cX6_init 1 none, .initialized RX6, .instanceMethod yX6_init, .code yX6_numberOf cX6_numberOf 5 (some .int), .initialized RX6, .static yX6_numberOf, .code yX7_divide cX7_divide 8 none, .initialized RX7, .instanceMethod yX7_divide, .selects RX7 yX7_divide yX7_divide, .code yX7_forget cX7_forget 1 none, .initialized RX7, .instanceMethod yX7_forget, .selects RX7 yX7_forget yX7_forget, .code yX7_goOn cX7_goOn 4 none, .initialized RX7, .instanceMethod yX7_goOn, .selects RX7 yX7_goOn yX7_goOn] : List Cond), w ∈ lw_tbl := in_of [569, 1, 565, 67, 563, 564, 95, 67, 94, 576, 67, 575, 847, 75, 846, 21, 503, 75, 501, 502, 827, 75, 825, 826] (by decide +kernel)
theorem wl_19 : ∀ w ∈ ([.code yX7_init cX7_init 1 none, .initialized RX7, .instanceMethod yX7_init, .code yX7_likeliest cX7_likeliest 4 (some .int), .initialized RX7, .instanceMethod yX7_likeliest, .selects RX7 yX7_likeliest yX7_likeliest, .code yX7_passDay cX7_passDay 4 none, .initialized RX7, .instanceMethod yX7_passDay, .selects RX7 yX7_passDay yX7_passDay, .code yX7_spread cX7_spread 4 none, .initialized RX7, .instanceMethod yX7_spread, .selects RX7 yX7_spread yX7_spread, .code yX7_staysWell cX7_staysWell 6 (some .int), .initialized RX7, .instanceMethod yX7_staysWell, .selects RX7 yX7_staysWell yX7_staysWell, .code yX7_timesIll cX7_timesIll 5 (some .int), .initialized RX7, .instanceMethod yX7_timesIll, .selects RX7 yX7_timesIll yX7_timesIll, .code yX7_timesMet cX7_timesMet 5 (some .int)] : List Cond), w ∈ lw_tbl := in_of [371, 75, 370, 861, 75, 859, 860, 833, 75, 832, 18, 838, 75, 837, 19, 843, 75, 842, 20, 865, 75, 863, 864, 853] (by decide +kernel)
theorem wl_20 : ∀ w ∈ ([.initialized RX7, .instanceMethod yX7_timesMet, .selects RX7 yX7_timesMet yX7_timesMet, .code yX8_choosePairs cX8_choosePairs 4 none, .initialized RX8, .instanceMethod yX8_choosePairs, .selects RX8 yX8_choosePairs yX8_choosePairs, .code yX8_init cX8_init 1 none, .initialized RX8, .instanceMethod yX8_init, .code yX8_listPairs cX8_listPairs 6 none, .initialized RX8, .instanceMethod yX8_listPairs, .selects RX8 yX8_listPairs yX8_listPairs, .code yX8_plan cX8_plan 4 none, .initialized RX8, .instanceMethod yX8_plan, .selects RX8 yX8_plan yX8_plan, .code yX8_weighPairs cX8_weighPairs 5 none, .initialized RX8, .instanceMethod yX8_weighPairs, .selects RX8 yX8_weighPairs yX8_weighPairs, .code yX8_worthWith cX8_worthWith 4 (some .int), .initialized RX8] : List Cond), w ∈ lw_tbl := in_of [75, 851, 852, 815, 76, 814, 17, 400, 76, 399, 793, 76, 792, 14, 789, 76, 787, 788, 800, 76, 799, 15, 810, 76] (by decide +kernel)
theorem wl_21 : ∀ w ∈ ([.instanceMethod yX8_worthWith, .selects RX8 yX8_worthWith yX8_worthWith, .code yX9_areEnough cX9_areEnough 8 (some .boolean), .initialized RX9, .instanceMethod yX9_areEnough, .selects RX9 yX9_areEnough yX9_areEnough, .code yX9_fewestForPairs cX9_fewestForPairs 7 (some .int), .initialized RX9, .instanceMethod yX9_fewestForPairs, .selects RX9 yX9_fewestForPairs yX9_fewestForPairs, .code yX9_findBest cX9_findBest 5 none, .initialized RX9, .instanceMethod yX9_findBest, .selects RX9 yX9_findBest yX9_findBest, .code yX9_forget cX9_forget 1 none, .initialized RX9, .instanceMethod yX9_forget, .selects RX9 yX9_forget yX9_forget, .code yX9_helpTogether cX9_helpTogether 9 (some .boolean), .initialized RX9, .instanceMethod yX9_helpTogether, .selects RX9 yX9_helpTogether yX9_helpTogether, .code yX9_helps cX9_helps 4 (some .boolean), .initialized RX9] : List Cond), w ∈ lw_tbl := in_of [809, 16, 923, 74, 922, 24, 919, 74, 917, 918, 905, 74, 903, 904, 499, 74, 497, 498, 927, 74, 926, 25, 895, 74] (by decide +kernel)
theorem wl_22 : ∀ w ∈ ([.instanceMethod yX9_helps, .selects RX9 yX9_helps yX9_helps, .code yX9_init cX9_init 1 none, .initialized RX9, .instanceMethod yX9_init, .code yX9_listCovers cX9_listCovers 4 none, .initialized RX9, .instanceMethod yX9_listCovers, .selects RX9 yX9_listCovers yX9_listCovers, .code yX9_survey cX9_survey 8 none, .initialized RX9, .instanceMethod yX9_survey, .selects RX9 yX9_survey yX9_survey, .code yX10_back cX10_back 2 (some .int), .initialized RX10, .instanceMethod yX10_back, .selects RX10 yX10_back yX10_back, .code yX10_both cX10_both 3 (some .int), .initialized RX10, .instanceMethod yX10_both, .selects RX10 yX10_both yX10_both, .code yX10_cold cX10_cold 5 (some .int), .initialized RX10, .instanceMethod yX10_cold] : List Cond), w ∈ lw_tbl := in_of [894, 23, 329, 74, 328, 888, 74, 887, 22, 883, 74, 881, 882, 974, 66, 972, 973, 653, 66, 651, 652, 823, 66, 821] (by decide +kernel)
theorem wl_23 : ∀ w ∈ ([.selects RX10 yX10_cold yX10_cold, .code yX10_count cX10_count 2 (some .int), .initialized RX10, .instanceMethod yX10_count, .selects RX10 yX10_count yX10_count, .code yX10_cuts cX10_cuts 4 (some .int), .initialized RX10, .instanceMethod yX10_cuts, .selects RX10 yX10_cuts yX10_cuts, .code yX10_engaged cX10_engaged 3 (some .int), .initialized RX10, .instanceMethod yX10_engaged, .selects RX10 yX10_engaged yX10_engaged, .code yX10_fault cX10_fault 1 (some .int), .initialized RX10, .instanceMethod yX10_fault, .selects RX10 yX10_fault yX10_fault, .code yX10_fewest cX10_fewest 1 (some .int), .initialized RX10, .instanceMethod yX10_fewest, .selects RX10 yX10_fewest yX10_fewest, .code yX10_has cX10_has 2 (some .boolean), .initialized RX10, .static yX10_has] : List Cond), w ∈ lw_tbl := in_of [822, 978, 66, 976, 977, 728, 66, 726, 727, 879, 66, 877, 878, 561, 66, 559, 560, 915, 66, 913, 914, 471, 66, 470] (by decide +kernel)
theorem wl_24 : ∀ w ∈ ([.code yX10_init cX10_init 1 none, .initialized RX10, .instanceMethod yX10_init, .code yX10_keep cX10_keep 2 (some .int), .initialized RX10, .instanceMethod yX10_keep, .selects RX10 yX10_keep yX10_keep, .code yX10_lay cX10_lay 2 (some .int), .initialized RX10, .instanceMethod yX10_lay, .selects RX10 yX10_lay yX10_lay, .code yX10_least cX10_least 5 (some .int), .initialized RX10, .instanceMethod yX10_least, .selects RX10 yX10_least yX10_least, .code yX10_lines cX10_lines 3 (some .int), .initialized RX10, .instanceMethod yX10_lines, .selects RX10 yX10_lines yX10_lines, .code yX10_night cX10_night 3 (some .int), .initialized RX10, .instanceMethod yX10_night, .selects RX10 yX10_night yX10_night, .code yX10_owed cX10_owed 2 (some .int)] : List Cond), w ∈ lw_tbl := in_of [87, 66, 86, 965, 66, 963, 964, 623, 66, 621, 622, 684, 66, 682, 683, 767, 66, 765, 766, 931, 66, 929, 930, 947] (by decide +kernel)
theorem wl_25 : ∀ w ∈ ([.initialized RX10, .instanceMethod yX10_owed, .selects RX10 yX10_owed yX10_owed, .code yX10_part cX10_part 3 (some .int), .initialized RX10, .instanceMethod yX10_part, .selects RX10 yX10_part yX10_part, .code yX10_player cX10_player 3 (some .int), .initialized RX10, .instanceMethod yX10_player, .selects RX10 yX10_player yX10_player, .code yX10_rehearsals cX10_rehearsals 3 (some .int), .initialized RX10, .instanceMethod yX10_rehearsals, .selects RX10 yX10_rehearsals yX10_rehearsals, .code yX10_rehearse cX10_rehearse 3 (some .int), .initialized RX10, .instanceMethod yX10_rehearse, .selects RX10 yX10_rehearse yX10_rehearse, .code yX10_rest cX10_rest 2 (some .int), .initialized RX10, .instanceMethod yX10_rest, .selects RX10 yX10_rest yX10_rest, .code yX10_run cX10_run 6 (some .int)] : List Cond), w ∈ lw_tbl := in_of [66, 945, 946, 644, 66, 642, 643, 627, 66, 625, 626, 785, 66, 783, 784, 773, 66, 771, 772, 819, 66, 817, 818, 960] (by decide +kernel)
theorem wl_26 : ∀ w ∈ ([.initialized RX10, .instanceMethod yX10_run, .selects RX10 yX10_run yX10_run, .code yX10_startAnew cX10_startAnew 1 none, .initialized RX10, .instanceMethod yX10_startAnew, .selects RX10 yX10_startAnew yX10_startAnew, .code yX10_told cX10_told 4 (some .int), .initialized RX10, .instanceMethod yX10_told, .selects RX10 yX10_told yX10_told, .code yX10_ways cX10_ways 3 (some .long), .initialized RX10, .instanceMethod yX10_ways, .selects RX10 yX10_ways yX10_ways, .code yX10_weak cX10_weak 3 (some .int), .initialized RX10, .instanceMethod yX10_weak, .selects RX10 yX10_weak yX10_weak, .code yX10_wipe cX10_wipe 2 (some .int), .initialized RX10, .instanceMethod yX10_wipe, .selects RX10 yX10_wipe yX10_wipe, .code yX10_write cX10_write 5 (some .int)] : List Cond), w ∈ lw_tbl := in_of [66, 958, 959, 484, 66, 483, 0, 951, 66, 949, 950, 658, 66, 656, 657, 869, 66, 867, 868, 557, 66, 555, 556, 553] (by decide +kernel)
theorem wl_27 : ∀ w ∈ ([.initialized RX10, .instanceMethod yX10_write, .selects RX10 yX10_write yX10_write, .code yX10_wrong cX10_wrong 2 (some .int), .initialized RX10, .instanceMethod yX10_wrong, .selects RX10 yX10_wrong yX10_wrong, .code yX11_areBoth cX11_areBoth 9 (some .boolean), .initialized RX11, .instanceMethod yX11_areBoth, .selects RX11 yX11_areBoth yX11_areBoth, .code yX11_back cX11_back 1 (some .int), .initialized RX11, .instanceMethod yX11_back, .selects RX11 yX11_back yX11_back, .code yX11_bits cX11_bits 3 (some .int), .initialized RX11, .static yX11_bits, .code yX11_both cX11_both 3 (some .int), .initialized RX11, .instanceMethod yX11_both, .selects RX11 yX11_both yX11_both, .code yX11_byteAt cX11_byteAt 2 (some .int), .initialized RX11] : List Cond), w ∈ lw_tbl := in_of [66, 551, 552, 956, 66, 954, 955, 1007, 78, 1006, 30, 1397, 78, 1395, 1396, 1338, 78, 1337, 1221, 78, 1219, 1220, 1163, 78] (by decide +kernel)
theorem wl_28 : ∀ w ∈ ([.instanceMethod yX11_byteAt, .selects RX11 yX11_byteAt yX11_byteAt, .code yX11_cast cX11_cast 7 (some .boolean), .initialized RX11, .instanceMethod yX11_cast, .selects RX11 yX11_cast yX11_cast, .code yX11_cold cX11_cold 9 (some .int), .initialized RX11, .instanceMethod yX11_cold, .selects RX11 yX11_cold yX11_cold, .code yX11_coldItem cX11_coldItem 1 (some .boolean), .initialized RX11, .instanceMethod yX11_coldItem, .selects RX11 yX11_coldItem yX11_coldItem, .code yX11_copy cX11_copy 4 none, .initialized RX11, .instanceMethod yX11_copy, .selects RX11 yX11_copy yX11_copy, .code yX11_count cX11_count 2 (some .int), .initialized RX11, .instanceMethod yX11_count, .selects RX11 yX11_count yX11_count, .code yX11_cuts cX11_cuts 6 (some .int), .initialized RX11] : List Cond), w ∈ lw_tbl := in_of [1162, 33, 1237, 78, 1236, 45, 1309, 78, 1307, 1308, 1191, 78, 1190, 39, 1393, 78, 1392, 64, 1401, 78, 1399, 1400, 1265, 78] (by decide +kernel)
theorem wl_29 : ∀ w ∈ ([.instanceMethod yX11_cuts, .selects RX11 yX11_cuts yX11_cuts, .code yX11_engaged cX11_engaged 8 (some .int), .initialized RX11, .instanceMethod yX11_engaged, .selects RX11 yX11_engaged yX11_engaged, .code yX11_fault cX11_fault 1 (some .int), .initialized RX11, .instanceMethod yX11_fault, .selects RX11 yX11_fault yX11_fault, .code yX11_fewest cX11_fewest 5 (some .int), .initialized RX11, .instanceMethod yX11_fewest, .selects RX11 yX11_fewest yX11_fewest, .code yX11_figures cX11_figures 5 (some .boolean), .initialized RX11, .instanceMethod yX11_figures, .selects RX11 yX11_figures yX11_figures, .code yX11_gainOf cX11_gainOf 4 (some .int), .initialized RX11, .instanceMethod yX11_gainOf, .selects RX11 yX11_gainOf yX11_gainOf, .code yX11_has cX11_has 2 (some .boolean), .initialized RX11] : List Cond), w ∈ lw_tbl := in_of [1263, 1264, 1342, 78, 1340, 1341, 1151, 78, 1149, 1150, 1354, 78, 1352, 1353, 1171, 78, 1170, 35, 1301, 78, 1300, 55, 1003, 78] (by decide +kernel)
theorem wl_30 : ∀ w ∈ ([.static yX11_has, .code yX11_hoursOf cX11_hoursOf 2 (some .int), .initialized RX11, .instanceMethod yX11_hoursOf, .selects RX11 yX11_hoursOf yX11_hoursOf, .code yX11_in cX11_in 6 (some .boolean), .initialized RX11, .static yX11_in, .code yX11_init cX11_init 1 none, .initialized RX11, .instanceMethod yX11_init, .code yX11_isCover cX11_isCover 3 (some .boolean), .initialized RX11, .instanceMethod yX11_isCover, .selects RX11 yX11_isCover yX11_isCover, .code yX11_isCut cX11_isCut 2 (some .boolean), .initialized RX11, .instanceMethod yX11_isCut, .selects RX11 yX11_isCut yX11_isCut, .code yX11_isOff cX11_isOff 2 (some .boolean), .initialized RX11, .instanceMethod yX11_isOff, .selects RX11 yX11_isOff yX11_isOff, .code yX11_isPair cX11_isPair 1 (some .boolean)] : List Cond), w ∈ lw_tbl := in_of [1002, 1281, 78, 1280, 51, 1142, 78, 1141, 983, 78, 982, 1346, 78, 1345, 60, 1233, 78, 1232, 44, 1229, 78, 1228, 43, 1187] (by decide +kernel)
theorem wl_31 : ∀ w ∈ ([.initialized RX11, .instanceMethod yX11_isPair, .selects RX11 yX11_isPair yX11_isPair, .code yX11_isPart cX11_isPart 2 (some .boolean), .initialized RX11, .instanceMethod yX11_isPart, .selects RX11 yX11_isPart yX11_isPart, .code yX11_isPlayer cX11_isPlayer 2 (some .boolean), .initialized RX11, .instanceMethod yX11_isPlayer, .selects RX11 yX11_isPlayer yX11_isPlayer, .code yX11_isTaken cX11_isTaken 6 (some .boolean), .initialized RX11, .instanceMethod yX11_isTaken, .selects RX11 yX11_isTaken yX11_isTaken, .code yX11_item cX11_item 2 (some .boolean), .initialized RX11, .instanceMethod yX11_item, .selects RX11 yX11_item yX11_item, .code yX11_keep cX11_keep 1 (some .int), .initialized RX11, .instanceMethod yX11_keep, .selects RX11 yX11_keep yX11_keep, .code yX11_kept cX11_kept 4 (some .int)] : List Cond), w ∈ lw_tbl := in_of [78, 1186, 38, 1216, 78, 1215, 42, 1207, 78, 1206, 41, 1297, 78, 1296, 54, 1159, 78, 1158, 32, 1389, 78, 1387, 1388, 1249] (by decide +kernel)
theorem wl_32 : ∀ w ∈ ([.initialized RX11, .instanceMethod yX11_kept, .selects RX11 yX11_kept yX11_kept, .code yX11_lay cX11_lay 2 (some .int), .initialized RX11, .instanceMethod yX11_lay, .selects RX11 yX11_lay yX11_lay, .code yX11_layCold cX11_layCold 6 none, .initialized RX11, .instanceMethod yX11_layCold, .selects RX11 yX11_layCold yX11_layCold, .code yX11_layMays cX11_layMays 3 none, .initialized RX11, .instanceMethod yX11_layMays, .selects RX11 yX11_layMays yX11_layMays, .code yX11_layPairs cX11_layPairs 3 none, .initialized RX11, .instanceMethod yX11_layPairs, .selects RX11 yX11_layPairs yX11_layPairs, .code yX11_layRehearsals cX11_layRehearsals 6 none, .initialized RX11, .instanceMethod yX11_layRehearsals, .selects RX11 yX11_layRehearsals yX11_layRehearsals, .code yX11_layRules cX11_layRules 3 none] : List Cond), w ∈ lw_tbl := in_of [78, 1248, 48, 1199, 78, 1197, 1198, 1315, 78, 1314, 56, 996, 78, 995, 28, 1293, 78, 1292, 53, 1289, 78, 1288, 52, 992] (by decide +kernel)
theorem wl_33 : ∀ w ∈ ([.initialized RX11, .instanceMethod yX11_layRules, .selects RX11 yX11_layRules yX11_layRules, .code yX11_least cX11_least 7 (some .int), .initialized RX11, .instanceMethod yX11_least, .selects RX11 yX11_least yX11_least, .code yX11_lines cX11_lines 3 (some .int), .initialized RX11, .instanceMethod yX11_lines, .selects RX11 yX11_lines yX11_lines, .code yX11_linesIn cX11_linesIn 4 (some .int), .initialized RX11, .instanceMethod yX11_linesIn, .selects RX11 yX11_linesIn yX11_linesIn, .code yX11_mayPlay cX11_mayPlay 3 (some .boolean), .initialized RX11, .instanceMethod yX11_mayPlay, .selects RX11 yX11_mayPlay yX11_mayPlay, .code yX11_nextFor cX11_nextFor 5 (some .int), .initialized RX11, .instanceMethod yX11_nextFor, .selects RX11 yX11_nextFor yX11_nextFor, .code yX11_night cX11_night 2 (some .int)] : List Cond), w ∈ lw_tbl := in_of [78, 991, 27, 1260, 78, 1258, 1259, 1273, 78, 1271, 1272, 1269, 78, 1268, 50, 1000, 78, 999, 29, 1256, 78, 1255, 49, 1362] (by decide +kernel)
theorem wl_34 : ∀ w ∈ ([.initialized RX11, .instanceMethod yX11_night, .selects RX11 yX11_night yX11_night, .code yX11_noCompany cX11_noCompany 3 none, .initialized RX11, .instanceMethod yX11_noCompany, .selects RX11 yX11_noCompany yX11_noCompany, .code yX11_noneWeak cX11_noneWeak 3 (some .boolean), .initialized RX11, .instanceMethod yX11_noneWeak, .selects RX11 yX11_noneWeak yX11_noneWeak, .code yX11_numberItem cX11_numberItem 3 (some .boolean), .initialized RX11, .instanceMethod yX11_numberItem, .selects RX11 yX11_numberItem yX11_numberItem, .code yX11_owed cX11_owed 2 (some .int), .initialized RX11, .instanceMethod yX11_owed, .selects RX11 yX11_owed yX11_owed, .code yX11_part cX11_part 5 (some .int), .initialized RX11, .instanceMethod yX11_part, .selects RX11 yX11_part yX11_part, .code yX11_partItem cX11_partItem 2 (some .boolean)] : List Cond), w ∈ lw_tbl := in_of [78, 1360, 1361, 988, 78, 987, 26, 1358, 78, 1357, 62, 1195, 78, 1194, 40, 1370, 78, 1368, 1369, 1212, 78, 1210, 1211, 1178] (by decide +kernel)
theorem wl_35 : ∀ w ∈ ([.initialized RX11, .instanceMethod yX11_partItem, .selects RX11 yX11_partItem yX11_partItem, .code yX11_partState cX11_partState 8 none, .initialized RX11, .instanceMethod yX11_partState, .selects RX11 yX11_partState yX11_partState, .code yX11_pileTrouble cX11_pileTrouble 4 (some .int), .initialized RX11, .instanceMethod yX11_pileTrouble, .selects RX11 yX11_pileTrouble yX11_pileTrouble, .code yX11_play cX11_play 6 (some .int), .initialized RX11, .instanceMethod yX11_play, .selects RX11 yX11_play yX11_play, .code yX11_player cX11_player 5 (some .int), .initialized RX11, .instanceMethod yX11_player, .selects RX11 yX11_player yX11_player, .code yX11_playerItem cX11_playerItem 2 (some .boolean), .initialized RX11, .instanceMethod yX11_playerItem, .selects RX11 yX11_playerItem yX11_playerItem, .code yX11_readAll cX11_readAll 2 (some .int)] : List Cond), w ∈ lw_tbl := in_of [78, 1177, 36, 1320, 78, 1319, 57, 1241, 78, 1240, 46, 1366, 78, 1365, 63, 1203, 78, 1201, 1202, 1167, 78, 1166, 34, 1155] (by decide +kernel)
theorem wl_36 : ∀ w ∈ ([.initialized RX11, .instanceMethod yX11_readAll, .selects RX11 yX11_readAll yX11_readAll, .code yX11_rehearsals cX11_rehearsals 6 (some .int), .initialized RX11, .instanceMethod yX11_rehearsals, .selects RX11 yX11_rehearsals yX11_rehearsals, .code yX11_rehearse cX11_rehearse 3 (some .int), .initialized RX11, .instanceMethod yX11_rehearse, .selects RX11 yX11_rehearse yX11_rehearse, .code yX11_rest cX11_rest 2 (some .int), .initialized RX11, .instanceMethod yX11_rest, .selects RX11 yX11_rest yX11_rest, .code yX11_run cX11_run 7 (some .int), .initialized RX11, .instanceMethod yX11_run, .selects RX11 yX11_run yX11_run, .code yX11_sceneItem cX11_sceneItem 2 (some .boolean), .initialized RX11, .instanceMethod yX11_sceneItem, .selects RX11 yX11_sceneItem yX11_sceneItem, .code yX11_setCover cX11_setCover 4 none] : List Cond), w ∈ lw_tbl := in_of [78, 1154, 31, 1285, 78, 1283, 1284, 1277, 78, 1275, 1276, 1305, 78, 1303, 1304, 1383, 78, 1381, 1382, 1182, 78, 1181, 37, 1350] (by decide +kernel)
theorem wl_37 : ∀ w ∈ ([.initialized RX11, .instanceMethod yX11_setCover, .selects RX11 yX11_setCover yX11_setCover, .code yX11_stepBack cX11_stepBack 3 (some .int), .initialized RX11, .static yX11_stepBack, .code yX11_told cX11_told 4 (some .int), .initialized RX11, .instanceMethod yX11_told, .selects RX11 yX11_told yX11_told, .code yX11_trouble cX11_trouble 5 (some .int), .initialized RX11, .instanceMethod yX11_trouble, .selects RX11 yX11_trouble yX11_trouble, .code yX11_ways cX11_ways 3 (some .long), .initialized RX11, .instanceMethod yX11_ways, .selects RX11 yX11_ways yX11_ways, .code yX11_weak cX11_weak 4 (some .int), .initialized RX11, .instanceMethod yX11_weak, .selects RX11 yX11_weak yX11_weak, .code yX11_weakOf cX11_weakOf 4 (some .int), .initialized RX11] : List Cond), w ∈ lw_tbl := in_of [78, 1349, 61, 1252, 78, 1251, 1374, 78, 1372, 1373, 1245, 78, 1244, 47, 1225, 78, 1223, 1224, 1330, 78, 1328, 1329, 1335, 78] (by decide +kernel)
theorem wl_38 : ∀ w ∈ ([.instanceMethod yX11_weakOf, .selects RX11 yX11_weakOf yX11_weakOf, .code yX11_wellOf cX11_wellOf 6 (some .long), .initialized RX11, .instanceMethod yX11_wellOf, .selects RX11 yX11_wellOf yX11_wellOf, .code yX11_wipe cX11_wipe 2 (some .int), .initialized RX11, .instanceMethod yX11_wipe, .selects RX11 yX11_wipe yX11_wipe, .code yX11_write cX11_write 5 (some .int), .initialized RX11, .instanceMethod yX11_write, .selects RX11 yX11_write yX11_write, .code yX11_wrong cX11_wrong 2 (some .int), .initialized RX11, .instanceMethod yX11_wrong, .selects RX11 yX11_wrong yX11_wrong, .methodLink RL 9 yX10_init, .methodLinkNest RX10 15 yX6_init "OnByThursday", .methodLinkNest RX10 22 yX3_init "OnByThursday", .methodLinkNest RX3 35 yX5_init "OnByThursday", .methodLinkNest RX10 32 yX4_init "OnByThursday", .methodLinkNest RX10 49 yX2_init "OnByThursday"] : List Cond), w ∈ lw_tbl := in_of [1334, 59, 1324, 78, 1323, 58, 1147, 78, 1145, 1146, 1138, 78, 1136, 1137, 1379, 78, 1377, 1378, 85, 93, 108, 114, 234, 252] (by decide +kernel)
theorem wl_39 : ∀ w ∈ ([.methodLinkNest RX10 56 yX0_init "OnByThursday", .methodLinkNest RX0 17 yX1_init "OnByThursday", .methodLinkNest RX10 63 yX9_init "OnByThursday", .methodLinkNest RX9 11 yX1_init "OnByThursday", .methodLinkNest RX10 70 yX7_init "OnByThursday", .methodLinkNest RX10 77 yX8_init "OnByThursday", .methodLink RX10 82 yX3_clear, .methodLink RX3 62 yJ7_fill_53178, .methodLink RX3 68 yX5_clear, .methodLink RX10 85 yX3_addPlayer, .methodLink RX10 89 yX3_addPart, .methodLink RX10 93 yX3_giveOwn, .methodLink RX3 127 yX3_hasPlayer, .methodLink RX3 130 yX3_hasPart, .methodLink RX10 96 yX3_settle, .methodLinkNest RX3 136 yX10_has "OnByThursday", .methodLink RX3 139 yX3_isSkilled, .methodLink RX3 142 yX5_clashes, .methodLinkNest RX5 25 yX10_has "OnByThursday", .methodLink RX10 99 yX10_startAnew, .methodLink RX10 116 yX4_clear, .methodLink RX4 22 yJ7_fill_53178, .methodLink RX10 120 yJ7_fill_53178, .methodLink RX10 126 yX0_forget] : List Cond), w ∈ lw_tbl := in_of [288, 294, 327, 332, 369, 398, 434, 438, 441, 445, 449, 453, 457, 461, 465, 469, 472, 476, 480, 481, 485, 489, 490, 491] (by decide +kernel)
theorem wl_40 : ∀ w ∈ ([.methodLink RX0 25 yJ7_fill_53178, .methodLink RX10 129 yX9_forget, .methodLink RX10 130 yX7_forget, .methodLink RL 15 yX10_write, .methodLink RL 20 yX10_wipe, .methodLink RL 25 yX10_fault, .methodLink RX10 106 yX6_firstFault, .methodLink RX6 15 yX3_clear, .methodLink RX6 20 yX6_endOfItem, .methodLink RX6 32 yX6_endOfFigures, .methodLink RX6 35 yX6_numberOf, .methodLink RX6 28 yX3_take, .methodLink RX3 83 yX3_addPlayer, .methodLink RX3 87 yX3_addPart, .methodLink RX3 91 yX3_tellScene, .methodLink RX3 120 yX3_hasParts, .methodLink RX3 123 yX5_addScene, .methodLink RX3 94 yX3_giveOwn, .methodLink RX3 97 yX3_addCover, .methodLink RX3 100 yX3_setContagion, .methodLink RX3 104 yX3_setChange, .methodLink RX3 108 yX3_setTailor, .methodLink RX3 111 yX3_setForgetting, .methodLink RX3 114 yX3_setPay] : List Cond), w ∈ lw_tbl := in_of [495, 496, 500, 550, 554, 558, 562, 566, 567, 571, 574, 577, 581, 582, 583, 587, 591, 595, 596, 600, 604, 608, 612, 616] (by decide +kernel)
theorem wl_41 : ∀ w ∈ ([.methodLink RL 29 yX10_lay, .methodLink RL 33 yX10_player, .methodLink RX10 131 yX3_hasPlayer, .methodLink RX10 141 yX3_ownParts, .methodLink RX10 148 yX3_playable, .methodLink RX3 145 yX3_mayPlay, .methodLink RL 38 yX10_part, .methodLink RX10 151 yX3_hasPart, .methodLink RX10 170 yX5_scenesOf, .methodLink RL 42 yX10_both, .methodLink RX10 181 yX10_has, .methodLink RL 46 yX10_ways, .methodLink RX10 184 yX3_hasPlayers, .methodLink RX10 187 yX3_hasParts, .methodLink RX10 190 yX2_countCastings, .methodLink RX2 56 yX2_begin, .methodLink RX2 38 yJ7_fill_53178, .methodLink RX2 60 yX2_countFrom, .methodLinkNest RX2 49 yX10_has "OnByThursday", .methodLink RX2 70 yX2_isFree, .methodLink RL 51 yX10_least, .methodLink RX10 194 yX2_findLeast, .methodLink RX2 77 yX2_weigh, .methodLink RX2 85 yX4_lostLines] : List Cond), w ∈ lw_tbl := in_of [620, 624, 628, 629, 633, 637, 641, 645, 646, 650, 654, 655, 659, 663, 664, 668, 672, 673, 676, 677, 681, 685, 690, 694] (by decide +kernel)
theorem wl_42 : ∀ w ∈ ([.methodLink RX4 48 yX4_keptLines, .methodLink RX2 81 yX2_improveFrom, .methodLink RX10 201 yX2_partsNotByOwners, .methodLink RX10 205 yX2_forgottenLines, .methodLink RL 56 yX10_cuts, .methodLink RX10 212 yX0_cheapestCut, .methodLink RX0 48 yX3_linesTogether, .methodLink RX0 31 yX1_begin, .methodLink RX0 35 yX1_succeeds, .methodLink RX1 38 yX1_canFill, .methodLink RX1 42 yX1_scarcest, .methodLink RX1 53 yJ6_bitCount_0f7a4, .methodLinkNest RX1 34 yX10_has "OnByThursday", .methodLink RX1 49 yX1_strike, .methodLink RX10 216 yX3_linesTogether, .methodLink RL 60 yX10_lines, .methodLink RX10 219 yX3_mayPlay, .methodLink RX10 222 yX4_keptLines, .methodLink RL 64 yX10_rehearse, .methodLink RX10 226 yX4_sayToday, .methodLink RX10 230 yX3_hours, .methodLink RL 68 yX10_rehearsals, .methodLink RX10 233 yX8_plan, .methodLink RX8 27 yX8_listPairs] : List Cond), w ∈ lw_tbl := in_of [698, 711, 717, 721, 725, 729, 733, 737, 741, 745, 748, 752, 758, 759, 763, 764, 768, 769, 770, 774, 778, 782, 786, 790] (by decide +kernel)
theorem wl_43 : ∀ w ∈ ([.methodLink RX8 50 yX3_mayPlay, .methodLink RX8 54 yX4_lostLines, .methodLink RX8 60 yX3_hours, .methodLink RX8 31 yX8_weighPairs, .methodLink RX8 64 yJ7_fill_fda19, .methodLink RJ7 13 yJ7_rangeCheck_23922, .methodLink RX8 70 yX8_worthWith, .methodLink RX8 35 yX8_choosePairs, .methodLink RL 72 yX10_rest, .methodLink RL 77 yX10_cold, .methodLink RX10 252 yX7_goOn, .methodLink RX7 31 yJ7_fill_53178, .methodLink RX7 38 yX7_passDay, .methodLink RX7 47 yJ7_fill_fda19, .methodLink RX7 50 yX7_spread, .methodLinkNest RX7 63 yX10_has "OnByThursday", .methodLink RX7 67 yX7_staysWell, .methodLink RX7 71 yX7_divide, .methodLink RX10 256 yX7_timesMet, .methodLink RX7 80 yX0_isMet, .methodLink RX10 260 yX7_likeliest, .methodLink RX10 267 yX7_timesIll, .methodLink RL 81 yX10_weak, .methodLink RX10 270 yX0_findWeak] : List Cond), w ∈ lw_tbl := in_of [794, 795, 796, 797, 801, 804, 807, 812, 816, 820, 824, 828, 830, 834, 835, 839, 840, 844, 850, 854, 858, 862, 866, 870] (by decide +kernel)
theorem wl_44 : ∀ w ∈ ([.methodLink RX0 58 yJ6_bitCount_0f7a4, .methodLink RX0 63 yX0_isMet, .methodLink RL 85 yX10_engaged, .methodLink RX10 280 yX9_survey, .methodLink RX9 37 yX0_findWeak, .methodLink RX9 43 yX9_listCovers, .methodLink RX9 72 yX3_isSkilled, .methodLink RX9 75 yX3_mayPlay, .methodLinkNest RX9 47 yX10_has "OnByThursday", .methodLink RX9 60 yX9_helps, .methodLink RX9 78 yX1_begin, .methodLink RX9 82 yX1_give, .methodLink RX9 86 yX1_succeeds, .methodLink RX10 284 yX9_findBest, .methodLink RX9 96 yJ13_bitCount_95d88, .methodLink RL 89 yX10_fewest, .methodLink RX10 293 yX9_fewestForPairs, .methodLink RX9 108 yX9_areEnough, .methodLink RX9 112 yX9_helpTogether, .methodLink RL 93 yX10_night, .methodLink RX10 296 yX2_partsPlayedBy, .methodLink RX10 299 yX4_playNight, .methodLink RX4 52 yX3_ownParts, .methodLink RX4 56 yX3_linesTogether] : List Cond), w ∈ lw_tbl := in_of [874, 875, 876, 880, 884, 885, 889, 890, 891, 892, 896, 897, 901, 902, 906, 912, 916, 920, 924, 928, 932, 936, 940, 941] (by decide +kernel)
theorem wl_45 : ∀ w ∈ ([.methodLinkNest RX4 68 yX10_has "OnByThursday", .methodLink RX4 72 yX4_sayToday, .methodLink RL 97 yX10_owed, .methodLink RL 101 yX10_told, .methodLink RL 105 yX10_wrong, .methodLink RL 109 yX10_run, .methodLink RX10 306 yX0_isMet, .methodLink RL 113 yX10_keep, .methodLink RX10 310 yX4_copy, .methodLink RL 117 yX10_back, .methodLink RL 121 yX10_count, .methodLink RL 12 yX11_init, .methodLink RX11 115 yX11_noCompany, .methodLink RX11 119 yX11_layRules, .methodLink RX11 186 yX11_layMays, .methodLink RX11 192 yX11_mayPlay, .methodLink RX11 183 yX11_has, .methodLink RX11 189 yX11_areBoth, .methodLink RL 19 yX11_write, .methodLink RX11 124 yX11_in, .methodLink RL 24 yX11_wipe, .methodLink RL 28 yX11_fault, .methodLink RX11 176 yX11_readAll, .methodLink RX11 173 yX11_item] : List Cond), w ∈ lw_tbl := in_of [942, 943, 944, 948, 953, 957, 961, 962, 966, 971, 975, 981, 985, 989, 993, 997, 1001, 1004, 1135, 1140, 1144, 1148, 1152, 1156] (by decide +kernel)
theorem wl_46 : ∀ w ∈ ([.methodLink RX11 137 yX11_byteAt, .methodLink RX11 153 yX11_playerItem, .methodLink RX11 147 yX11_figures, .methodLink RX11 157 yX11_partItem, .methodLink RX11 160 yX11_sceneItem, .methodLink RX11 163 yX11_isPair, .methodLink RX11 166 yX11_coldItem, .methodLink RX11 169 yX11_numberItem, .methodLink RL 32 yX11_lay, .methodLink RL 37 yX11_player, .methodLink RX11 195 yX11_isPlayer, .methodLink RL 41 yX11_part, .methodLink RX11 200 yX11_isPart, .methodLink RL 45 yX11_both, .methodLink RL 50 yX11_ways, .methodLink RX11 229 yX11_isOff, .methodLink RX11 232 yX11_isCut, .methodLink RX11 235 yX11_cast, .methodLink RX11 219 yX11_pileTrouble, .methodLink RX11 209 yX11_trouble, .methodLink RX11 205 yX11_kept, .methodLink RX11 222 yX11_stepBack, .methodLink RX11 225 yX11_nextFor, .methodLink RL 55 yX11_least] : List Cond), w ∈ lw_tbl := in_of [1160, 1164, 1168, 1175, 1179, 1184, 1188, 1192, 1196, 1200, 1204, 1209, 1213, 1218, 1222, 1226, 1230, 1234, 1238, 1242, 1246, 1250, 1253, 1257] (by decide +kernel)
theorem wl_47 : ∀ w ∈ ([.methodLink RL 59 yX11_cuts, .methodLink RX11 241 yX11_linesIn, .methodLink RL 63 yX11_lines, .methodLink RL 67 yX11_rehearse, .methodLink RX11 244 yX11_hoursOf, .methodLink RL 71 yX11_rehearsals, .methodLink RX11 259 yX11_layRehearsals, .methodLink RX11 253 yX11_layPairs, .methodLink RX11 256 yX11_isTaken, .methodLink RX11 250 yX11_gainOf, .methodLink RL 76 yX11_rest, .methodLink RL 80 yX11_cold, .methodLink RX11 279 yX11_layCold, .methodLink RX11 271 yX11_partState, .methodLink RX11 266 yX11_wellOf, .methodLink RL 84 yX11_weak, .methodLink RX11 290 yX11_weakOf, .methodLink RX11 285 yX11_bits, .methodLink RL 88 yX11_engaged, .methodLink RX11 293 yX11_isCover, .methodLink RX11 296 yX11_setCover, .methodLink RL 92 yX11_fewest, .methodLink RX11 300 yX11_noneWeak, .methodLink RL 96 yX11_night] : List Cond), w ∈ lw_tbl := in_of [1262, 1266, 1270, 1274, 1278, 1282, 1286, 1290, 1294, 1298, 1302, 1306, 1312, 1317, 1321, 1327, 1332, 1336, 1339, 1343, 1347, 1351, 1355, 1359] (by decide +kernel)
theorem wl_48 : ∀ w ∈ ([.methodLink RX11 303 yX11_play, .methodLink RL 100 yX11_owed, .methodLink RL 104 yX11_told, .methodLink RL 108 yX11_wrong, .methodLink RL 112 yX11_run, .methodLink RL 116 yX11_keep, .methodLink RX11 312 yX11_copy, .methodLink RL 120 yX11_back, .methodLink RL 124 yX11_count, .constant RX2 73 1000000, .constant RJ6 265 1431655765, .constant RJ6 266 858993459, .constant RJ6 267 252645135, .constant RX7 37 1000000, .constantLong RX7 78 1000000, .constantLong RJ13 314 6148914691236517205, .constantLong RJ13 316 3689348814741910323, .constantLong RJ13 318 1085102592571150095, .constant RX10 305 99999, .constantLong RX11 122 8, .constantLong RX11 132 255, .constantLong RX11 141 48, .constantLong RX11 143 57, .constantLong RX11 145 3] : List Cond), w ∈ lw_tbl := in_of [1363, 1367, 1371, 1376, 1380, 1386, 1390, 1394, 1398, 689, 755, 756, 757, 829, 848, 909, 910, 911, 952, 1139, 1143, 1172, 1173, 1174] (by decide +kernel)
theorem wl_49 : ∀ w ∈ ([.constantLong RX11 151 99, .constantLong RX11 198 4, .constantLong RX11 203 5, .constantLong RX11 239 (-3), .constantLong RX11 275 14, .constantLong RX11 277 12, .constant RX11 270 1000000, .constantLong RX11 262 1000000, .constantLong RX11 264 100, .constantLong RX11 288 2, .constantLong RX11 306 99999, .constantLong RX11 308 20, .constantLong RX11 310 999, .constantLong RL 13 4294967295] : List Cond), w ∈ lw_tbl := in_of [1183, 1208, 1217, 1261, 1310, 1311, 1316, 1325, 1326, 1331, 1375, 1384, 1385, 1402] (by decide +kernel)
theorem cw_X0 : ∀ w ∈ u_ws RX0 TX0 4, w ∈ lw_tbl := in_of [316, 318, 320, 322] (by decide +kernel)
theorem cw_X1 : ∀ w ∈ u_ws RX1 TX1 3, w ∈ lw_tbl := in_of [301, 303, 305] (by decide +kernel)
theorem cw_X2 : ∀ w ∈ u_ws RX2 TX2 9, w ∈ lw_tbl := in_of [267, 269, 271, 273, 275, 277, 279, 281, 283] (by decide +kernel)
theorem cw_X3 : ∀ w ∈ u_ws RX3 TX3 19, w ∈ lw_tbl := in_of [193, 195, 197, 199, 201, 203, 205, 207, 209, 211, 213, 215, 217, 219, 221, 223, 225, 227, 229] (by decide +kernel)
theorem cw_X4 : ∀ w ∈ u_ws RX4 TX4 3, w ∈ lw_tbl := in_of [243, 245, 247] (by decide +kernel)
theorem cw_X5 : ∀ w ∈ u_ws RX5 TX5 4, w ∈ lw_tbl := in_of [125, 127, 129, 131] (by decide +kernel)
theorem cw_X6 : ∀ w ∈ u_ws RX6 TX6 2, w ∈ lw_tbl := in_of [99, 101] (by decide +kernel)
theorem cw_X7 : ∀ w ∈ u_ws RX7 TX7 7, w ∈ lw_tbl := in_of [381, 383, 385, 387, 389, 391, 393] (by decide +kernel)
theorem cw_X8 : ∀ w ∈ u_ws RX8 TX8 9, w ∈ lw_tbl := in_of [415, 417, 419, 421, 423, 425, 427, 429, 431] (by decide +kernel)
theorem cw_X9 : ∀ w ∈ u_ws RX9 TX9 10, w ∈ lw_tbl := in_of [345, 347, 349, 351, 353, 355, 357, 359, 361, 363] (by decide +kernel)
theorem cw_X10 : ∀ w ∈ u_ws RX10 TX10 15, w ∈ lw_tbl := in_of [519, 521, 523, 525, 527, 529, 531, 533, 535, 537, 539, 541, 543, 545, 547] (by decide +kernel)
theorem cw_X11 : ∀ w ∈ u_ws RX11 TX11 42, w ∈ lw_tbl := in_of [1050, 1052, 1054, 1056, 1058, 1060, 1062, 1064, 1066, 1068, 1070, 1072, 1074, 1076, 1078, 1080, 1082, 1084, 1086, 1088, 1090, 1092, 1094, 1096, 1098, 1100, 1102, 1104, 1106, 1108, 1110, 1112, 1114, 1116, 1118, 1120, 1122, 1124, 1126, 1128, 1130, 1132] (by decide +kernel)
def CK (ci : Nat) (C : String) (T : u_T) (N : Nat) (ty : Nat → FieldType) : Prop := vwCl[ci]? = some (C, T, N) ∧ (fk ci).length = N ∧ (∀ w ∈ u_ws C T N, w ∈ lw_tbl) ∧ (∀ k, k < N → parseFieldDescriptor (T k).2.2.1 = some (ty k)) ∧ (∀ a, a < N → ∀ b, b < N → a ≠ b → (T a).2.1 ≠ (T b).2.1)
theorem ck_X0 : CK 0 RX0 TX0 4 tyX0 := ⟨rfl, rfl, cw_X0, tyX0_ok, nmX0⟩
theorem ck_X1 : CK 1 RX1 TX1 3 tyX1 := ⟨rfl, rfl, cw_X1, tyX1_ok, nmX1⟩
theorem ck_X2 : CK 2 RX2 TX2 9 tyX2 := ⟨rfl, rfl, cw_X2, tyX2_ok, nmX2⟩
theorem ck_X3 : CK 3 RX3 TX3 19 tyX3 := ⟨rfl, rfl, cw_X3, tyX3_ok, nmX3⟩
theorem ck_X4 : CK 4 RX4 TX4 3 tyX4 := ⟨rfl, rfl, cw_X4, tyX4_ok, nmX4⟩
theorem ck_X5 : CK 5 RX5 TX5 4 tyX5 := ⟨rfl, rfl, cw_X5, tyX5_ok, nmX5⟩
theorem ck_X6 : CK 6 RX6 TX6 2 tyX6 := ⟨rfl, rfl, cw_X6, tyX6_ok, nmX6⟩
theorem ck_X7 : CK 7 RX7 TX7 7 tyX7 := ⟨rfl, rfl, cw_X7, tyX7_ok, nmX7⟩
theorem ck_X8 : CK 8 RX8 TX8 9 tyX8 := ⟨rfl, rfl, cw_X8, tyX8_ok, nmX8⟩
theorem ck_X9 : CK 9 RX9 TX9 10 tyX9 := ⟨rfl, rfl, cw_X9, tyX9_ok, nmX9⟩
theorem ck_X10 : CK 10 RX10 TX10 15 tyX10 := ⟨rfl, rfl, cw_X10, tyX10_ok, nmX10⟩
theorem ck_X11 : CK 11 RX11 TX11 42 tyX11 := ⟨rfl, rfl, cw_X11, tyX11_ok, nmX11⟩
def FL (own : String) (idx ci s kd : Nat) (fin : Bool) (t : FieldType) : Prop := ∃ (C : String) (T : u_T) (N : Nat) (ty : Nat → FieldType), CK ci C T N ty ∧ s < N ∧ (fk ci).getD s 0 = kd ∧ Cond.fieldLink own idx (T s).1 (T s).2.1 (T s).2.2.1 ∈ lw_tbl ∧ (T s).2.2.2 = fin ∧ ty s = t ∧ (T s).1 = C
theorem fl_X6_9 : FL RX6 9 6 0 2 true (.array .int) := ⟨RX6, TX6, 2, tyX6, ck_X6, by decide, rfl, wl_0 _ (List.mem_of_getElem? (i := 0) rfl), rfl, rfl, rfl⟩
theorem fl_X6_24 : FL RX6 24 6 1 0 false .int := ⟨RX6, TX6, 2, tyX6, ck_X6, by decide, rfl, wl_0 _ (List.mem_of_getElem? (i := 1) rfl), rfl, rfl, rfl⟩
theorem fl_X5_18 : FL RX5 18 5 0 0 false .int := ⟨RX5, TX5, 4, tyX5, ck_X5, by decide, rfl, wl_0 _ (List.mem_of_getElem? (i := 2) rfl), rfl, rfl, rfl⟩
theorem fl_X3_117 : FL RX3 117 5 0 0 false .int := ⟨RX5, TX5, 4, tyX5, ck_X5, by decide, rfl, wl_0 _ (List.mem_of_getElem? (i := 3) rfl), rfl, rfl, rfl⟩
theorem fl_X10_314 : FL RX10 314 5 0 0 false .int := ⟨RX5, TX5, 4, tyX5, ck_X5, by decide, rfl, wl_0 _ (List.mem_of_getElem? (i := 4) rfl), rfl, rfl, rfl⟩
theorem fl_X5_22 : FL RX5 22 5 1 0 false .int := ⟨RX5, TX5, 4, tyX5, ck_X5, by decide, rfl, wl_0 _ (List.mem_of_getElem? (i := 5) rfl), rfl, rfl, rfl⟩
theorem fl_X3_133 : FL RX3 133 5 1 0 false .int := ⟨RX5, TX5, 4, tyX5, ck_X5, by decide, rfl, wl_0 _ (List.mem_of_getElem? (i := 6) rfl), rfl, rfl, rfl⟩
theorem fl_X5_9 : FL RX5 9 5 2 2 true (.array .int) := ⟨RX5, TX5, 4, tyX5, ck_X5, by decide, rfl, wl_0 _ (List.mem_of_getElem? (i := 7) rfl), rfl, rfl, rfl⟩
theorem fl_X5_15 : FL RX5 15 5 3 2 true (.array .int) := ⟨RX5, TX5, 4, tyX5, ck_X5, by decide, rfl, wl_0 _ (List.mem_of_getElem? (i := 8) rfl), rfl, rfl, rfl⟩
theorem fl_X3_49 : FL RX3 49 3 0 0 false .int := ⟨RX3, TX3, 19, tyX3, ck_X3, by decide, rfl, wl_0 _ (List.mem_of_getElem? (i := 9) rfl), rfl, rfl, rfl⟩
theorem fl_X8_42 : FL RX8 42 3 0 0 false .int := ⟨RX3, TX3, 19, tyX3, ck_X3, by decide, rfl, wl_0 _ (List.mem_of_getElem? (i := 10) rfl), rfl, rfl, rfl⟩
theorem fl_X7_42 : FL RX7 42 3 0 0 false .int := ⟨RX3, TX3, 19, tyX3, ck_X3, by decide, rfl, wl_0 _ (List.mem_of_getElem? (i := 11) rfl), rfl, rfl, rfl⟩
theorem fl_X9_64 : FL RX9 64 3 0 0 false .int := ⟨RX3, TX3, 19, tyX3, ck_X3, by decide, rfl, wl_0 _ (List.mem_of_getElem? (i := 12) rfl), rfl, rfl, rfl⟩
theorem fl_X0_55 : FL RX0 55 3 0 0 false .int := ⟨RX3, TX3, 19, tyX3, ck_X3, by decide, rfl, wl_0 _ (List.mem_of_getElem? (i := 13) rfl), rfl, rfl, rfl⟩
theorem fl_X10_110 : FL RX10 110 3 0 0 false .int := ⟨RX3, TX3, 19, tyX3, ck_X3, by decide, rfl, wl_0 _ (List.mem_of_getElem? (i := 14) rfl), rfl, rfl, rfl⟩
theorem fl_X2_67 : FL RX2 67 3 0 0 false .int := ⟨RX3, TX3, 19, tyX3, ck_X3, by decide, rfl, wl_0 _ (List.mem_of_getElem? (i := 15) rfl), rfl, rfl, rfl⟩
theorem fl_X1_46 : FL RX1 46 3 0 0 false .int := ⟨RX3, TX3, 19, tyX3, ck_X3, by decide, rfl, wl_0 _ (List.mem_of_getElem? (i := 16) rfl), rfl, rfl, rfl⟩
theorem fl_X3_53 : FL RX3 53 3 1 0 false .int := ⟨RX3, TX3, 19, tyX3, ck_X3, by decide, rfl, wl_0 _ (List.mem_of_getElem? (i := 17) rfl), rfl, rfl, rfl⟩
theorem fl_X1_19 : FL RX1 19 3 1 0 false .int := ⟨RX3, TX3, 19, tyX3, ck_X3, by decide, rfl, wl_0 _ (List.mem_of_getElem? (i := 18) rfl), rfl, rfl, rfl⟩
theorem fl_X8_47 : FL RX8 47 3 1 0 false .int := ⟨RX3, TX3, 19, tyX3, ck_X3, by decide, rfl, wl_0 _ (List.mem_of_getElem? (i := 19) rfl), rfl, rfl, rfl⟩
theorem fl_X0_39 : FL RX0 39 3 1 0 false .int := ⟨RX3, TX3, 19, tyX3, ck_X3, by decide, rfl, wl_0 _ (List.mem_of_getElem? (i := 20) rfl), rfl, rfl, rfl⟩
theorem fl_X9_69 : FL RX9 69 3 1 0 false .int := ⟨RX3, TX3, 19, tyX3, ck_X3, by decide, rfl, wl_0 _ (List.mem_of_getElem? (i := 21) rfl), rfl, rfl, rfl⟩
theorem fl_X2_64 : FL RX2 64 3 1 0 false .int := ⟨RX3, TX3, 19, tyX3, ck_X3, by decide, rfl, wl_0 _ (List.mem_of_getElem? (i := 22) rfl), rfl, rfl, rfl⟩
theorem fl_X10_113 : FL RX10 113 3 1 0 false .int := ⟨RX3, TX3, 19, tyX3, ck_X3, by decide, rfl, wl_0 _ (List.mem_of_getElem? (i := 23) rfl), rfl, rfl, rfl⟩
theorem fl_X4_65 : FL RX4 65 3 1 0 false .int := ⟨RX3, TX3, 19, tyX3, ck_X3, by decide, rfl, wl_1 _ (List.mem_of_getElem? (i := 0) rfl), rfl, rfl, rfl⟩
theorem fl_X3_56 : FL RX3 56 3 2 0 false .int := ⟨RX3, TX3, 19, tyX3, ck_X3, by decide, rfl, wl_1 _ (List.mem_of_getElem? (i := 1) rfl), rfl, rfl, rfl⟩
theorem fl_X10_317 : FL RX10 317 3 2 0 false .int := ⟨RX3, TX3, 19, tyX3, ck_X3, by decide, rfl, wl_1 _ (List.mem_of_getElem? (i := 2) rfl), rfl, rfl, rfl⟩
theorem fl_X3_9 : FL RX3 9 3 3 2 true (.array .int) := ⟨RX3, TX3, 19, tyX3, ck_X3, by decide, rfl, wl_1 _ (List.mem_of_getElem? (i := 3) rfl), rfl, rfl, rfl⟩
theorem fl_X10_135 : FL RX10 135 3 3 2 true (.array .int) := ⟨RX3, TX3, 19, tyX3, ck_X3, by decide, rfl, wl_1 _ (List.mem_of_getElem? (i := 4) rfl), rfl, rfl, rfl⟩
theorem fl_X2_97 : FL RX2 97 3 3 2 true (.array .int) := ⟨RX3, TX3, 19, tyX3, ck_X3, by decide, rfl, wl_1 _ (List.mem_of_getElem? (i := 5) rfl), rfl, rfl, rfl⟩
theorem fl_X3_15 : FL RX3 15 3 4 2 true (.array .int) := ⟨RX3, TX3, 19, tyX3, ck_X3, by decide, rfl, wl_1 _ (List.mem_of_getElem? (i := 6) rfl), rfl, rfl, rfl⟩
theorem fl_X10_138 : FL RX10 138 3 4 2 true (.array .int) := ⟨RX3, TX3, 19, tyX3, ck_X3, by decide, rfl, wl_1 _ (List.mem_of_getElem? (i := 7) rfl), rfl, rfl, rfl⟩
theorem fl_X3_18 : FL RX3 18 3 5 2 true (.array .int) := ⟨RX3, TX3, 19, tyX3, ck_X3, by decide, rfl, wl_1 _ (List.mem_of_getElem? (i := 8) rfl), rfl, rfl, rfl⟩
theorem fl_X10_145 : FL RX10 145 3 5 2 true (.array .int) := ⟨RX3, TX3, 19, tyX3, ck_X3, by decide, rfl, wl_1 _ (List.mem_of_getElem? (i := 9) rfl), rfl, rfl, rfl⟩
theorem fl_X3_21 : FL RX3 21 3 6 2 true (.array .int) := ⟨RX3, TX3, 19, tyX3, ck_X3, by decide, rfl, wl_1 _ (List.mem_of_getElem? (i := 10) rfl), rfl, rfl, rfl⟩
theorem fl_X2_100 : FL RX2 100 3 6 2 true (.array .int) := ⟨RX3, TX3, 19, tyX3, ck_X3, by decide, rfl, wl_1 _ (List.mem_of_getElem? (i := 11) rfl), rfl, rfl, rfl⟩
theorem fl_X10_154 : FL RX10 154 3 6 2 true (.array .int) := ⟨RX3, TX3, 19, tyX3, ck_X3, by decide, rfl, wl_1 _ (List.mem_of_getElem? (i := 12) rfl), rfl, rfl, rfl⟩
theorem fl_X3_24 : FL RX3 24 3 7 2 true (.array .int) := ⟨RX3, TX3, 19, tyX3, ck_X3, by decide, rfl, wl_1 _ (List.mem_of_getElem? (i := 13) rfl), rfl, rfl, rfl⟩
theorem fl_X10_157 : FL RX10 157 3 7 2 true (.array .int) := ⟨RX3, TX3, 19, tyX3, ck_X3, by decide, rfl, wl_1 _ (List.mem_of_getElem? (i := 14) rfl), rfl, rfl, rfl⟩
theorem fl_X3_27 : FL RX3 27 3 8 2 true (.array .int) := ⟨RX3, TX3, 19, tyX3, ck_X3, by decide, rfl, wl_1 _ (List.mem_of_getElem? (i := 15) rfl), rfl, rfl, rfl⟩
theorem fl_X4_45 : FL RX4 45 3 8 2 true (.array .int) := ⟨RX3, TX3, 19, tyX3, ck_X3, by decide, rfl, wl_1 _ (List.mem_of_getElem? (i := 16) rfl), rfl, rfl, rfl⟩
theorem fl_X10_160 : FL RX10 160 3 8 2 true (.array .int) := ⟨RX3, TX3, 19, tyX3, ck_X3, by decide, rfl, wl_1 _ (List.mem_of_getElem? (i := 17) rfl), rfl, rfl, rfl⟩
theorem fl_X3_30 : FL RX3 30 3 9 2 true (.array .int) := ⟨RX3, TX3, 19, tyX3, ck_X3, by decide, rfl, wl_1 _ (List.mem_of_getElem? (i := 18) rfl), rfl, rfl, rfl⟩
theorem fl_X2_91 : FL RX2 91 3 9 2 true (.array .int) := ⟨RX3, TX3, 19, tyX3, ck_X3, by decide, rfl, wl_1 _ (List.mem_of_getElem? (i := 19) rfl), rfl, rfl, rfl⟩
theorem fl_X10_175 : FL RX10 175 3 9 2 true (.array .int) := ⟨RX3, TX3, 19, tyX3, ck_X3, by decide, rfl, wl_1 _ (List.mem_of_getElem? (i := 20) rfl), rfl, rfl, rfl⟩
theorem fl_X3_59 : FL RX3 59 3 10 0 false .int := ⟨RX3, TX3, 19, tyX3, ck_X3, by decide, rfl, wl_1 _ (List.mem_of_getElem? (i := 21) rfl), rfl, rfl, rfl⟩
theorem fl_X0_45 : FL RX0 45 3 10 0 false .int := ⟨RX3, TX3, 19, tyX3, ck_X3, by decide, rfl, wl_1 _ (List.mem_of_getElem? (i := 22) rfl), rfl, rfl, rfl⟩
theorem fl_X10_163 : FL RX10 163 3 10 0 false .int := ⟨RX3, TX3, 19, tyX3, ck_X3, by decide, rfl, wl_1 _ (List.mem_of_getElem? (i := 23) rfl), rfl, rfl, rfl⟩
theorem fl_X3_36 : FL RX3 36 3 11 2 true (.object "OnByThursday$Plot") := ⟨RX3, TX3, 19, tyX3, ck_X3, by decide, rfl, wl_2 _ (List.mem_of_getElem? (i := 0) rfl), rfl, rfl, rfl⟩
theorem fl_X10_166 : FL RX10 166 3 11 2 true (.object "OnByThursday$Plot") := ⟨RX3, TX3, 19, tyX3, ck_X3, by decide, rfl, wl_2 _ (List.mem_of_getElem? (i := 1) rfl), rfl, rfl, rfl⟩
theorem fl_X3_40 : FL RX3 40 3 12 2 true (.array .int) := ⟨RX3, TX3, 19, tyX3, ck_X3, by decide, rfl, wl_2 _ (List.mem_of_getElem? (i := 2) rfl), rfl, rfl, rfl⟩
theorem fl_X7_75 : FL RX7 75 3 12 2 true (.array .int) := ⟨RX3, TX3, 19, tyX3, ck_X3, by decide, rfl, wl_2 _ (List.mem_of_getElem? (i := 3) rfl), rfl, rfl, rfl⟩
theorem fl_X3_71 : FL RX3 71 3 13 0 false .int := ⟨RX3, TX3, 19, tyX3, ck_X3, by decide, rfl, wl_2 _ (List.mem_of_getElem? (i := 4) rfl), rfl, rfl, rfl⟩
theorem fl_X2_94 : FL RX2 94 3 13 0 false .int := ⟨RX3, TX3, 19, tyX3, ck_X3, by decide, rfl, wl_2 _ (List.mem_of_getElem? (i := 5) rfl), rfl, rfl, rfl⟩
theorem fl_X3_74 : FL RX3 74 3 14 0 false .int := ⟨RX3, TX3, 19, tyX3, ck_X3, by decide, rfl, wl_2 _ (List.mem_of_getElem? (i := 6) rfl), rfl, rfl, rfl⟩
theorem fl_X4_34 : FL RX4 34 3 14 0 false .int := ⟨RX3, TX3, 19, tyX3, ck_X3, by decide, rfl, wl_2 _ (List.mem_of_getElem? (i := 7) rfl), rfl, rfl, rfl⟩
theorem fl_X3_77 : FL RX3 77 3 15 0 false .int := ⟨RX3, TX3, 19, tyX3, ck_X3, by decide, rfl, wl_2 _ (List.mem_of_getElem? (i := 8) rfl), rfl, rfl, rfl⟩
theorem fl_X4_59 : FL RX4 59 3 15 0 false .int := ⟨RX3, TX3, 19, tyX3, ck_X3, by decide, rfl, wl_2 _ (List.mem_of_getElem? (i := 9) rfl), rfl, rfl, rfl⟩
theorem fl_X3_80 : FL RX3 80 3 16 0 false .int := ⟨RX3, TX3, 19, tyX3, ck_X3, by decide, rfl, wl_2 _ (List.mem_of_getElem? (i := 10) rfl), rfl, rfl, rfl⟩
theorem fl_X4_62 : FL RX4 62 3 16 0 false .int := ⟨RX3, TX3, 19, tyX3, ck_X3, by decide, rfl, wl_2 _ (List.mem_of_getElem? (i := 11) rfl), rfl, rfl, rfl⟩
theorem fl_X3_43 : FL RX3 43 3 17 2 true (.array .int) := ⟨RX3, TX3, 19, tyX3, ck_X3, by decide, rfl, wl_2 _ (List.mem_of_getElem? (i := 12) rfl), rfl, rfl, rfl⟩
theorem fl_X1_28 : FL RX1 28 3 17 2 true (.array .int) := ⟨RX3, TX3, 19, tyX3, ck_X3, by decide, rfl, wl_2 _ (List.mem_of_getElem? (i := 13) rfl), rfl, rfl, rfl⟩
theorem fl_X2_44 : FL RX2 44 3 17 2 true (.array .int) := ⟨RX3, TX3, 19, tyX3, ck_X3, by decide, rfl, wl_2 _ (List.mem_of_getElem? (i := 14) rfl), rfl, rfl, rfl⟩
theorem fl_X3_46 : FL RX3 46 3 18 2 true (.array .int) := ⟨RX3, TX3, 19, tyX3, ck_X3, by decide, rfl, wl_2 _ (List.mem_of_getElem? (i := 15) rfl), rfl, rfl, rfl⟩
theorem fl_X1_31 : FL RX1 31 3 18 2 true (.array .int) := ⟨RX3, TX3, 19, tyX3, ck_X3, by decide, rfl, wl_2 _ (List.mem_of_getElem? (i := 16) rfl), rfl, rfl, rfl⟩
theorem fl_X2_53 : FL RX2 53 3 18 2 true (.array .int) := ⟨RX3, TX3, 19, tyX3, ck_X3, by decide, rfl, wl_2 _ (List.mem_of_getElem? (i := 17) rfl), rfl, rfl, rfl⟩
theorem fl_X9_90 : FL RX9 90 3 18 2 true (.array .int) := ⟨RX3, TX3, 19, tyX3, ck_X3, by decide, rfl, wl_2 _ (List.mem_of_getElem? (i := 18) rfl), rfl, rfl, rfl⟩
theorem fl_X10_178 : FL RX10 178 3 18 2 true (.array .int) := ⟨RX3, TX3, 19, tyX3, ck_X3, by decide, rfl, wl_2 _ (List.mem_of_getElem? (i := 19) rfl), rfl, rfl, rfl⟩
theorem fl_X4_18 : FL RX4 18 4 0 0 false .int := ⟨RX4, TX4, 3, tyX4, ck_X4, by decide, rfl, wl_2 _ (List.mem_of_getElem? (i := 20) rfl), rfl, rfl, rfl⟩
theorem fl_X10_249 : FL RX10 249 4 0 0 false .int := ⟨RX4, TX4, 3, tyX4, ck_X4, by decide, rfl, wl_2 _ (List.mem_of_getElem? (i := 21) rfl), rfl, rfl, rfl⟩
theorem fl_X4_9 : FL RX4 9 4 1 2 true (.array .int) := ⟨RX4, TX4, 3, tyX4, ck_X4, by decide, rfl, wl_2 _ (List.mem_of_getElem? (i := 22) rfl), rfl, rfl, rfl⟩
theorem fl_X10_302 : FL RX10 302 4 1 2 true (.array .int) := ⟨RX4, TX4, 3, tyX4, ck_X4, by decide, rfl, wl_2 _ (List.mem_of_getElem? (i := 23) rfl), rfl, rfl, rfl⟩
theorem fl_X4_15 : FL RX4 15 4 2 2 true (.array .int) := ⟨RX4, TX4, 3, tyX4, ck_X4, by decide, rfl, wl_3 _ (List.mem_of_getElem? (i := 0) rfl), rfl, rfl, rfl⟩
theorem fl_X2_27 : FL RX2 27 2 0 2 false (.object "OnByThursday$Company") := ⟨RX2, TX2, 9, tyX2, ck_X2, by decide, rfl, wl_3 _ (List.mem_of_getElem? (i := 1) rfl), rfl, rfl, rfl⟩
theorem fl_X2_31 : FL RX2 31 2 1 0 false .int := ⟨RX2, TX2, 9, tyX2, ck_X2, by decide, rfl, wl_3 _ (List.mem_of_getElem? (i := 2) rfl), rfl, rfl, rfl⟩
theorem fl_X2_35 : FL RX2 35 2 2 0 false .int := ⟨RX2, TX2, 9, tyX2, ck_X2, by decide, rfl, wl_3 _ (List.mem_of_getElem? (i := 3) rfl), rfl, rfl, rfl⟩
theorem fl_X2_9 : FL RX2 9 2 3 2 true (.array .int) := ⟨RX2, TX2, 9, tyX2, ck_X2, by decide, rfl, wl_3 _ (List.mem_of_getElem? (i := 4) rfl), rfl, rfl, rfl⟩
theorem fl_X2_15 : FL RX2 15 2 4 2 true (.array .int) := ⟨RX2, TX2, 9, tyX2, ck_X2, by decide, rfl, wl_3 _ (List.mem_of_getElem? (i := 5) rfl), rfl, rfl, rfl⟩
theorem fl_X2_18 : FL RX2 18 2 5 2 true (.array .int) := ⟨RX2, TX2, 9, tyX2, ck_X2, by decide, rfl, wl_3 _ (List.mem_of_getElem? (i := 6) rfl), rfl, rfl, rfl⟩
theorem fl_X2_21 : FL RX2 21 2 6 2 true (.array .int) := ⟨RX2, TX2, 9, tyX2, ck_X2, by decide, rfl, wl_3 _ (List.mem_of_getElem? (i := 7) rfl), rfl, rfl, rfl⟩
theorem fl_X2_24 : FL RX2 24 2 7 2 true (.array .int) := ⟨RX2, TX2, 9, tyX2, ck_X2, by decide, rfl, wl_3 _ (List.mem_of_getElem? (i := 8) rfl), rfl, rfl, rfl⟩
theorem fl_X10_209 : FL RX10 209 2 7 2 true (.array .int) := ⟨RX2, TX2, 9, tyX2, ck_X2, by decide, rfl, wl_3 _ (List.mem_of_getElem? (i := 9) rfl), rfl, rfl, rfl⟩
theorem fl_X2_74 : FL RX2 74 2 8 0 false .int := ⟨RX2, TX2, 9, tyX2, ck_X2, by decide, rfl, wl_3 _ (List.mem_of_getElem? (i := 10) rfl), rfl, rfl, rfl⟩
theorem fl_X10_198 : FL RX10 198 2 8 0 false .int := ⟨RX2, TX2, 9, tyX2, ck_X2, by decide, rfl, wl_3 _ (List.mem_of_getElem? (i := 11) rfl), rfl, rfl, rfl⟩
theorem fl_X1_15 : FL RX1 15 1 0 2 false (.object "OnByThursday$Company") := ⟨RX1, TX1, 3, tyX1, ck_X1, by decide, rfl, wl_3 _ (List.mem_of_getElem? (i := 12) rfl), rfl, rfl, rfl⟩
theorem fl_X1_25 : FL RX1 25 1 1 0 false .int := ⟨RX1, TX1, 3, tyX1, ck_X1, by decide, rfl, wl_3 _ (List.mem_of_getElem? (i := 13) rfl), rfl, rfl, rfl⟩
theorem fl_X1_9 : FL RX1 9 1 2 2 true (.array .int) := ⟨RX1, TX1, 3, tyX1, ck_X1, by decide, rfl, wl_3 _ (List.mem_of_getElem? (i := 14) rfl), rfl, rfl, rfl⟩
theorem fl_X0_9 : FL RX0 9 0 0 2 true (.array .int) := ⟨RX0, TX0, 4, tyX0, ck_X0, by decide, rfl, wl_3 _ (List.mem_of_getElem? (i := 15) rfl), rfl, rfl, rfl⟩
theorem fl_X0_18 : FL RX0 18 0 1 2 true (.object "OnByThursday$Attempt") := ⟨RX0, TX0, 4, tyX0, ck_X0, by decide, rfl, wl_3 _ (List.mem_of_getElem? (i := 16) rfl), rfl, rfl, rfl⟩
theorem fl_X0_22 : FL RX0 22 0 2 2 true (.array .int) := ⟨RX0, TX0, 4, tyX0, ck_X0, by decide, rfl, wl_3 _ (List.mem_of_getElem? (i := 17) rfl), rfl, rfl, rfl⟩
theorem fl_X9_57 : FL RX9 57 0 2 2 true (.array .int) := ⟨RX0, TX0, 4, tyX0, ck_X0, by decide, rfl, wl_3 _ (List.mem_of_getElem? (i := 18) rfl), rfl, rfl, rfl⟩
theorem fl_X10_277 : FL RX10 277 0 2 2 true (.array .int) := ⟨RX0, TX0, 4, tyX0, ck_X0, by decide, rfl, wl_3 _ (List.mem_of_getElem? (i := 19) rfl), rfl, rfl, rfl⟩
theorem fl_X9_54 : FL RX9 54 0 3 0 false .int := ⟨RX0, TX0, 4, tyX0, ck_X0, by decide, rfl, wl_3 _ (List.mem_of_getElem? (i := 20) rfl), rfl, rfl, rfl⟩
theorem fl_X0_52 : FL RX0 52 0 3 0 false .int := ⟨RX0, TX0, 4, tyX0, ck_X0, by decide, rfl, wl_3 _ (List.mem_of_getElem? (i := 21) rfl), rfl, rfl, rfl⟩
theorem fl_X10_274 : FL RX10 274 0 3 0 false .int := ⟨RX0, TX0, 4, tyX0, ck_X0, by decide, rfl, wl_3 _ (List.mem_of_getElem? (i := 22) rfl), rfl, rfl, rfl⟩
theorem fl_X9_12 : FL RX9 12 9 0 2 true (.object "OnByThursday$Attempt") := ⟨RX9, TX9, 10, tyX9, ck_X9, by decide, rfl, wl_3 _ (List.mem_of_getElem? (i := 23) rfl), rfl, rfl, rfl⟩
theorem fl_X9_18 : FL RX9 18 9 1 2 true (.array .int) := ⟨RX9, TX9, 10, tyX9, ck_X9, by decide, rfl, wl_4 _ (List.mem_of_getElem? (i := 0) rfl), rfl, rfl, rfl⟩
theorem fl_X9_22 : FL RX9 22 9 2 2 true (.array .int) := ⟨RX9, TX9, 10, tyX9, ck_X9, by decide, rfl, wl_4 _ (List.mem_of_getElem? (i := 1) rfl), rfl, rfl, rfl⟩
theorem fl_X9_51 : FL RX9 51 9 3 0 false .int := ⟨RX9, TX9, 10, tyX9, ck_X9, by decide, rfl, wl_4 _ (List.mem_of_getElem? (i := 2) rfl), rfl, rfl, rfl⟩
theorem fl_X9_25 : FL RX9 25 9 4 2 true (.array .long) := ⟨RX9, TX9, 10, tyX9, ck_X9, by decide, rfl, wl_4 _ (List.mem_of_getElem? (i := 3) rfl), rfl, rfl, rfl⟩
theorem fl_X9_29 : FL RX9 29 9 5 0 false .int := ⟨RX9, TX9, 10, tyX9, ck_X9, by decide, rfl, wl_4 _ (List.mem_of_getElem? (i := 4) rfl), rfl, rfl, rfl⟩
theorem fl_X9_33 : FL RX9 33 9 6 0 false .boolean := ⟨RX9, TX9, 10, tyX9, ck_X9, by decide, rfl, wl_4 _ (List.mem_of_getElem? (i := 5) rfl), rfl, rfl, rfl⟩
theorem fl_X9_105 : FL RX9 105 9 7 0 false .boolean := ⟨RX9, TX9, 10, tyX9, ck_X9, by decide, rfl, wl_4 _ (List.mem_of_getElem? (i := 6) rfl), rfl, rfl, rfl⟩
theorem fl_X9_93 : FL RX9 93 9 8 0 false .int := ⟨RX9, TX9, 10, tyX9, ck_X9, by decide, rfl, wl_4 _ (List.mem_of_getElem? (i := 7) rfl), rfl, rfl, rfl⟩
theorem fl_X10_287 : FL RX10 287 9 8 0 false .int := ⟨RX9, TX9, 10, tyX9, ck_X9, by decide, rfl, wl_4 _ (List.mem_of_getElem? (i := 8) rfl), rfl, rfl, rfl⟩
theorem fl_X9_102 : FL RX9 102 9 9 0 false .int := ⟨RX9, TX9, 10, tyX9, ck_X9, by decide, rfl, wl_4 _ (List.mem_of_getElem? (i := 9) rfl), rfl, rfl, rfl⟩
theorem fl_X10_290 : FL RX10 290 9 9 0 false .int := ⟨RX9, TX9, 10, tyX9, ck_X9, by decide, rfl, wl_4 _ (List.mem_of_getElem? (i := 10) rfl), rfl, rfl, rfl⟩
theorem fl_X7_9 : FL RX7 9 7 0 2 true (.array .int) := ⟨RX7, TX7, 7, tyX7, ck_X7, by decide, rfl, wl_4 _ (List.mem_of_getElem? (i := 11) rfl), rfl, rfl, rfl⟩
theorem fl_X10_264 : FL RX10 264 7 0 2 true (.array .int) := ⟨RX7, TX7, 7, tyX7, ck_X7, by decide, rfl, wl_4 _ (List.mem_of_getElem? (i := 12) rfl), rfl, rfl, rfl⟩
theorem fl_X7_15 : FL RX7 15 7 1 2 true (.array .int) := ⟨RX7, TX7, 7, tyX7, ck_X7, by decide, rfl, wl_4 _ (List.mem_of_getElem? (i := 13) rfl), rfl, rfl, rfl⟩
theorem fl_X7_18 : FL RX7 18 7 2 2 true (.array .int) := ⟨RX7, TX7, 7, tyX7, ck_X7, by decide, rfl, wl_4 _ (List.mem_of_getElem? (i := 14) rfl), rfl, rfl, rfl⟩
theorem fl_X7_21 : FL RX7 21 7 3 2 true (.array .int) := ⟨RX7, TX7, 7, tyX7, ck_X7, by decide, rfl, wl_4 _ (List.mem_of_getElem? (i := 15) rfl), rfl, rfl, rfl⟩
theorem fl_X7_60 : FL RX7 60 7 4 0 false .int := ⟨RX7, TX7, 7, tyX7, ck_X7, by decide, rfl, wl_4 _ (List.mem_of_getElem? (i := 16) rfl), rfl, rfl, rfl⟩
theorem fl_X7_24 : FL RX7 24 7 5 0 false .int := ⟨RX7, TX7, 7, tyX7, ck_X7, by decide, rfl, wl_4 _ (List.mem_of_getElem? (i := 17) rfl), rfl, rfl, rfl⟩
theorem fl_X7_28 : FL RX7 28 7 6 0 false .int := ⟨RX7, TX7, 7, tyX7, ck_X7, by decide, rfl, wl_4 _ (List.mem_of_getElem? (i := 18) rfl), rfl, rfl, rfl⟩
theorem fl_X8_11 : FL RX8 11 8 0 2 true (.array .int) := ⟨RX8, TX8, 9, tyX8, ck_X8, by decide, rfl, wl_4 _ (List.mem_of_getElem? (i := 19) rfl), rfl, rfl, rfl⟩
theorem fl_X8_15 : FL RX8 15 8 1 2 true (.array .int) := ⟨RX8, TX8, 9, tyX8, ck_X8, by decide, rfl, wl_4 _ (List.mem_of_getElem? (i := 20) rfl), rfl, rfl, rfl⟩
theorem fl_X8_18 : FL RX8 18 8 2 2 true (.array .int) := ⟨RX8, TX8, 9, tyX8, ck_X8, by decide, rfl, wl_4 _ (List.mem_of_getElem? (i := 21) rfl), rfl, rfl, rfl⟩
theorem fl_X8_38 : FL RX8 38 8 3 0 false .int := ⟨RX8, TX8, 9, tyX8, ck_X8, by decide, rfl, wl_4 _ (List.mem_of_getElem? (i := 22) rfl), rfl, rfl, rfl⟩
theorem fl_X8_21 : FL RX8 21 8 4 2 true (.array .int) := ⟨RX8, TX8, 9, tyX8, ck_X8, by decide, rfl, wl_4 _ (List.mem_of_getElem? (i := 23) rfl), rfl, rfl, rfl⟩
theorem fl_X8_24 : FL RX8 24 8 5 2 true (.array .int) := ⟨RX8, TX8, 9, tyX8, ck_X8, by decide, rfl, wl_5 _ (List.mem_of_getElem? (i := 0) rfl), rfl, rfl, rfl⟩
theorem fl_X10_246 : FL RX10 246 8 5 2 true (.array .int) := ⟨RX8, TX8, 9, tyX8, ck_X8, by decide, rfl, wl_5 _ (List.mem_of_getElem? (i := 1) rfl), rfl, rfl, rfl⟩
theorem fl_X8_79 : FL RX8 79 8 6 0 false .int := ⟨RX8, TX8, 9, tyX8, ck_X8, by decide, rfl, wl_5 _ (List.mem_of_getElem? (i := 2) rfl), rfl, rfl, rfl⟩
theorem fl_X10_243 : FL RX10 243 8 6 0 false .int := ⟨RX8, TX8, 9, tyX8, ck_X8, by decide, rfl, wl_5 _ (List.mem_of_getElem? (i := 3) rfl), rfl, rfl, rfl⟩
theorem fl_X8_82 : FL RX8 82 8 7 0 false .int := ⟨RX8, TX8, 9, tyX8, ck_X8, by decide, rfl, wl_5 _ (List.mem_of_getElem? (i := 4) rfl), rfl, rfl, rfl⟩
theorem fl_X10_237 : FL RX10 237 8 7 0 false .int := ⟨RX8, TX8, 9, tyX8, ck_X8, by decide, rfl, wl_5 _ (List.mem_of_getElem? (i := 5) rfl), rfl, rfl, rfl⟩
theorem fl_X8_85 : FL RX8 85 8 8 0 false .int := ⟨RX8, TX8, 9, tyX8, ck_X8, by decide, rfl, wl_5 _ (List.mem_of_getElem? (i := 6) rfl), rfl, rfl, rfl⟩
theorem fl_X10_240 : FL RX10 240 8 8 0 false .int := ⟨RX8, TX8, 9, tyX8, ck_X8, by decide, rfl, wl_5 _ (List.mem_of_getElem? (i := 7) rfl), rfl, rfl, rfl⟩
theorem fl_X10_9 : FL RX10 9 10 0 2 true (.array .byte) := ⟨RX10, TX10, 15, tyX10, ck_X10, by decide, rfl, wl_5 _ (List.mem_of_getElem? (i := 8) rfl), rfl, rfl, rfl⟩
theorem fl_X10_102 : FL RX10 102 10 1 0 false .int := ⟨RX10, TX10, 15, tyX10, ck_X10, by decide, rfl, wl_5 _ (List.mem_of_getElem? (i := 9) rfl), rfl, rfl, rfl⟩
theorem fl_X10_16 : FL RX10 16 10 2 2 true (.object "OnByThursday$Reader") := ⟨RX10, TX10, 15, tyX10, ck_X10, by decide, rfl, wl_5 _ (List.mem_of_getElem? (i := 10) rfl), rfl, rfl, rfl⟩
theorem fl_X10_23 : FL RX10 23 10 3 2 false (.object "OnByThursday$Company") := ⟨RX10, TX10, 15, tyX10, ck_X10, by decide, rfl, wl_5 _ (List.mem_of_getElem? (i := 11) rfl), rfl, rfl, rfl⟩
theorem fl_X10_27 : FL RX10 27 10 4 2 false (.object "OnByThursday$Company") := ⟨RX10, TX10, 15, tyX10, ck_X10, by decide, rfl, wl_5 _ (List.mem_of_getElem? (i := 12) rfl), rfl, rfl, rfl⟩
theorem fl_X10_33 : FL RX10 33 10 5 2 true (.object "OnByThursday$Diary") := ⟨RX10, TX10, 15, tyX10, ck_X10, by decide, rfl, wl_5 _ (List.mem_of_getElem? (i := 13) rfl), rfl, rfl, rfl⟩
theorem fl_X10_37 : FL RX10 37 10 6 2 true (.object "OnByThursday$Diary") := ⟨RX10, TX10, 15, tyX10, ck_X10, by decide, rfl, wl_5 _ (List.mem_of_getElem? (i := 14) rfl), rfl, rfl, rfl⟩
theorem fl_X10_40 : FL RX10 40 10 7 2 true (.object "OnByThursday$Diary") := ⟨RX10, TX10, 15, tyX10, ck_X10, by decide, rfl, wl_5 _ (List.mem_of_getElem? (i := 15) rfl), rfl, rfl, rfl⟩
theorem fl_X10_117 : FL RX10 117 10 8 0 false .int := ⟨RX10, TX10, 15, tyX10, ck_X10, by decide, rfl, wl_5 _ (List.mem_of_getElem? (i := 16) rfl), rfl, rfl, rfl⟩
theorem fl_X10_43 : FL RX10 43 10 9 2 true (.array .int) := ⟨RX10, TX10, 15, tyX10, ck_X10, by decide, rfl, wl_5 _ (List.mem_of_getElem? (i := 17) rfl), rfl, rfl, rfl⟩
theorem fl_X10_50 : FL RX10 50 10 10 2 true (.object "OnByThursday$Caster") := ⟨RX10, TX10, 15, tyX10, ck_X10, by decide, rfl, wl_5 _ (List.mem_of_getElem? (i := 18) rfl), rfl, rfl, rfl⟩
theorem fl_X10_57 : FL RX10 57 10 11 2 true (.object "OnByThursday$Absences") := ⟨RX10, TX10, 15, tyX10, ck_X10, by decide, rfl, wl_5 _ (List.mem_of_getElem? (i := 19) rfl), rfl, rfl, rfl⟩
theorem fl_X10_64 : FL RX10 64 10 12 2 true (.object "OnByThursday$Understudies") := ⟨RX10, TX10, 15, tyX10, ck_X10, by decide, rfl, wl_5 _ (List.mem_of_getElem? (i := 20) rfl), rfl, rfl, rfl⟩
theorem fl_X10_71 : FL RX10 71 10 13 2 true (.object "OnByThursday$Sickness") := ⟨RX10, TX10, 15, tyX10, ck_X10, by decide, rfl, wl_5 _ (List.mem_of_getElem? (i := 21) rfl), rfl, rfl, rfl⟩
theorem fl_X10_78 : FL RX10 78 10 14 2 true (.object "OnByThursday$Timetable") := ⟨RX10, TX10, 15, tyX10, ck_X10, by decide, rfl, wl_5 _ (List.mem_of_getElem? (i := 22) rfl), rfl, rfl, rfl⟩
theorem fl_X11_128 : FL RX11 128 11 0 0 false .int := ⟨RX11, TX11, 42, tyX11, ck_X11, by decide, rfl, wl_5 _ (List.mem_of_getElem? (i := 23) rfl), rfl, rfl, rfl⟩
theorem fl_X11_7 : FL RX11 7 11 1 2 true (.array .int) := ⟨RX11, TX11, 42, tyX11, ck_X11, by decide, rfl, wl_6 _ (List.mem_of_getElem? (i := 0) rfl), rfl, rfl, rfl⟩
theorem fl_X11_13 : FL RX11 13 11 2 2 true (.array .int) := ⟨RX11, TX11, 42, tyX11, ck_X11, by decide, rfl, wl_6 _ (List.mem_of_getElem? (i := 1) rfl), rfl, rfl, rfl⟩
theorem fl_X11_16 : FL RX11 16 11 3 2 true (.array .int) := ⟨RX11, TX11, 42, tyX11, ck_X11, by decide, rfl, wl_6 _ (List.mem_of_getElem? (i := 2) rfl), rfl, rfl, rfl⟩
theorem fl_X11_19 : FL RX11 19 11 4 2 true (.array .int) := ⟨RX11, TX11, 42, tyX11, ck_X11, by decide, rfl, wl_6 _ (List.mem_of_getElem? (i := 3) rfl), rfl, rfl, rfl⟩
theorem fl_X11_22 : FL RX11 22 11 5 2 true (.array .int) := ⟨RX11, TX11, 42, tyX11, ck_X11, by decide, rfl, wl_6 _ (List.mem_of_getElem? (i := 4) rfl), rfl, rfl, rfl⟩
theorem fl_X11_25 : FL RX11 25 11 6 2 true (.array .int) := ⟨RX11, TX11, 42, tyX11, ck_X11, by decide, rfl, wl_6 _ (List.mem_of_getElem? (i := 5) rfl), rfl, rfl, rfl⟩
theorem fl_X11_28 : FL RX11 28 11 7 2 true (.array .int) := ⟨RX11, TX11, 42, tyX11, ck_X11, by decide, rfl, wl_6 _ (List.mem_of_getElem? (i := 6) rfl), rfl, rfl, rfl⟩
theorem fl_X11_31 : FL RX11 31 11 8 2 true (.array .int) := ⟨RX11, TX11, 42, tyX11, ck_X11, by decide, rfl, wl_6 _ (List.mem_of_getElem? (i := 7) rfl), rfl, rfl, rfl⟩
theorem fl_X11_34 : FL RX11 34 11 9 2 true (.array .int) := ⟨RX11, TX11, 42, tyX11, ck_X11, by decide, rfl, wl_6 _ (List.mem_of_getElem? (i := 8) rfl), rfl, rfl, rfl⟩
theorem fl_X11_37 : FL RX11 37 11 10 2 true (.array .int) := ⟨RX11, TX11, 42, tyX11, ck_X11, by decide, rfl, wl_6 _ (List.mem_of_getElem? (i := 9) rfl), rfl, rfl, rfl⟩
theorem fl_X11_40 : FL RX11 40 11 11 2 true (.array .int) := ⟨RX11, TX11, 42, tyX11, ck_X11, by decide, rfl, wl_6 _ (List.mem_of_getElem? (i := 10) rfl), rfl, rfl, rfl⟩
theorem fl_X11_43 : FL RX11 43 11 12 2 true (.array .int) := ⟨RX11, TX11, 42, tyX11, ck_X11, by decide, rfl, wl_6 _ (List.mem_of_getElem? (i := 11) rfl), rfl, rfl, rfl⟩
theorem fl_X11_46 : FL RX11 46 11 13 2 true (.array .int) := ⟨RX11, TX11, 42, tyX11, ck_X11, by decide, rfl, wl_6 _ (List.mem_of_getElem? (i := 12) rfl), rfl, rfl, rfl⟩
theorem fl_X11_49 : FL RX11 49 11 14 2 true (.array .int) := ⟨RX11, TX11, 42, tyX11, ck_X11, by decide, rfl, wl_6 _ (List.mem_of_getElem? (i := 13) rfl), rfl, rfl, rfl⟩
theorem fl_X11_52 : FL RX11 52 11 15 2 true (.array .int) := ⟨RX11, TX11, 42, tyX11, ck_X11, by decide, rfl, wl_6 _ (List.mem_of_getElem? (i := 14) rfl), rfl, rfl, rfl⟩
theorem fl_X11_55 : FL RX11 55 11 16 2 true (.array .int) := ⟨RX11, TX11, 42, tyX11, ck_X11, by decide, rfl, wl_6 _ (List.mem_of_getElem? (i := 15) rfl), rfl, rfl, rfl⟩
theorem fl_X11_58 : FL RX11 58 11 17 2 true (.array .int) := ⟨RX11, TX11, 42, tyX11, ck_X11, by decide, rfl, wl_6 _ (List.mem_of_getElem? (i := 16) rfl), rfl, rfl, rfl⟩
theorem fl_X11_61 : FL RX11 61 11 18 2 true (.array .int) := ⟨RX11, TX11, 42, tyX11, ck_X11, by decide, rfl, wl_6 _ (List.mem_of_getElem? (i := 17) rfl), rfl, rfl, rfl⟩
theorem fl_X11_64 : FL RX11 64 11 19 2 true (.array .int) := ⟨RX11, TX11, 42, tyX11, ck_X11, by decide, rfl, wl_6 _ (List.mem_of_getElem? (i := 18) rfl), rfl, rfl, rfl⟩
theorem fl_X11_67 : FL RX11 67 11 20 2 true (.array .int) := ⟨RX11, TX11, 42, tyX11, ck_X11, by decide, rfl, wl_6 _ (List.mem_of_getElem? (i := 19) rfl), rfl, rfl, rfl⟩
theorem fl_X11_70 : FL RX11 70 11 21 2 true (.array .int) := ⟨RX11, TX11, 42, tyX11, ck_X11, by decide, rfl, wl_6 _ (List.mem_of_getElem? (i := 20) rfl), rfl, rfl, rfl⟩
theorem fl_X11_180 : FL RX11 180 11 22 0 false .int := ⟨RX11, TX11, 42, tyX11, ck_X11, by decide, rfl, wl_6 _ (List.mem_of_getElem? (i := 21) rfl), rfl, rfl, rfl⟩
theorem fl_X11_134 : FL RX11 134 11 23 0 false .int := ⟨RX11, TX11, 42, tyX11, ck_X11, by decide, rfl, wl_6 _ (List.mem_of_getElem? (i := 22) rfl), rfl, rfl, rfl⟩
theorem fl_X11_73 : FL RX11 73 11 24 2 true (.array .int) := ⟨RX11, TX11, 42, tyX11, ck_X11, by decide, rfl, wl_6 _ (List.mem_of_getElem? (i := 23) rfl), rfl, rfl, rfl⟩
theorem fl_X11_76 : FL RX11 76 11 25 2 true (.array .int) := ⟨RX11, TX11, 42, tyX11, ck_X11, by decide, rfl, wl_7 _ (List.mem_of_getElem? (i := 0) rfl), rfl, rfl, rfl⟩
theorem fl_X11_79 : FL RX11 79 11 26 2 true (.array .int) := ⟨RX11, TX11, 42, tyX11, ck_X11, by decide, rfl, wl_7 _ (List.mem_of_getElem? (i := 1) rfl), rfl, rfl, rfl⟩
theorem fl_X11_82 : FL RX11 82 11 27 2 true (.array .int) := ⟨RX11, TX11, 42, tyX11, ck_X11, by decide, rfl, wl_7 _ (List.mem_of_getElem? (i := 2) rfl), rfl, rfl, rfl⟩
theorem fl_X11_85 : FL RX11 85 11 28 2 true (.array .int) := ⟨RX11, TX11, 42, tyX11, ck_X11, by decide, rfl, wl_7 _ (List.mem_of_getElem? (i := 3) rfl), rfl, rfl, rfl⟩
theorem fl_X11_88 : FL RX11 88 11 29 2 true (.array .int) := ⟨RX11, TX11, 42, tyX11, ck_X11, by decide, rfl, wl_7 _ (List.mem_of_getElem? (i := 4) rfl), rfl, rfl, rfl⟩
theorem fl_X11_212 : FL RX11 212 11 30 1 false .long := ⟨RX11, TX11, 42, tyX11, ck_X11, by decide, rfl, wl_7 _ (List.mem_of_getElem? (i := 5) rfl), rfl, rfl, rfl⟩
theorem fl_X11_216 : FL RX11 216 11 31 0 false .int := ⟨RX11, TX11, 42, tyX11, ck_X11, by decide, rfl, wl_7 _ (List.mem_of_getElem? (i := 6) rfl), rfl, rfl, rfl⟩
theorem fl_X11_247 : FL RX11 247 11 32 0 false .int := ⟨RX11, TX11, 42, tyX11, ck_X11, by decide, rfl, wl_7 _ (List.mem_of_getElem? (i := 7) rfl), rfl, rfl, rfl⟩
theorem fl_X11_91 : FL RX11 91 11 33 2 true (.array .int) := ⟨RX11, TX11, 42, tyX11, ck_X11, by decide, rfl, wl_7 _ (List.mem_of_getElem? (i := 8) rfl), rfl, rfl, rfl⟩
theorem fl_X11_94 : FL RX11 94 11 34 2 true (.array .int) := ⟨RX11, TX11, 42, tyX11, ck_X11, by decide, rfl, wl_7 _ (List.mem_of_getElem? (i := 9) rfl), rfl, rfl, rfl⟩
theorem fl_X11_97 : FL RX11 97 11 35 2 true (.array .int) := ⟨RX11, TX11, 42, tyX11, ck_X11, by decide, rfl, wl_7 _ (List.mem_of_getElem? (i := 10) rfl), rfl, rfl, rfl⟩
theorem fl_X11_100 : FL RX11 100 11 36 2 true (.array .int) := ⟨RX11, TX11, 42, tyX11, ck_X11, by decide, rfl, wl_7 _ (List.mem_of_getElem? (i := 11) rfl), rfl, rfl, rfl⟩
theorem fl_X11_103 : FL RX11 103 11 37 2 true (.array .int) := ⟨RX11, TX11, 42, tyX11, ck_X11, by decide, rfl, wl_7 _ (List.mem_of_getElem? (i := 12) rfl), rfl, rfl, rfl⟩
theorem fl_X11_106 : FL RX11 106 11 38 2 true (.array .int) := ⟨RX11, TX11, 42, tyX11, ck_X11, by decide, rfl, wl_7 _ (List.mem_of_getElem? (i := 13) rfl), rfl, rfl, rfl⟩
theorem fl_X11_282 : FL RX11 282 11 39 0 false .int := ⟨RX11, TX11, 42, tyX11, ck_X11, by decide, rfl, wl_7 _ (List.mem_of_getElem? (i := 14) rfl), rfl, rfl, rfl⟩
theorem fl_X11_109 : FL RX11 109 11 40 2 true (.array .int) := ⟨RX11, TX11, 42, tyX11, ck_X11, by decide, rfl, wl_7 _ (List.mem_of_getElem? (i := 15) rfl), rfl, rfl, rfl⟩
theorem fl_X11_112 : FL RX11 112 11 41 2 true (.array .int) := ⟨RX11, TX11, 42, tyX11, ck_X11, by decide, rfl, wl_7 _ (List.mem_of_getElem? (i := 16) rfl), rfl, rfl, rfl⟩
def NW (own : String) (idx ci : Nat) : Prop := ∃ (C : String) (T : u_T) (N : Nat) (ty : Nat → FieldType), CK ci C T N ty ∧ Cond.classLink own idx C ∈ lw_tbl ∧ Cond.instantiable C N ∈ lw_tbl ∧ Cond.initialized C ∈ lw_tbl ∧ ∀ k, k < N → ((fk ci).getD k 0 = 0 ∧ defaultValue (ty k) = .int 0) ∨ ((fk ci).getD k 0 = 1 ∧ defaultValue (ty k) = .long 0) ∨ ((fk ci).getD k 0 = 2 ∧ defaultValue (ty k) = .null)
theorem nw_L_7 : NW RL 7 10 := ⟨RX10, TX10, 15, tyX10, ck_X10, List.mem_of_getElem? (i := 83) (by decide +kernel), List.mem_of_getElem? (i := 84) (by decide +kernel), List.mem_of_getElem? (i := 66) (by decide +kernel), by decide +kernel⟩
theorem nw_X10_13 : NW RX10 13 6 := ⟨RX6, TX6, 2, tyX6, ck_X6, List.mem_of_getElem? (i := 91) (by decide +kernel), List.mem_of_getElem? (i := 92) (by decide +kernel), List.mem_of_getElem? (i := 67) (by decide +kernel), by decide +kernel⟩
theorem nw_X10_20 : NW RX10 20 3 := ⟨RX3, TX3, 19, tyX3, ck_X3, List.mem_of_getElem? (i := 106) (by decide +kernel), List.mem_of_getElem? (i := 107) (by decide +kernel), List.mem_of_getElem? (i := 68) (by decide +kernel), by decide +kernel⟩
theorem nw_X3_33 : NW RX3 33 5 := ⟨RX5, TX5, 4, tyX5, ck_X5, List.mem_of_getElem? (i := 112) (by decide +kernel), List.mem_of_getElem? (i := 113) (by decide +kernel), List.mem_of_getElem? (i := 69) (by decide +kernel), by decide +kernel⟩
theorem nw_X10_30 : NW RX10 30 4 := ⟨RX4, TX4, 3, tyX4, ck_X4, List.mem_of_getElem? (i := 232) (by decide +kernel), List.mem_of_getElem? (i := 233) (by decide +kernel), List.mem_of_getElem? (i := 70) (by decide +kernel), by decide +kernel⟩
theorem nw_X10_47 : NW RX10 47 2 := ⟨RX2, TX2, 9, tyX2, ck_X2, List.mem_of_getElem? (i := 250) (by decide +kernel), List.mem_of_getElem? (i := 251) (by decide +kernel), List.mem_of_getElem? (i := 71) (by decide +kernel), by decide +kernel⟩
theorem nw_X10_54 : NW RX10 54 0 := ⟨RX0, TX0, 4, tyX0, ck_X0, List.mem_of_getElem? (i := 286) (by decide +kernel), List.mem_of_getElem? (i := 287) (by decide +kernel), List.mem_of_getElem? (i := 72) (by decide +kernel), by decide +kernel⟩
theorem nw_X0_15 : NW RX0 15 1 := ⟨RX1, TX1, 3, tyX1, ck_X1, List.mem_of_getElem? (i := 292) (by decide +kernel), List.mem_of_getElem? (i := 293) (by decide +kernel), List.mem_of_getElem? (i := 73) (by decide +kernel), by decide +kernel⟩
theorem nw_X10_61 : NW RX10 61 9 := ⟨RX9, TX9, 10, tyX9, ck_X9, List.mem_of_getElem? (i := 325) (by decide +kernel), List.mem_of_getElem? (i := 326) (by decide +kernel), List.mem_of_getElem? (i := 74) (by decide +kernel), by decide +kernel⟩
theorem nw_X9_9 : NW RX9 9 1 := ⟨RX1, TX1, 3, tyX1, ck_X1, List.mem_of_getElem? (i := 331) (by decide +kernel), List.mem_of_getElem? (i := 293) (by decide +kernel), List.mem_of_getElem? (i := 73) (by decide +kernel), by decide +kernel⟩
theorem nw_X10_68 : NW RX10 68 7 := ⟨RX7, TX7, 7, tyX7, ck_X7, List.mem_of_getElem? (i := 367) (by decide +kernel), List.mem_of_getElem? (i := 368) (by decide +kernel), List.mem_of_getElem? (i := 75) (by decide +kernel), by decide +kernel⟩
theorem nw_X10_75 : NW RX10 75 8 := ⟨RX8, TX8, 9, tyX8, ck_X8, List.mem_of_getElem? (i := 396) (by decide +kernel), List.mem_of_getElem? (i := 397) (by decide +kernel), List.mem_of_getElem? (i := 76) (by decide +kernel), by decide +kernel⟩
theorem nw_L_10 : NW RL 10 11 := ⟨RX11, TX11, 42, tyX11, ck_X11, List.mem_of_getElem? (i := 979) (by decide +kernel), List.mem_of_getElem? (i := 980) (by decide +kernel), List.mem_of_getElem? (i := 78) (by decide +kernel), by decide +kernel⟩
abbrev M_J6_bitCount_0f7a4 : MethodName × ByteArray × Nat × Option FieldType × Nat × Nat × Bool := (yJ6_bitCount_0f7a4, cJ6_bitCount_0f7a4, 1, (some .int), 0, 0, false)
abbrev M_J7_fill_53178 : MethodName × ByteArray × Nat × Option FieldType × Nat × Nat × Bool := (yJ7_fill_53178, cJ7_fill_53178, 4, none, 0, 0, false)
abbrev M_J7_fill_fda19 : MethodName × ByteArray × Nat × Option FieldType × Nat × Nat × Bool := (yJ7_fill_fda19, cJ7_fill_fda19, 5, none, 0, 0, false)
abbrev M_J7_rangeCheck_23922 : MethodName × ByteArray × Nat × Option FieldType × Nat × Nat × Bool := (yJ7_rangeCheck_23922, cJ7_rangeCheck_23922, 3, none, 0, 0, false)
abbrev M_J9_abs_0f7a4 : MethodName × ByteArray × Nat × Option FieldType × Nat × Nat × Bool := (yJ9_abs_0f7a4, cJ9_abs_0f7a4, 1, (some .int), 0, 0, false)
abbrev M_J9_max_7cf53 : MethodName × ByteArray × Nat × Option FieldType × Nat × Nat × Bool := (yJ9_max_7cf53, cJ9_max_7cf53, 2, (some .int), 0, 0, false)
abbrev M_J9_min_7cf53 : MethodName × ByteArray × Nat × Option FieldType × Nat × Nat × Bool := (yJ9_min_7cf53, cJ9_min_7cf53, 2, (some .int), 0, 0, false)
abbrev M_J13_bitCount_95d88 : MethodName × ByteArray × Nat × Option FieldType × Nat × Nat × Bool := (yJ13_bitCount_95d88, cJ13_bitCount_95d88, 2, (some .int), 0, 0, false)
abbrev M_X0_cheapestCut : MethodName × ByteArray × Nat × Option FieldType × Nat × Nat × Bool := (yX0_cheapestCut, cX0_cheapestCut, 7, (some .int), 0, 0, false)
abbrev M_X0_findWeak : MethodName × ByteArray × Nat × Option FieldType × Nat × Nat × Bool := (yX0_findWeak, cX0_findWeak, 4, none, 0, 0, false)
abbrev M_X0_forget : MethodName × ByteArray × Nat × Option FieldType × Nat × Nat × Bool := (yX0_forget, cX0_forget, 1, none, 0, 0, false)
abbrev M_X0_init : MethodName × ByteArray × Nat × Option FieldType × Nat × Nat × Bool := (yX0_init, cX0_init, 1, none, 4, 1144, false)
abbrev M_X0_isMet : MethodName × ByteArray × Nat × Option FieldType × Nat × Nat × Bool := (yX0_isMet, cX0_isMet, 3, (some .boolean), 0, 0, false)
abbrev M_X1_begin : MethodName × ByteArray × Nat × Option FieldType × Nat × Nat × Bool := (yX1_begin, cX1_begin, 5, none, 0, 0, false)
abbrev M_X1_canFill : MethodName × ByteArray × Nat × Option FieldType × Nat × Nat × Bool := (yX1_canFill, cX1_canFill, 7, (some .boolean), 0, 0, false)
abbrev M_X1_give : MethodName × ByteArray × Nat × Option FieldType × Nat × Nat × Bool := (yX1_give, cX1_give, 4, none, 0, 0, false)
abbrev M_X1_init : MethodName × ByteArray × Nat × Option FieldType × Nat × Nat × Bool := (yX1_init, cX1_init, 1, none, 1, 72, false)
abbrev M_X1_scarcest : MethodName × ByteArray × Nat × Option FieldType × Nat × Nat × Bool := (yX1_scarcest, cX1_scarcest, 7, (some .int), 0, 0, false)
abbrev M_X1_strike : MethodName × ByteArray × Nat × Option FieldType × Nat × Nat × Bool := (yX1_strike, cX1_strike, 8, (some .boolean), 0, 0, false)
abbrev M_X1_succeeds : MethodName × ByteArray × Nat × Option FieldType × Nat × Nat × Bool := (yX1_succeeds, cX1_succeeds, 1, (some .boolean), 0, 0, false)
abbrev M_X2_begin : MethodName × ByteArray × Nat × Option FieldType × Nat × Nat × Bool := (yX2_begin, cX2_begin, 4, none, 0, 0, false)
abbrev M_X2_countCastings : MethodName × ByteArray × Nat × Option FieldType × Nat × Nat × Bool := (yX2_countCastings, cX2_countCastings, 4, (some .long), 0, 0, false)
abbrev M_X2_countFrom : MethodName × ByteArray × Nat × Option FieldType × Nat × Nat × Bool := (yX2_countFrom, cX2_countFrom, 5, (some .long), 0, 0, false)
abbrev M_X2_findLeast : MethodName × ByteArray × Nat × Option FieldType × Nat × Nat × Bool := (yX2_findLeast, cX2_findLeast, 6, (some .boolean), 0, 0, false)
abbrev M_X2_forgottenLines : MethodName × ByteArray × Nat × Option FieldType × Nat × Nat × Bool := (yX2_forgottenLines, cX2_forgottenLines, 4, (some .int), 0, 0, false)
abbrev M_X2_improveFrom : MethodName × ByteArray × Nat × Option FieldType × Nat × Nat × Bool := (yX2_improveFrom, cX2_improveFrom, 4, none, 0, 0, false)
abbrev M_X2_init : MethodName × ByteArray × Nat × Option FieldType × Nat × Nat × Bool := (yX2_init, cX2_init, 1, none, 5, 115, false)
abbrev M_X2_isFree : MethodName × ByteArray × Nat × Option FieldType × Nat × Nat × Bool := (yX2_isFree, cX2_isFree, 3, (some .boolean), 0, 0, false)
abbrev M_X2_partsNotByOwners : MethodName × ByteArray × Nat × Option FieldType × Nat × Nat × Bool := (yX2_partsNotByOwners, cX2_partsNotByOwners, 3, (some .int), 0, 0, false)
abbrev M_X2_partsPlayedBy : MethodName × ByteArray × Nat × Option FieldType × Nat × Nat × Bool := (yX2_partsPlayedBy, cX2_partsPlayedBy, 4, (some .int), 0, 0, false)
abbrev M_X2_weigh : MethodName × ByteArray × Nat × Option FieldType × Nat × Nat × Bool := (yX2_weigh, cX2_weigh, 6, (some .int), 0, 0, false)
abbrev M_X3_addCover : MethodName × ByteArray × Nat × Option FieldType × Nat × Nat × Bool := (yX3_addCover, cX3_addCover, 3, (some .boolean), 0, 0, false)
abbrev M_X3_addPart : MethodName × ByteArray × Nat × Option FieldType × Nat × Nat × Bool := (yX3_addPart, cX3_addPart, 5, (some .boolean), 0, 0, false)
abbrev M_X3_addPlayer : MethodName × ByteArray × Nat × Option FieldType × Nat × Nat × Bool := (yX3_addPlayer, cX3_addPlayer, 3, (some .boolean), 0, 0, false)
abbrev M_X3_clear : MethodName × ByteArray × Nat × Option FieldType × Nat × Nat × Bool := (yX3_clear, cX3_clear, 1, none, 0, 0, false)
abbrev M_X3_giveOwn : MethodName × ByteArray × Nat × Option FieldType × Nat × Nat × Bool := (yX3_giveOwn, cX3_giveOwn, 3, (some .boolean), 0, 0, false)
abbrev M_X3_hasPart : MethodName × ByteArray × Nat × Option FieldType × Nat × Nat × Bool := (yX3_hasPart, cX3_hasPart, 2, (some .boolean), 0, 0, false)
abbrev M_X3_hasParts : MethodName × ByteArray × Nat × Option FieldType × Nat × Nat × Bool := (yX3_hasParts, cX3_hasParts, 2, (some .boolean), 0, 0, false)
abbrev M_X3_hasPlayer : MethodName × ByteArray × Nat × Option FieldType × Nat × Nat × Bool := (yX3_hasPlayer, cX3_hasPlayer, 2, (some .boolean), 0, 0, false)
abbrev M_X3_hasPlayers : MethodName × ByteArray × Nat × Option FieldType × Nat × Nat × Bool := (yX3_hasPlayers, cX3_hasPlayers, 2, (some .boolean), 0, 0, false)
abbrev M_X3_hours : MethodName × ByteArray × Nat × Option FieldType × Nat × Nat × Bool := (yX3_hours, cX3_hours, 2, (some .int), 0, 0, false)
abbrev M_X3_init : MethodName × ByteArray × Nat × Option FieldType × Nat × Nat × Bool := (yX3_init, cX3_init, 1, none, 13, 202, false)
abbrev M_X3_isSkilled : MethodName × ByteArray × Nat × Option FieldType × Nat × Nat × Bool := (yX3_isSkilled, cX3_isSkilled, 3, (some .boolean), 0, 0, false)
abbrev M_X3_linesTogether : MethodName × ByteArray × Nat × Option FieldType × Nat × Nat × Bool := (yX3_linesTogether, cX3_linesTogether, 4, (some .int), 0, 0, false)
abbrev M_X3_mayPlay : MethodName × ByteArray × Nat × Option FieldType × Nat × Nat × Bool := (yX3_mayPlay, cX3_mayPlay, 3, (some .boolean), 0, 0, false)
abbrev M_X3_ownParts : MethodName × ByteArray × Nat × Option FieldType × Nat × Nat × Bool := (yX3_ownParts, cX3_ownParts, 4, (some .int), 0, 0, false)
abbrev M_X3_playable : MethodName × ByteArray × Nat × Option FieldType × Nat × Nat × Bool := (yX3_playable, cX3_playable, 4, (some .int), 0, 0, false)
abbrev M_X3_setChange : MethodName × ByteArray × Nat × Option FieldType × Nat × Nat × Bool := (yX3_setChange, cX3_setChange, 2, (some .boolean), 0, 0, false)
abbrev M_X3_setContagion : MethodName × ByteArray × Nat × Option FieldType × Nat × Nat × Bool := (yX3_setContagion, cX3_setContagion, 4, (some .boolean), 0, 0, false)
abbrev M_X3_setForgetting : MethodName × ByteArray × Nat × Option FieldType × Nat × Nat × Bool := (yX3_setForgetting, cX3_setForgetting, 2, (some .boolean), 0, 0, false)
abbrev M_X3_setPay : MethodName × ByteArray × Nat × Option FieldType × Nat × Nat × Bool := (yX3_setPay, cX3_setPay, 3, (some .boolean), 0, 0, false)
abbrev M_X3_setTailor : MethodName × ByteArray × Nat × Option FieldType × Nat × Nat × Bool := (yX3_setTailor, cX3_setTailor, 2, (some .boolean), 0, 0, false)
abbrev M_X3_settle : MethodName × ByteArray × Nat × Option FieldType × Nat × Nat × Bool := (yX3_settle, cX3_settle, 3, none, 0, 0, false)
abbrev M_X3_take : MethodName × ByteArray × Nat × Option FieldType × Nat × Nat × Bool := (yX3_take, cX3_take, 8, (some .boolean), 0, 0, false)
abbrev M_X3_tellScene : MethodName × ByteArray × Nat × Option FieldType × Nat × Nat × Bool := (yX3_tellScene, cX3_tellScene, 3, (some .boolean), 0, 0, false)
abbrev M_X4_clear : MethodName × ByteArray × Nat × Option FieldType × Nat × Nat × Bool := (yX4_clear, cX4_clear, 1, none, 0, 0, false)
abbrev M_X4_copy : MethodName × ByteArray × Nat × Option FieldType × Nat × Nat × Bool := (yX4_copy, cX4_copy, 2, none, 0, 0, false)
abbrev M_X4_init : MethodName × ByteArray × Nat × Option FieldType × Nat × Nat × Bool := (yX4_init, cX4_init, 1, none, 2, 90, false)
abbrev M_X4_keptLines : MethodName × ByteArray × Nat × Option FieldType × Nat × Nat × Bool := (yX4_keptLines, cX4_keptLines, 6, (some .int), 0, 0, false)
abbrev M_X4_lostLines : MethodName × ByteArray × Nat × Option FieldType × Nat × Nat × Bool := (yX4_lostLines, cX4_lostLines, 4, (some .int), 0, 0, false)
abbrev M_X4_playNight : MethodName × ByteArray × Nat × Option FieldType × Nat × Nat × Bool := (yX4_playNight, cX4_playNight, 6, none, 0, 0, false)
abbrev M_X4_sayToday : MethodName × ByteArray × Nat × Option FieldType × Nat × Nat × Bool := (yX4_sayToday, cX4_sayToday, 3, none, 0, 0, false)
abbrev M_X5_addScene : MethodName × ByteArray × Nat × Option FieldType × Nat × Nat × Bool := (yX5_addScene, cX5_addScene, 3, none, 0, 0, false)
abbrev M_X5_clashes : MethodName × ByteArray × Nat × Option FieldType × Nat × Nat × Bool := (yX5_clashes, cX5_clashes, 10, (some .boolean), 0, 0, false)
abbrev M_X5_clear : MethodName × ByteArray × Nat × Option FieldType × Nat × Nat × Bool := (yX5_clear, cX5_clear, 1, none, 0, 0, false)
abbrev M_X5_init : MethodName × ByteArray × Nat × Option FieldType × Nat × Nat × Bool := (yX5_init, cX5_init, 1, none, 2, 20, false)
abbrev M_X5_scenesOf : MethodName × ByteArray × Nat × Option FieldType × Nat × Nat × Bool := (yX5_scenesOf, cX5_scenesOf, 4, (some .int), 0, 0, false)
abbrev M_X6_endOfFigures : MethodName × ByteArray × Nat × Option FieldType × Nat × Nat × Bool := (yX6_endOfFigures, cX6_endOfFigures, 4, (some .int), 0, 0, false)
abbrev M_X6_endOfItem : MethodName × ByteArray × Nat × Option FieldType × Nat × Nat × Bool := (yX6_endOfItem, cX6_endOfItem, 7, (some .int), 0, 0, false)
abbrev M_X6_firstFault : MethodName × ByteArray × Nat × Option FieldType × Nat × Nat × Bool := (yX6_firstFault, cX6_firstFault, 6, (some .int), 0, 0, false)
abbrev M_X6_init : MethodName × ByteArray × Nat × Option FieldType × Nat × Nat × Bool := (yX6_init, cX6_init, 1, none, 1, 4, false)
abbrev M_X6_numberOf : MethodName × ByteArray × Nat × Option FieldType × Nat × Nat × Bool := (yX6_numberOf, cX6_numberOf, 5, (some .int), 0, 0, false)
abbrev M_X7_divide : MethodName × ByteArray × Nat × Option FieldType × Nat × Nat × Bool := (yX7_divide, cX7_divide, 8, none, 0, 0, false)
abbrev M_X7_forget : MethodName × ByteArray × Nat × Option FieldType × Nat × Nat × Bool := (yX7_forget, cX7_forget, 1, none, 0, 0, false)
abbrev M_X7_goOn : MethodName × ByteArray × Nat × Option FieldType × Nat × Nat × Bool := (yX7_goOn, cX7_goOn, 4, none, 0, 0, false)
abbrev M_X7_init : MethodName × ByteArray × Nat × Option FieldType × Nat × Nat × Bool := (yX7_init, cX7_init, 1, none, 4, 4096, false)
abbrev M_X7_likeliest : MethodName × ByteArray × Nat × Option FieldType × Nat × Nat × Bool := (yX7_likeliest, cX7_likeliest, 4, (some .int), 0, 0, false)
abbrev M_X7_passDay : MethodName × ByteArray × Nat × Option FieldType × Nat × Nat × Bool := (yX7_passDay, cX7_passDay, 4, none, 0, 0, false)
abbrev M_X7_spread : MethodName × ByteArray × Nat × Option FieldType × Nat × Nat × Bool := (yX7_spread, cX7_spread, 4, none, 0, 0, false)
abbrev M_X7_staysWell : MethodName × ByteArray × Nat × Option FieldType × Nat × Nat × Bool := (yX7_staysWell, cX7_staysWell, 6, (some .int), 0, 0, false)
abbrev M_X7_timesIll : MethodName × ByteArray × Nat × Option FieldType × Nat × Nat × Bool := (yX7_timesIll, cX7_timesIll, 5, (some .int), 0, 0, false)
abbrev M_X7_timesMet : MethodName × ByteArray × Nat × Option FieldType × Nat × Nat × Bool := (yX7_timesMet, cX7_timesMet, 5, (some .int), 0, 0, false)
abbrev M_X8_choosePairs : MethodName × ByteArray × Nat × Option FieldType × Nat × Nat × Bool := (yX8_choosePairs, cX8_choosePairs, 4, none, 0, 0, false)
abbrev M_X8_init : MethodName × ByteArray × Nat × Option FieldType × Nat × Nat × Bool := (yX8_init, cX8_init, 1, none, 5, 3428, false)
abbrev M_X8_listPairs : MethodName × ByteArray × Nat × Option FieldType × Nat × Nat × Bool := (yX8_listPairs, cX8_listPairs, 6, none, 0, 0, false)
abbrev M_X8_plan : MethodName × ByteArray × Nat × Option FieldType × Nat × Nat × Bool := (yX8_plan, cX8_plan, 4, none, 0, 0, false)
abbrev M_X8_weighPairs : MethodName × ByteArray × Nat × Option FieldType × Nat × Nat × Bool := (yX8_weighPairs, cX8_weighPairs, 5, none, 0, 0, false)
abbrev M_X8_worthWith : MethodName × ByteArray × Nat × Option FieldType × Nat × Nat × Bool := (yX8_worthWith, cX8_worthWith, 4, (some .int), 0, 0, false)
abbrev M_X9_areEnough : MethodName × ByteArray × Nat × Option FieldType × Nat × Nat × Bool := (yX9_areEnough, cX9_areEnough, 8, (some .boolean), 0, 0, false)
abbrev M_X9_fewestForPairs : MethodName × ByteArray × Nat × Option FieldType × Nat × Nat × Bool := (yX9_fewestForPairs, cX9_fewestForPairs, 7, (some .int), 0, 0, false)
abbrev M_X9_findBest : MethodName × ByteArray × Nat × Option FieldType × Nat × Nat × Bool := (yX9_findBest, cX9_findBest, 5, none, 0, 0, false)
abbrev M_X9_forget : MethodName × ByteArray × Nat × Option FieldType × Nat × Nat × Bool := (yX9_forget, cX9_forget, 1, none, 0, 0, false)
abbrev M_X9_helpTogether : MethodName × ByteArray × Nat × Option FieldType × Nat × Nat × Bool := (yX9_helpTogether, cX9_helpTogether, 9, (some .boolean), 0, 0, false)
abbrev M_X9_helps : MethodName × ByteArray × Nat × Option FieldType × Nat × Nat × Bool := (yX9_helps, cX9_helps, 4, (some .boolean), 0, 0, false)
abbrev M_X9_init : MethodName × ByteArray × Nat × Option FieldType × Nat × Nat × Bool := (yX9_init, cX9_init, 1, none, 5, 475, false)
abbrev M_X9_listCovers : MethodName × ByteArray × Nat × Option FieldType × Nat × Nat × Bool := (yX9_listCovers, cX9_listCovers, 4, none, 0, 0, false)
abbrev M_X9_survey : MethodName × ByteArray × Nat × Option FieldType × Nat × Nat × Bool := (yX9_survey, cX9_survey, 8, none, 0, 0, false)
abbrev M_X10_back : MethodName × ByteArray × Nat × Option FieldType × Nat × Nat × Bool := (yX10_back, cX10_back, 2, (some .int), 0, 0, false)
abbrev M_X10_both : MethodName × ByteArray × Nat × Option FieldType × Nat × Nat × Bool := (yX10_both, cX10_both, 3, (some .int), 0, 0, false)
abbrev M_X10_cold : MethodName × ByteArray × Nat × Option FieldType × Nat × Nat × Bool := (yX10_cold, cX10_cold, 5, (some .int), 0, 0, false)
abbrev M_X10_count : MethodName × ByteArray × Nat × Option FieldType × Nat × Nat × Bool := (yX10_count, cX10_count, 2, (some .int), 0, 0, false)
abbrev M_X10_cuts : MethodName × ByteArray × Nat × Option FieldType × Nat × Nat × Bool := (yX10_cuts, cX10_cuts, 4, (some .int), 0, 0, false)
abbrev M_X10_engaged : MethodName × ByteArray × Nat × Option FieldType × Nat × Nat × Bool := (yX10_engaged, cX10_engaged, 3, (some .int), 0, 0, false)
abbrev M_X10_fault : MethodName × ByteArray × Nat × Option FieldType × Nat × Nat × Bool := (yX10_fault, cX10_fault, 1, (some .int), 0, 0, false)
abbrev M_X10_fewest : MethodName × ByteArray × Nat × Option FieldType × Nat × Nat × Bool := (yX10_fewest, cX10_fewest, 1, (some .int), 0, 0, false)
abbrev M_X10_has : MethodName × ByteArray × Nat × Option FieldType × Nat × Nat × Bool := (yX10_has, cX10_has, 2, (some .boolean), 0, 0, false)
abbrev M_X10_init : MethodName × ByteArray × Nat × Option FieldType × Nat × Nat × Bool := (yX10_init, cX10_init, 1, none, 69, 10434, false)
abbrev M_X10_keep : MethodName × ByteArray × Nat × Option FieldType × Nat × Nat × Bool := (yX10_keep, cX10_keep, 2, (some .int), 0, 0, false)
abbrev M_X10_lay : MethodName × ByteArray × Nat × Option FieldType × Nat × Nat × Bool := (yX10_lay, cX10_lay, 2, (some .int), 0, 0, false)
abbrev M_X10_least : MethodName × ByteArray × Nat × Option FieldType × Nat × Nat × Bool := (yX10_least, cX10_least, 5, (some .int), 0, 0, false)
abbrev M_X10_lines : MethodName × ByteArray × Nat × Option FieldType × Nat × Nat × Bool := (yX10_lines, cX10_lines, 3, (some .int), 0, 0, false)
abbrev M_X10_night : MethodName × ByteArray × Nat × Option FieldType × Nat × Nat × Bool := (yX10_night, cX10_night, 3, (some .int), 0, 0, false)
abbrev M_X10_owed : MethodName × ByteArray × Nat × Option FieldType × Nat × Nat × Bool := (yX10_owed, cX10_owed, 2, (some .int), 0, 0, false)
abbrev M_X10_part : MethodName × ByteArray × Nat × Option FieldType × Nat × Nat × Bool := (yX10_part, cX10_part, 3, (some .int), 0, 0, false)
abbrev M_X10_player : MethodName × ByteArray × Nat × Option FieldType × Nat × Nat × Bool := (yX10_player, cX10_player, 3, (some .int), 0, 0, false)
abbrev M_X10_rehearsals : MethodName × ByteArray × Nat × Option FieldType × Nat × Nat × Bool := (yX10_rehearsals, cX10_rehearsals, 3, (some .int), 0, 0, false)
abbrev M_X10_rehearse : MethodName × ByteArray × Nat × Option FieldType × Nat × Nat × Bool := (yX10_rehearse, cX10_rehearse, 3, (some .int), 0, 0, false)
abbrev M_X10_rest : MethodName × ByteArray × Nat × Option FieldType × Nat × Nat × Bool := (yX10_rest, cX10_rest, 2, (some .int), 0, 0, false)
abbrev M_X10_run : MethodName × ByteArray × Nat × Option FieldType × Nat × Nat × Bool := (yX10_run, cX10_run, 6, (some .int), 0, 0, false)
abbrev M_X10_startAnew : MethodName × ByteArray × Nat × Option FieldType × Nat × Nat × Bool := (yX10_startAnew, cX10_startAnew, 1, none, 0, 0, false)
abbrev M_X10_told : MethodName × ByteArray × Nat × Option FieldType × Nat × Nat × Bool := (yX10_told, cX10_told, 4, (some .int), 0, 0, false)
abbrev M_X10_ways : MethodName × ByteArray × Nat × Option FieldType × Nat × Nat × Bool := (yX10_ways, cX10_ways, 3, (some .long), 0, 0, false)
abbrev M_X10_weak : MethodName × ByteArray × Nat × Option FieldType × Nat × Nat × Bool := (yX10_weak, cX10_weak, 3, (some .int), 0, 0, false)
abbrev M_X10_wipe : MethodName × ByteArray × Nat × Option FieldType × Nat × Nat × Bool := (yX10_wipe, cX10_wipe, 2, (some .int), 0, 0, false)
abbrev M_X10_write : MethodName × ByteArray × Nat × Option FieldType × Nat × Nat × Bool := (yX10_write, cX10_write, 5, (some .int), 0, 0, false)
abbrev M_X10_wrong : MethodName × ByteArray × Nat × Option FieldType × Nat × Nat × Bool := (yX10_wrong, cX10_wrong, 2, (some .int), 0, 0, false)
abbrev M_X11_areBoth : MethodName × ByteArray × Nat × Option FieldType × Nat × Nat × Bool := (yX11_areBoth, cX11_areBoth, 9, (some .boolean), 0, 0, false)
abbrev M_X11_back : MethodName × ByteArray × Nat × Option FieldType × Nat × Nat × Bool := (yX11_back, cX11_back, 1, (some .int), 0, 0, false)
abbrev M_X11_bits : MethodName × ByteArray × Nat × Option FieldType × Nat × Nat × Bool := (yX11_bits, cX11_bits, 3, (some .int), 0, 0, false)
abbrev M_X11_both : MethodName × ByteArray × Nat × Option FieldType × Nat × Nat × Bool := (yX11_both, cX11_both, 3, (some .int), 0, 0, false)
abbrev M_X11_byteAt : MethodName × ByteArray × Nat × Option FieldType × Nat × Nat × Bool := (yX11_byteAt, cX11_byteAt, 2, (some .int), 0, 0, false)
abbrev M_X11_cast : MethodName × ByteArray × Nat × Option FieldType × Nat × Nat × Bool := (yX11_cast, cX11_cast, 7, (some .boolean), 0, 0, false)
abbrev M_X11_cold : MethodName × ByteArray × Nat × Option FieldType × Nat × Nat × Bool := (yX11_cold, cX11_cold, 9, (some .int), 0, 0, false)
abbrev M_X11_coldItem : MethodName × ByteArray × Nat × Option FieldType × Nat × Nat × Bool := (yX11_coldItem, cX11_coldItem, 1, (some .boolean), 0, 0, false)
abbrev M_X11_copy : MethodName × ByteArray × Nat × Option FieldType × Nat × Nat × Bool := (yX11_copy, cX11_copy, 4, none, 0, 0, false)
abbrev M_X11_count : MethodName × ByteArray × Nat × Option FieldType × Nat × Nat × Bool := (yX11_count, cX11_count, 2, (some .int), 0, 0, false)
abbrev M_X11_cuts : MethodName × ByteArray × Nat × Option FieldType × Nat × Nat × Bool := (yX11_cuts, cX11_cuts, 6, (some .int), 0, 0, false)
abbrev M_X11_engaged : MethodName × ByteArray × Nat × Option FieldType × Nat × Nat × Bool := (yX11_engaged, cX11_engaged, 8, (some .int), 0, 0, false)
abbrev M_X11_fault : MethodName × ByteArray × Nat × Option FieldType × Nat × Nat × Bool := (yX11_fault, cX11_fault, 1, (some .int), 0, 0, false)
abbrev M_X11_fewest : MethodName × ByteArray × Nat × Option FieldType × Nat × Nat × Bool := (yX11_fewest, cX11_fewest, 5, (some .int), 0, 0, false)
abbrev M_X11_figures : MethodName × ByteArray × Nat × Option FieldType × Nat × Nat × Bool := (yX11_figures, cX11_figures, 5, (some .boolean), 0, 0, false)
abbrev M_X11_gainOf : MethodName × ByteArray × Nat × Option FieldType × Nat × Nat × Bool := (yX11_gainOf, cX11_gainOf, 4, (some .int), 0, 0, false)
abbrev M_X11_has : MethodName × ByteArray × Nat × Option FieldType × Nat × Nat × Bool := (yX11_has, cX11_has, 2, (some .boolean), 0, 0, false)
abbrev M_X11_hoursOf : MethodName × ByteArray × Nat × Option FieldType × Nat × Nat × Bool := (yX11_hoursOf, cX11_hoursOf, 2, (some .int), 0, 0, false)
abbrev M_X11_in : MethodName × ByteArray × Nat × Option FieldType × Nat × Nat × Bool := (yX11_in, cX11_in, 6, (some .boolean), 0, 0, false)
abbrev M_X11_init : MethodName × ByteArray × Nat × Option FieldType × Nat × Nat × Bool := (yX11_init, cX11_init, 1, none, 35, 20571, false)
abbrev M_X11_isCover : MethodName × ByteArray × Nat × Option FieldType × Nat × Nat × Bool := (yX11_isCover, cX11_isCover, 3, (some .boolean), 0, 0, false)
abbrev M_X11_isCut : MethodName × ByteArray × Nat × Option FieldType × Nat × Nat × Bool := (yX11_isCut, cX11_isCut, 2, (some .boolean), 0, 0, false)
abbrev M_X11_isOff : MethodName × ByteArray × Nat × Option FieldType × Nat × Nat × Bool := (yX11_isOff, cX11_isOff, 2, (some .boolean), 0, 0, false)
abbrev M_X11_isPair : MethodName × ByteArray × Nat × Option FieldType × Nat × Nat × Bool := (yX11_isPair, cX11_isPair, 1, (some .boolean), 0, 0, false)
abbrev M_X11_isPart : MethodName × ByteArray × Nat × Option FieldType × Nat × Nat × Bool := (yX11_isPart, cX11_isPart, 2, (some .boolean), 0, 0, false)
abbrev M_X11_isPlayer : MethodName × ByteArray × Nat × Option FieldType × Nat × Nat × Bool := (yX11_isPlayer, cX11_isPlayer, 2, (some .boolean), 0, 0, false)
abbrev M_X11_isTaken : MethodName × ByteArray × Nat × Option FieldType × Nat × Nat × Bool := (yX11_isTaken, cX11_isTaken, 6, (some .boolean), 0, 0, false)
abbrev M_X11_item : MethodName × ByteArray × Nat × Option FieldType × Nat × Nat × Bool := (yX11_item, cX11_item, 2, (some .boolean), 0, 0, false)
abbrev M_X11_keep : MethodName × ByteArray × Nat × Option FieldType × Nat × Nat × Bool := (yX11_keep, cX11_keep, 1, (some .int), 0, 0, false)
abbrev M_X11_kept : MethodName × ByteArray × Nat × Option FieldType × Nat × Nat × Bool := (yX11_kept, cX11_kept, 4, (some .int), 0, 0, false)
abbrev M_X11_lay : MethodName × ByteArray × Nat × Option FieldType × Nat × Nat × Bool := (yX11_lay, cX11_lay, 2, (some .int), 0, 0, false)
abbrev M_X11_layCold : MethodName × ByteArray × Nat × Option FieldType × Nat × Nat × Bool := (yX11_layCold, cX11_layCold, 6, none, 0, 0, false)
abbrev M_X11_layMays : MethodName × ByteArray × Nat × Option FieldType × Nat × Nat × Bool := (yX11_layMays, cX11_layMays, 3, none, 0, 0, false)
abbrev M_X11_layPairs : MethodName × ByteArray × Nat × Option FieldType × Nat × Nat × Bool := (yX11_layPairs, cX11_layPairs, 3, none, 0, 0, false)
abbrev M_X11_layRehearsals : MethodName × ByteArray × Nat × Option FieldType × Nat × Nat × Bool := (yX11_layRehearsals, cX11_layRehearsals, 6, none, 0, 0, false)
abbrev M_X11_layRules : MethodName × ByteArray × Nat × Option FieldType × Nat × Nat × Bool := (yX11_layRules, cX11_layRules, 3, none, 0, 0, false)
abbrev M_X11_least : MethodName × ByteArray × Nat × Option FieldType × Nat × Nat × Bool := (yX11_least, cX11_least, 7, (some .int), 0, 0, false)
abbrev M_X11_lines : MethodName × ByteArray × Nat × Option FieldType × Nat × Nat × Bool := (yX11_lines, cX11_lines, 3, (some .int), 0, 0, false)
abbrev M_X11_linesIn : MethodName × ByteArray × Nat × Option FieldType × Nat × Nat × Bool := (yX11_linesIn, cX11_linesIn, 4, (some .int), 0, 0, false)
abbrev M_X11_mayPlay : MethodName × ByteArray × Nat × Option FieldType × Nat × Nat × Bool := (yX11_mayPlay, cX11_mayPlay, 3, (some .boolean), 0, 0, false)
abbrev M_X11_nextFor : MethodName × ByteArray × Nat × Option FieldType × Nat × Nat × Bool := (yX11_nextFor, cX11_nextFor, 5, (some .int), 0, 0, false)
abbrev M_X11_night : MethodName × ByteArray × Nat × Option FieldType × Nat × Nat × Bool := (yX11_night, cX11_night, 2, (some .int), 0, 0, false)
abbrev M_X11_noCompany : MethodName × ByteArray × Nat × Option FieldType × Nat × Nat × Bool := (yX11_noCompany, cX11_noCompany, 3, none, 0, 0, false)
abbrev M_X11_noneWeak : MethodName × ByteArray × Nat × Option FieldType × Nat × Nat × Bool := (yX11_noneWeak, cX11_noneWeak, 3, (some .boolean), 0, 0, false)
abbrev M_X11_numberItem : MethodName × ByteArray × Nat × Option FieldType × Nat × Nat × Bool := (yX11_numberItem, cX11_numberItem, 3, (some .boolean), 0, 0, false)
abbrev M_X11_owed : MethodName × ByteArray × Nat × Option FieldType × Nat × Nat × Bool := (yX11_owed, cX11_owed, 2, (some .int), 0, 0, false)
abbrev M_X11_part : MethodName × ByteArray × Nat × Option FieldType × Nat × Nat × Bool := (yX11_part, cX11_part, 5, (some .int), 0, 0, false)
abbrev M_X11_partItem : MethodName × ByteArray × Nat × Option FieldType × Nat × Nat × Bool := (yX11_partItem, cX11_partItem, 2, (some .boolean), 0, 0, false)
abbrev M_X11_partState : MethodName × ByteArray × Nat × Option FieldType × Nat × Nat × Bool := (yX11_partState, cX11_partState, 8, none, 0, 0, false)
abbrev M_X11_pileTrouble : MethodName × ByteArray × Nat × Option FieldType × Nat × Nat × Bool := (yX11_pileTrouble, cX11_pileTrouble, 4, (some .int), 0, 0, false)
abbrev M_X11_play : MethodName × ByteArray × Nat × Option FieldType × Nat × Nat × Bool := (yX11_play, cX11_play, 6, (some .int), 0, 0, false)
abbrev M_X11_player : MethodName × ByteArray × Nat × Option FieldType × Nat × Nat × Bool := (yX11_player, cX11_player, 5, (some .int), 0, 0, false)
abbrev M_X11_playerItem : MethodName × ByteArray × Nat × Option FieldType × Nat × Nat × Bool := (yX11_playerItem, cX11_playerItem, 2, (some .boolean), 0, 0, false)
abbrev M_X11_readAll : MethodName × ByteArray × Nat × Option FieldType × Nat × Nat × Bool := (yX11_readAll, cX11_readAll, 2, (some .int), 0, 0, false)
abbrev M_X11_rehearsals : MethodName × ByteArray × Nat × Option FieldType × Nat × Nat × Bool := (yX11_rehearsals, cX11_rehearsals, 6, (some .int), 0, 0, false)
abbrev M_X11_rehearse : MethodName × ByteArray × Nat × Option FieldType × Nat × Nat × Bool := (yX11_rehearse, cX11_rehearse, 3, (some .int), 0, 0, false)
abbrev M_X11_rest : MethodName × ByteArray × Nat × Option FieldType × Nat × Nat × Bool := (yX11_rest, cX11_rest, 2, (some .int), 0, 0, false)
abbrev M_X11_run : MethodName × ByteArray × Nat × Option FieldType × Nat × Nat × Bool := (yX11_run, cX11_run, 7, (some .int), 0, 0, false)
abbrev M_X11_sceneItem : MethodName × ByteArray × Nat × Option FieldType × Nat × Nat × Bool := (yX11_sceneItem, cX11_sceneItem, 2, (some .boolean), 0, 0, false)
abbrev M_X11_setCover : MethodName × ByteArray × Nat × Option FieldType × Nat × Nat × Bool := (yX11_setCover, cX11_setCover, 4, none, 0, 0, false)
abbrev M_X11_stepBack : MethodName × ByteArray × Nat × Option FieldType × Nat × Nat × Bool := (yX11_stepBack, cX11_stepBack, 3, (some .int), 0, 0, false)
abbrev M_X11_told : MethodName × ByteArray × Nat × Option FieldType × Nat × Nat × Bool := (yX11_told, cX11_told, 4, (some .int), 0, 0, false)
abbrev M_X11_trouble : MethodName × ByteArray × Nat × Option FieldType × Nat × Nat × Bool := (yX11_trouble, cX11_trouble, 5, (some .int), 0, 0, false)
abbrev M_X11_ways : MethodName × ByteArray × Nat × Option FieldType × Nat × Nat × Bool := (yX11_ways, cX11_ways, 3, (some .long), 0, 0, false)
abbrev M_X11_weak : MethodName × ByteArray × Nat × Option FieldType × Nat × Nat × Bool := (yX11_weak, cX11_weak, 4, (some .int), 0, 0, false)
abbrev M_X11_weakOf : MethodName × ByteArray × Nat × Option FieldType × Nat × Nat × Bool := (yX11_weakOf, cX11_weakOf, 4, (some .int), 0, 0, false)
abbrev M_X11_wellOf : MethodName × ByteArray × Nat × Option FieldType × Nat × Nat × Bool := (yX11_wellOf, cX11_wellOf, 6, (some .long), 0, 0, false)
abbrev M_X11_wipe : MethodName × ByteArray × Nat × Option FieldType × Nat × Nat × Bool := (yX11_wipe, cX11_wipe, 2, (some .int), 0, 0, false)
abbrev M_X11_write : MethodName × ByteArray × Nat × Option FieldType × Nat × Nat × Bool := (yX11_write, cX11_write, 5, (some .int), 0, 0, false)
abbrev M_X11_wrong : MethodName × ByteArray × Nat × Option FieldType × Nat × Nat × Bool := (yX11_wrong, cX11_wrong, 2, (some .int), 0, 0, false)
abbrev M_law : MethodName × ByteArray × Nat × Option FieldType × Nat × Nat × Bool := (x, code, 4, ret, 600000, 7302250, true)
def KnC (y : MethodName) (c : ByteArray) (l : Nat) (r : Option FieldType) : Prop := Cond.code y c l r ∈ lw_tbl ∧ Cond.initialized y.cls ∈ lw_tbl ∧ (y.cls ≠ "java/lang/invoke/MethodHandle" ∧ y.cls ≠ "java/lang/invoke/VarHandle") ∧ l ≤ 22 ∧ plainName y.cls = true
theorem kn_J6_bitCount_0f7a4 : KnC yJ6_bitCount_0f7a4 cJ6_bitCount_0f7a4 1 (some .int) := ⟨wl_7 _ (List.mem_of_getElem? (i := 17) rfl), wl_7 _ (List.mem_of_getElem? (i := 18) rfl), by decide +kernel, by decide, by decide +kernel⟩
theorem ks_J6_bitCount_0f7a4 : Cond.static yJ6_bitCount_0f7a4 ∈ lw_tbl := wl_7 _ (List.mem_of_getElem? (i := 19) rfl)
theorem kn_J7_fill_53178 : KnC yJ7_fill_53178 cJ7_fill_53178 4 none := ⟨wl_7 _ (List.mem_of_getElem? (i := 20) rfl), wl_7 _ (List.mem_of_getElem? (i := 21) rfl), by decide +kernel, by decide, by decide +kernel⟩
theorem ks_J7_fill_53178 : Cond.static yJ7_fill_53178 ∈ lw_tbl := wl_7 _ (List.mem_of_getElem? (i := 22) rfl)
theorem kn_J7_fill_fda19 : KnC yJ7_fill_fda19 cJ7_fill_fda19 5 none := ⟨wl_7 _ (List.mem_of_getElem? (i := 23) rfl), wl_8 _ (List.mem_of_getElem? (i := 0) rfl), by decide +kernel, by decide, by decide +kernel⟩
theorem ks_J7_fill_fda19 : Cond.static yJ7_fill_fda19 ∈ lw_tbl := wl_8 _ (List.mem_of_getElem? (i := 1) rfl)
theorem kn_J7_rangeCheck_23922 : KnC yJ7_rangeCheck_23922 cJ7_rangeCheck_23922 3 none := ⟨wl_8 _ (List.mem_of_getElem? (i := 2) rfl), wl_8 _ (List.mem_of_getElem? (i := 3) rfl), by decide +kernel, by decide, by decide +kernel⟩
theorem ks_J7_rangeCheck_23922 : Cond.static yJ7_rangeCheck_23922 ∈ lw_tbl := wl_8 _ (List.mem_of_getElem? (i := 4) rfl)
theorem km_J9_abs_0f7a4 : Cond.code Lib.Math.abs.name Lib.Math.abs.code 1 (some .int) ∈ lw_tbl ∧ Cond.static Lib.Math.abs.name ∈ lw_tbl ∧ Cond.initialized "java/lang/Math" ∈ lw_tbl := ⟨List.mem_of_getElem? (i := 707) (by decide +kernel), List.mem_of_getElem? (i := 706) (by decide +kernel), List.mem_of_getElem? (i := 79) (by decide +kernel)⟩
theorem km_J9_max_7cf53 : Cond.code Lib.Math.max.name Lib.Math.max.code 2 (some .int) ∈ lw_tbl ∧ Cond.static Lib.Math.max.name ∈ lw_tbl ∧ Cond.initialized "java/lang/Math" ∈ lw_tbl := ⟨List.mem_of_getElem? (i := 704) (by decide +kernel), List.mem_of_getElem? (i := 703) (by decide +kernel), List.mem_of_getElem? (i := 79) (by decide +kernel)⟩
theorem km_J9_min_7cf53 : Cond.code Lib.Math.min.name Lib.Math.min.code 2 (some .int) ∈ lw_tbl ∧ Cond.static Lib.Math.min.name ∈ lw_tbl ∧ Cond.initialized "java/lang/Math" ∈ lw_tbl := ⟨List.mem_of_getElem? (i := 710) (by decide +kernel), List.mem_of_getElem? (i := 709) (by decide +kernel), List.mem_of_getElem? (i := 79) (by decide +kernel)⟩
theorem kn_J13_bitCount_95d88 : KnC yJ13_bitCount_95d88 cJ13_bitCount_95d88 2 (some .int) := ⟨wl_8 _ (List.mem_of_getElem? (i := 5) rfl), wl_8 _ (List.mem_of_getElem? (i := 6) rfl), by decide +kernel, by decide, by decide +kernel⟩
theorem ks_J13_bitCount_95d88 : Cond.static yJ13_bitCount_95d88 ∈ lw_tbl := wl_8 _ (List.mem_of_getElem? (i := 7) rfl)
theorem kn_X0_cheapestCut : KnC yX0_cheapestCut cX0_cheapestCut 7 (some .int) := ⟨wl_8 _ (List.mem_of_getElem? (i := 8) rfl), wl_8 _ (List.mem_of_getElem? (i := 9) rfl), by decide +kernel, by decide, by decide +kernel⟩
theorem ki_X0_cheapestCut : Cond.instanceMethod yX0_cheapestCut ∈ lw_tbl := wl_8 _ (List.mem_of_getElem? (i := 10) rfl)
theorem kv_X0_cheapestCut : Cond.selects RX0 yX0_cheapestCut yX0_cheapestCut ∈ lw_tbl := wl_8 _ (List.mem_of_getElem? (i := 11) rfl)
theorem kn_X0_findWeak : KnC yX0_findWeak cX0_findWeak 4 none := ⟨wl_8 _ (List.mem_of_getElem? (i := 12) rfl), wl_8 _ (List.mem_of_getElem? (i := 13) rfl), by decide +kernel, by decide, by decide +kernel⟩
theorem ki_X0_findWeak : Cond.instanceMethod yX0_findWeak ∈ lw_tbl := wl_8 _ (List.mem_of_getElem? (i := 14) rfl)
theorem kv_X0_findWeak : Cond.selects RX0 yX0_findWeak yX0_findWeak ∈ lw_tbl := wl_8 _ (List.mem_of_getElem? (i := 15) rfl)
theorem kn_X0_forget : KnC yX0_forget cX0_forget 1 none := ⟨wl_8 _ (List.mem_of_getElem? (i := 16) rfl), wl_8 _ (List.mem_of_getElem? (i := 17) rfl), by decide +kernel, by decide, by decide +kernel⟩
theorem ki_X0_forget : Cond.instanceMethod yX0_forget ∈ lw_tbl := wl_8 _ (List.mem_of_getElem? (i := 18) rfl)
theorem kv_X0_forget : Cond.selects RX0 yX0_forget yX0_forget ∈ lw_tbl := wl_8 _ (List.mem_of_getElem? (i := 19) rfl)
theorem kn_X0_init : KnC yX0_init cX0_init 1 none := ⟨wl_8 _ (List.mem_of_getElem? (i := 20) rfl), wl_8 _ (List.mem_of_getElem? (i := 21) rfl), by decide +kernel, by decide, by decide +kernel⟩
theorem ki_X0_init : Cond.instanceMethod yX0_init ∈ lw_tbl := wl_8 _ (List.mem_of_getElem? (i := 22) rfl)
theorem kn_X0_isMet : KnC yX0_isMet cX0_isMet 3 (some .boolean) := ⟨wl_8 _ (List.mem_of_getElem? (i := 23) rfl), wl_9 _ (List.mem_of_getElem? (i := 0) rfl), by decide +kernel, by decide, by decide +kernel⟩
theorem ki_X0_isMet : Cond.instanceMethod yX0_isMet ∈ lw_tbl := wl_9 _ (List.mem_of_getElem? (i := 1) rfl)
theorem kv_X0_isMet : Cond.selects RX0 yX0_isMet yX0_isMet ∈ lw_tbl := wl_9 _ (List.mem_of_getElem? (i := 2) rfl)
theorem kn_X1_begin : KnC yX1_begin cX1_begin 5 none := ⟨wl_9 _ (List.mem_of_getElem? (i := 3) rfl), wl_9 _ (List.mem_of_getElem? (i := 4) rfl), by decide +kernel, by decide, by decide +kernel⟩
theorem ki_X1_begin : Cond.instanceMethod yX1_begin ∈ lw_tbl := wl_9 _ (List.mem_of_getElem? (i := 5) rfl)
theorem kv_X1_begin : Cond.selects RX1 yX1_begin yX1_begin ∈ lw_tbl := wl_9 _ (List.mem_of_getElem? (i := 6) rfl)
theorem kn_X1_canFill : KnC yX1_canFill cX1_canFill 7 (some .boolean) := ⟨wl_9 _ (List.mem_of_getElem? (i := 7) rfl), wl_9 _ (List.mem_of_getElem? (i := 8) rfl), by decide +kernel, by decide, by decide +kernel⟩
theorem ks_X1_canFill : Cond.static yX1_canFill ∈ lw_tbl := wl_9 _ (List.mem_of_getElem? (i := 9) rfl)
theorem kn_X1_give : KnC yX1_give cX1_give 4 none := ⟨wl_9 _ (List.mem_of_getElem? (i := 10) rfl), wl_9 _ (List.mem_of_getElem? (i := 11) rfl), by decide +kernel, by decide, by decide +kernel⟩
theorem ki_X1_give : Cond.instanceMethod yX1_give ∈ lw_tbl := wl_9 _ (List.mem_of_getElem? (i := 12) rfl)
theorem kv_X1_give : Cond.selects RX1 yX1_give yX1_give ∈ lw_tbl := wl_9 _ (List.mem_of_getElem? (i := 13) rfl)
theorem kn_X1_init : KnC yX1_init cX1_init 1 none := ⟨wl_9 _ (List.mem_of_getElem? (i := 14) rfl), wl_9 _ (List.mem_of_getElem? (i := 15) rfl), by decide +kernel, by decide, by decide +kernel⟩
theorem ki_X1_init : Cond.instanceMethod yX1_init ∈ lw_tbl := wl_9 _ (List.mem_of_getElem? (i := 16) rfl)
theorem kn_X1_scarcest : KnC yX1_scarcest cX1_scarcest 7 (some .int) := ⟨wl_9 _ (List.mem_of_getElem? (i := 17) rfl), wl_9 _ (List.mem_of_getElem? (i := 18) rfl), by decide +kernel, by decide, by decide +kernel⟩
theorem ki_X1_scarcest : Cond.instanceMethod yX1_scarcest ∈ lw_tbl := wl_9 _ (List.mem_of_getElem? (i := 19) rfl)
theorem kv_X1_scarcest : Cond.selects RX1 yX1_scarcest yX1_scarcest ∈ lw_tbl := wl_9 _ (List.mem_of_getElem? (i := 20) rfl)
theorem kn_X1_strike : KnC yX1_strike cX1_strike 8 (some .boolean) := ⟨wl_9 _ (List.mem_of_getElem? (i := 21) rfl), wl_9 _ (List.mem_of_getElem? (i := 22) rfl), by decide +kernel, by decide, by decide +kernel⟩
theorem ki_X1_strike : Cond.instanceMethod yX1_strike ∈ lw_tbl := wl_9 _ (List.mem_of_getElem? (i := 23) rfl)
theorem kv_X1_strike : Cond.selects RX1 yX1_strike yX1_strike ∈ lw_tbl := wl_10 _ (List.mem_of_getElem? (i := 0) rfl)
theorem kn_X1_succeeds : KnC yX1_succeeds cX1_succeeds 1 (some .boolean) := ⟨wl_10 _ (List.mem_of_getElem? (i := 1) rfl), wl_10 _ (List.mem_of_getElem? (i := 2) rfl), by decide +kernel, by decide, by decide +kernel⟩
theorem ki_X1_succeeds : Cond.instanceMethod yX1_succeeds ∈ lw_tbl := wl_10 _ (List.mem_of_getElem? (i := 3) rfl)
theorem kv_X1_succeeds : Cond.selects RX1 yX1_succeeds yX1_succeeds ∈ lw_tbl := wl_10 _ (List.mem_of_getElem? (i := 4) rfl)
theorem kn_X2_begin : KnC yX2_begin cX2_begin 4 none := ⟨wl_10 _ (List.mem_of_getElem? (i := 5) rfl), wl_10 _ (List.mem_of_getElem? (i := 6) rfl), by decide +kernel, by decide, by decide +kernel⟩
theorem ki_X2_begin : Cond.instanceMethod yX2_begin ∈ lw_tbl := wl_10 _ (List.mem_of_getElem? (i := 7) rfl)
theorem kv_X2_begin : Cond.selects RX2 yX2_begin yX2_begin ∈ lw_tbl := wl_10 _ (List.mem_of_getElem? (i := 8) rfl)
theorem kn_X2_countCastings : KnC yX2_countCastings cX2_countCastings 4 (some .long) := ⟨wl_10 _ (List.mem_of_getElem? (i := 9) rfl), wl_10 _ (List.mem_of_getElem? (i := 10) rfl), by decide +kernel, by decide, by decide +kernel⟩
theorem ki_X2_countCastings : Cond.instanceMethod yX2_countCastings ∈ lw_tbl := wl_10 _ (List.mem_of_getElem? (i := 11) rfl)
theorem kv_X2_countCastings : Cond.selects RX2 yX2_countCastings yX2_countCastings ∈ lw_tbl := wl_10 _ (List.mem_of_getElem? (i := 12) rfl)
theorem kn_X2_countFrom : KnC yX2_countFrom cX2_countFrom 5 (some .long) := ⟨wl_10 _ (List.mem_of_getElem? (i := 13) rfl), wl_10 _ (List.mem_of_getElem? (i := 14) rfl), by decide +kernel, by decide, by decide +kernel⟩
theorem ks_X2_countFrom : Cond.static yX2_countFrom ∈ lw_tbl := wl_10 _ (List.mem_of_getElem? (i := 15) rfl)
theorem kn_X2_findLeast : KnC yX2_findLeast cX2_findLeast 6 (some .boolean) := ⟨wl_10 _ (List.mem_of_getElem? (i := 16) rfl), wl_10 _ (List.mem_of_getElem? (i := 17) rfl), by decide +kernel, by decide, by decide +kernel⟩
theorem ki_X2_findLeast : Cond.instanceMethod yX2_findLeast ∈ lw_tbl := wl_10 _ (List.mem_of_getElem? (i := 18) rfl)
theorem kv_X2_findLeast : Cond.selects RX2 yX2_findLeast yX2_findLeast ∈ lw_tbl := wl_10 _ (List.mem_of_getElem? (i := 19) rfl)
theorem kn_X2_forgottenLines : KnC yX2_forgottenLines cX2_forgottenLines 4 (some .int) := ⟨wl_10 _ (List.mem_of_getElem? (i := 20) rfl), wl_10 _ (List.mem_of_getElem? (i := 21) rfl), by decide +kernel, by decide, by decide +kernel⟩
theorem ki_X2_forgottenLines : Cond.instanceMethod yX2_forgottenLines ∈ lw_tbl := wl_10 _ (List.mem_of_getElem? (i := 22) rfl)
theorem kv_X2_forgottenLines : Cond.selects RX2 yX2_forgottenLines yX2_forgottenLines ∈ lw_tbl := wl_10 _ (List.mem_of_getElem? (i := 23) rfl)
theorem kn_X2_improveFrom : KnC yX2_improveFrom cX2_improveFrom 4 none := ⟨wl_11 _ (List.mem_of_getElem? (i := 0) rfl), wl_11 _ (List.mem_of_getElem? (i := 1) rfl), by decide +kernel, by decide, by decide +kernel⟩
theorem ks_X2_improveFrom : Cond.static yX2_improveFrom ∈ lw_tbl := wl_11 _ (List.mem_of_getElem? (i := 2) rfl)
theorem kn_X2_init : KnC yX2_init cX2_init 1 none := ⟨wl_11 _ (List.mem_of_getElem? (i := 3) rfl), wl_11 _ (List.mem_of_getElem? (i := 4) rfl), by decide +kernel, by decide, by decide +kernel⟩
theorem ki_X2_init : Cond.instanceMethod yX2_init ∈ lw_tbl := wl_11 _ (List.mem_of_getElem? (i := 5) rfl)
theorem kn_X2_isFree : KnC yX2_isFree cX2_isFree 3 (some .boolean) := ⟨wl_11 _ (List.mem_of_getElem? (i := 6) rfl), wl_11 _ (List.mem_of_getElem? (i := 7) rfl), by decide +kernel, by decide, by decide +kernel⟩
theorem ki_X2_isFree : Cond.instanceMethod yX2_isFree ∈ lw_tbl := wl_11 _ (List.mem_of_getElem? (i := 8) rfl)
theorem kv_X2_isFree : Cond.selects RX2 yX2_isFree yX2_isFree ∈ lw_tbl := wl_11 _ (List.mem_of_getElem? (i := 9) rfl)
theorem kn_X2_partsNotByOwners : KnC yX2_partsNotByOwners cX2_partsNotByOwners 3 (some .int) := ⟨wl_11 _ (List.mem_of_getElem? (i := 10) rfl), wl_11 _ (List.mem_of_getElem? (i := 11) rfl), by decide +kernel, by decide, by decide +kernel⟩
theorem ki_X2_partsNotByOwners : Cond.instanceMethod yX2_partsNotByOwners ∈ lw_tbl := wl_11 _ (List.mem_of_getElem? (i := 12) rfl)
theorem kv_X2_partsNotByOwners : Cond.selects RX2 yX2_partsNotByOwners yX2_partsNotByOwners ∈ lw_tbl := wl_11 _ (List.mem_of_getElem? (i := 13) rfl)
theorem kn_X2_partsPlayedBy : KnC yX2_partsPlayedBy cX2_partsPlayedBy 4 (some .int) := ⟨wl_11 _ (List.mem_of_getElem? (i := 14) rfl), wl_11 _ (List.mem_of_getElem? (i := 15) rfl), by decide +kernel, by decide, by decide +kernel⟩
theorem ki_X2_partsPlayedBy : Cond.instanceMethod yX2_partsPlayedBy ∈ lw_tbl := wl_11 _ (List.mem_of_getElem? (i := 16) rfl)
theorem kv_X2_partsPlayedBy : Cond.selects RX2 yX2_partsPlayedBy yX2_partsPlayedBy ∈ lw_tbl := wl_11 _ (List.mem_of_getElem? (i := 17) rfl)
theorem kn_X2_weigh : KnC yX2_weigh cX2_weigh 6 (some .int) := ⟨wl_11 _ (List.mem_of_getElem? (i := 18) rfl), wl_11 _ (List.mem_of_getElem? (i := 19) rfl), by decide +kernel, by decide, by decide +kernel⟩
theorem ki_X2_weigh : Cond.instanceMethod yX2_weigh ∈ lw_tbl := wl_11 _ (List.mem_of_getElem? (i := 20) rfl)
theorem kv_X2_weigh : Cond.selects RX2 yX2_weigh yX2_weigh ∈ lw_tbl := wl_11 _ (List.mem_of_getElem? (i := 21) rfl)
theorem kn_X3_addCover : KnC yX3_addCover cX3_addCover 3 (some .boolean) := ⟨wl_11 _ (List.mem_of_getElem? (i := 22) rfl), wl_11 _ (List.mem_of_getElem? (i := 23) rfl), by decide +kernel, by decide, by decide +kernel⟩
theorem ki_X3_addCover : Cond.instanceMethod yX3_addCover ∈ lw_tbl := wl_12 _ (List.mem_of_getElem? (i := 0) rfl)
theorem kv_X3_addCover : Cond.selects RX3 yX3_addCover yX3_addCover ∈ lw_tbl := wl_12 _ (List.mem_of_getElem? (i := 1) rfl)
theorem kn_X3_addPart : KnC yX3_addPart cX3_addPart 5 (some .boolean) := ⟨wl_12 _ (List.mem_of_getElem? (i := 2) rfl), wl_12 _ (List.mem_of_getElem? (i := 3) rfl), by decide +kernel, by decide, by decide +kernel⟩
theorem ki_X3_addPart : Cond.instanceMethod yX3_addPart ∈ lw_tbl := wl_12 _ (List.mem_of_getElem? (i := 4) rfl)
theorem kv_X3_addPart : Cond.selects RX3 yX3_addPart yX3_addPart ∈ lw_tbl := wl_12 _ (List.mem_of_getElem? (i := 5) rfl)
theorem kn_X3_addPlayer : KnC yX3_addPlayer cX3_addPlayer 3 (some .boolean) := ⟨wl_12 _ (List.mem_of_getElem? (i := 6) rfl), wl_12 _ (List.mem_of_getElem? (i := 7) rfl), by decide +kernel, by decide, by decide +kernel⟩
theorem ki_X3_addPlayer : Cond.instanceMethod yX3_addPlayer ∈ lw_tbl := wl_12 _ (List.mem_of_getElem? (i := 8) rfl)
theorem kv_X3_addPlayer : Cond.selects RX3 yX3_addPlayer yX3_addPlayer ∈ lw_tbl := wl_12 _ (List.mem_of_getElem? (i := 9) rfl)
theorem kn_X3_clear : KnC yX3_clear cX3_clear 1 none := ⟨wl_12 _ (List.mem_of_getElem? (i := 10) rfl), wl_12 _ (List.mem_of_getElem? (i := 11) rfl), by decide +kernel, by decide, by decide +kernel⟩
theorem ki_X3_clear : Cond.instanceMethod yX3_clear ∈ lw_tbl := wl_12 _ (List.mem_of_getElem? (i := 12) rfl)
theorem kv_X3_clear : Cond.selects RX3 yX3_clear yX3_clear ∈ lw_tbl := wl_12 _ (List.mem_of_getElem? (i := 13) rfl)
theorem kn_X3_giveOwn : KnC yX3_giveOwn cX3_giveOwn 3 (some .boolean) := ⟨wl_12 _ (List.mem_of_getElem? (i := 14) rfl), wl_12 _ (List.mem_of_getElem? (i := 15) rfl), by decide +kernel, by decide, by decide +kernel⟩
theorem ki_X3_giveOwn : Cond.instanceMethod yX3_giveOwn ∈ lw_tbl := wl_12 _ (List.mem_of_getElem? (i := 16) rfl)
theorem kv_X3_giveOwn : Cond.selects RX3 yX3_giveOwn yX3_giveOwn ∈ lw_tbl := wl_12 _ (List.mem_of_getElem? (i := 17) rfl)
theorem kn_X3_hasPart : KnC yX3_hasPart cX3_hasPart 2 (some .boolean) := ⟨wl_12 _ (List.mem_of_getElem? (i := 18) rfl), wl_12 _ (List.mem_of_getElem? (i := 19) rfl), by decide +kernel, by decide, by decide +kernel⟩
theorem ki_X3_hasPart : Cond.instanceMethod yX3_hasPart ∈ lw_tbl := wl_12 _ (List.mem_of_getElem? (i := 20) rfl)
theorem kv_X3_hasPart : Cond.selects RX3 yX3_hasPart yX3_hasPart ∈ lw_tbl := wl_12 _ (List.mem_of_getElem? (i := 21) rfl)
theorem kn_X3_hasParts : KnC yX3_hasParts cX3_hasParts 2 (some .boolean) := ⟨wl_12 _ (List.mem_of_getElem? (i := 22) rfl), wl_12 _ (List.mem_of_getElem? (i := 23) rfl), by decide +kernel, by decide, by decide +kernel⟩
theorem ki_X3_hasParts : Cond.instanceMethod yX3_hasParts ∈ lw_tbl := wl_13 _ (List.mem_of_getElem? (i := 0) rfl)
theorem kv_X3_hasParts : Cond.selects RX3 yX3_hasParts yX3_hasParts ∈ lw_tbl := wl_13 _ (List.mem_of_getElem? (i := 1) rfl)
theorem kn_X3_hasPlayer : KnC yX3_hasPlayer cX3_hasPlayer 2 (some .boolean) := ⟨wl_13 _ (List.mem_of_getElem? (i := 2) rfl), wl_13 _ (List.mem_of_getElem? (i := 3) rfl), by decide +kernel, by decide, by decide +kernel⟩
theorem ki_X3_hasPlayer : Cond.instanceMethod yX3_hasPlayer ∈ lw_tbl := wl_13 _ (List.mem_of_getElem? (i := 4) rfl)
theorem kv_X3_hasPlayer : Cond.selects RX3 yX3_hasPlayer yX3_hasPlayer ∈ lw_tbl := wl_13 _ (List.mem_of_getElem? (i := 5) rfl)
theorem kn_X3_hasPlayers : KnC yX3_hasPlayers cX3_hasPlayers 2 (some .boolean) := ⟨wl_13 _ (List.mem_of_getElem? (i := 6) rfl), wl_13 _ (List.mem_of_getElem? (i := 7) rfl), by decide +kernel, by decide, by decide +kernel⟩
theorem ki_X3_hasPlayers : Cond.instanceMethod yX3_hasPlayers ∈ lw_tbl := wl_13 _ (List.mem_of_getElem? (i := 8) rfl)
theorem kv_X3_hasPlayers : Cond.selects RX3 yX3_hasPlayers yX3_hasPlayers ∈ lw_tbl := wl_13 _ (List.mem_of_getElem? (i := 9) rfl)
theorem kn_X3_hours : KnC yX3_hours cX3_hours 2 (some .int) := ⟨wl_13 _ (List.mem_of_getElem? (i := 10) rfl), wl_13 _ (List.mem_of_getElem? (i := 11) rfl), by decide +kernel, by decide, by decide +kernel⟩
theorem ki_X3_hours : Cond.instanceMethod yX3_hours ∈ lw_tbl := wl_13 _ (List.mem_of_getElem? (i := 12) rfl)
theorem kv_X3_hours : Cond.selects RX3 yX3_hours yX3_hours ∈ lw_tbl := wl_13 _ (List.mem_of_getElem? (i := 13) rfl)
theorem kn_X3_init : KnC yX3_init cX3_init 1 none := ⟨wl_13 _ (List.mem_of_getElem? (i := 14) rfl), wl_13 _ (List.mem_of_getElem? (i := 15) rfl), by decide +kernel, by decide, by decide +kernel⟩
theorem ki_X3_init : Cond.instanceMethod yX3_init ∈ lw_tbl := wl_13 _ (List.mem_of_getElem? (i := 16) rfl)
theorem kn_X3_isSkilled : KnC yX3_isSkilled cX3_isSkilled 3 (some .boolean) := ⟨wl_13 _ (List.mem_of_getElem? (i := 17) rfl), wl_13 _ (List.mem_of_getElem? (i := 18) rfl), by decide +kernel, by decide, by decide +kernel⟩
theorem ki_X3_isSkilled : Cond.instanceMethod yX3_isSkilled ∈ lw_tbl := wl_13 _ (List.mem_of_getElem? (i := 19) rfl)
theorem kv_X3_isSkilled : Cond.selects RX3 yX3_isSkilled yX3_isSkilled ∈ lw_tbl := wl_13 _ (List.mem_of_getElem? (i := 20) rfl)
theorem kn_X3_linesTogether : KnC yX3_linesTogether cX3_linesTogether 4 (some .int) := ⟨wl_13 _ (List.mem_of_getElem? (i := 21) rfl), wl_13 _ (List.mem_of_getElem? (i := 22) rfl), by decide +kernel, by decide, by decide +kernel⟩
theorem ki_X3_linesTogether : Cond.instanceMethod yX3_linesTogether ∈ lw_tbl := wl_13 _ (List.mem_of_getElem? (i := 23) rfl)
theorem kv_X3_linesTogether : Cond.selects RX3 yX3_linesTogether yX3_linesTogether ∈ lw_tbl := wl_14 _ (List.mem_of_getElem? (i := 0) rfl)
theorem kn_X3_mayPlay : KnC yX3_mayPlay cX3_mayPlay 3 (some .boolean) := ⟨wl_14 _ (List.mem_of_getElem? (i := 1) rfl), wl_14 _ (List.mem_of_getElem? (i := 2) rfl), by decide +kernel, by decide, by decide +kernel⟩
theorem ki_X3_mayPlay : Cond.instanceMethod yX3_mayPlay ∈ lw_tbl := wl_14 _ (List.mem_of_getElem? (i := 3) rfl)
theorem kv_X3_mayPlay : Cond.selects RX3 yX3_mayPlay yX3_mayPlay ∈ lw_tbl := wl_14 _ (List.mem_of_getElem? (i := 4) rfl)
theorem kn_X3_ownParts : KnC yX3_ownParts cX3_ownParts 4 (some .int) := ⟨wl_14 _ (List.mem_of_getElem? (i := 5) rfl), wl_14 _ (List.mem_of_getElem? (i := 6) rfl), by decide +kernel, by decide, by decide +kernel⟩
theorem ki_X3_ownParts : Cond.instanceMethod yX3_ownParts ∈ lw_tbl := wl_14 _ (List.mem_of_getElem? (i := 7) rfl)
theorem kv_X3_ownParts : Cond.selects RX3 yX3_ownParts yX3_ownParts ∈ lw_tbl := wl_14 _ (List.mem_of_getElem? (i := 8) rfl)
theorem kn_X3_playable : KnC yX3_playable cX3_playable 4 (some .int) := ⟨wl_14 _ (List.mem_of_getElem? (i := 9) rfl), wl_14 _ (List.mem_of_getElem? (i := 10) rfl), by decide +kernel, by decide, by decide +kernel⟩
theorem ki_X3_playable : Cond.instanceMethod yX3_playable ∈ lw_tbl := wl_14 _ (List.mem_of_getElem? (i := 11) rfl)
theorem kv_X3_playable : Cond.selects RX3 yX3_playable yX3_playable ∈ lw_tbl := wl_14 _ (List.mem_of_getElem? (i := 12) rfl)
theorem kn_X3_setChange : KnC yX3_setChange cX3_setChange 2 (some .boolean) := ⟨wl_14 _ (List.mem_of_getElem? (i := 13) rfl), wl_14 _ (List.mem_of_getElem? (i := 14) rfl), by decide +kernel, by decide, by decide +kernel⟩
theorem ki_X3_setChange : Cond.instanceMethod yX3_setChange ∈ lw_tbl := wl_14 _ (List.mem_of_getElem? (i := 15) rfl)
theorem kv_X3_setChange : Cond.selects RX3 yX3_setChange yX3_setChange ∈ lw_tbl := wl_14 _ (List.mem_of_getElem? (i := 16) rfl)
theorem kn_X3_setContagion : KnC yX3_setContagion cX3_setContagion 4 (some .boolean) := ⟨wl_14 _ (List.mem_of_getElem? (i := 17) rfl), wl_14 _ (List.mem_of_getElem? (i := 18) rfl), by decide +kernel, by decide, by decide +kernel⟩
theorem ki_X3_setContagion : Cond.instanceMethod yX3_setContagion ∈ lw_tbl := wl_14 _ (List.mem_of_getElem? (i := 19) rfl)
theorem kv_X3_setContagion : Cond.selects RX3 yX3_setContagion yX3_setContagion ∈ lw_tbl := wl_14 _ (List.mem_of_getElem? (i := 20) rfl)
theorem kn_X3_setForgetting : KnC yX3_setForgetting cX3_setForgetting 2 (some .boolean) := ⟨wl_14 _ (List.mem_of_getElem? (i := 21) rfl), wl_14 _ (List.mem_of_getElem? (i := 22) rfl), by decide +kernel, by decide, by decide +kernel⟩
theorem ki_X3_setForgetting : Cond.instanceMethod yX3_setForgetting ∈ lw_tbl := wl_14 _ (List.mem_of_getElem? (i := 23) rfl)
theorem kv_X3_setForgetting : Cond.selects RX3 yX3_setForgetting yX3_setForgetting ∈ lw_tbl := wl_15 _ (List.mem_of_getElem? (i := 0) rfl)
theorem kn_X3_setPay : KnC yX3_setPay cX3_setPay 3 (some .boolean) := ⟨wl_15 _ (List.mem_of_getElem? (i := 1) rfl), wl_15 _ (List.mem_of_getElem? (i := 2) rfl), by decide +kernel, by decide, by decide +kernel⟩
theorem ki_X3_setPay : Cond.instanceMethod yX3_setPay ∈ lw_tbl := wl_15 _ (List.mem_of_getElem? (i := 3) rfl)
theorem kv_X3_setPay : Cond.selects RX3 yX3_setPay yX3_setPay ∈ lw_tbl := wl_15 _ (List.mem_of_getElem? (i := 4) rfl)
theorem kn_X3_setTailor : KnC yX3_setTailor cX3_setTailor 2 (some .boolean) := ⟨wl_15 _ (List.mem_of_getElem? (i := 5) rfl), wl_15 _ (List.mem_of_getElem? (i := 6) rfl), by decide +kernel, by decide, by decide +kernel⟩
theorem ki_X3_setTailor : Cond.instanceMethod yX3_setTailor ∈ lw_tbl := wl_15 _ (List.mem_of_getElem? (i := 7) rfl)
theorem kv_X3_setTailor : Cond.selects RX3 yX3_setTailor yX3_setTailor ∈ lw_tbl := wl_15 _ (List.mem_of_getElem? (i := 8) rfl)
theorem kn_X3_settle : KnC yX3_settle cX3_settle 3 none := ⟨wl_15 _ (List.mem_of_getElem? (i := 9) rfl), wl_15 _ (List.mem_of_getElem? (i := 10) rfl), by decide +kernel, by decide, by decide +kernel⟩
theorem ki_X3_settle : Cond.instanceMethod yX3_settle ∈ lw_tbl := wl_15 _ (List.mem_of_getElem? (i := 11) rfl)
theorem kv_X3_settle : Cond.selects RX3 yX3_settle yX3_settle ∈ lw_tbl := wl_15 _ (List.mem_of_getElem? (i := 12) rfl)
theorem kn_X3_take : KnC yX3_take cX3_take 8 (some .boolean) := ⟨wl_15 _ (List.mem_of_getElem? (i := 13) rfl), wl_15 _ (List.mem_of_getElem? (i := 14) rfl), by decide +kernel, by decide, by decide +kernel⟩
theorem ki_X3_take : Cond.instanceMethod yX3_take ∈ lw_tbl := wl_15 _ (List.mem_of_getElem? (i := 15) rfl)
theorem kv_X3_take : Cond.selects RX3 yX3_take yX3_take ∈ lw_tbl := wl_15 _ (List.mem_of_getElem? (i := 16) rfl)
theorem kn_X3_tellScene : KnC yX3_tellScene cX3_tellScene 3 (some .boolean) := ⟨wl_15 _ (List.mem_of_getElem? (i := 17) rfl), wl_15 _ (List.mem_of_getElem? (i := 18) rfl), by decide +kernel, by decide, by decide +kernel⟩
theorem ki_X3_tellScene : Cond.instanceMethod yX3_tellScene ∈ lw_tbl := wl_15 _ (List.mem_of_getElem? (i := 19) rfl)
theorem kv_X3_tellScene : Cond.selects RX3 yX3_tellScene yX3_tellScene ∈ lw_tbl := wl_15 _ (List.mem_of_getElem? (i := 20) rfl)
theorem kn_X4_clear : KnC yX4_clear cX4_clear 1 none := ⟨wl_15 _ (List.mem_of_getElem? (i := 21) rfl), wl_15 _ (List.mem_of_getElem? (i := 22) rfl), by decide +kernel, by decide, by decide +kernel⟩
theorem ki_X4_clear : Cond.instanceMethod yX4_clear ∈ lw_tbl := wl_15 _ (List.mem_of_getElem? (i := 23) rfl)
theorem kv_X4_clear : Cond.selects RX4 yX4_clear yX4_clear ∈ lw_tbl := wl_16 _ (List.mem_of_getElem? (i := 0) rfl)
theorem kn_X4_copy : KnC yX4_copy cX4_copy 2 none := ⟨wl_16 _ (List.mem_of_getElem? (i := 1) rfl), wl_16 _ (List.mem_of_getElem? (i := 2) rfl), by decide +kernel, by decide, by decide +kernel⟩
theorem ki_X4_copy : Cond.instanceMethod yX4_copy ∈ lw_tbl := wl_16 _ (List.mem_of_getElem? (i := 3) rfl)
theorem kv_X4_copy : Cond.selects RX4 yX4_copy yX4_copy ∈ lw_tbl := wl_16 _ (List.mem_of_getElem? (i := 4) rfl)
theorem kn_X4_init : KnC yX4_init cX4_init 1 none := ⟨wl_16 _ (List.mem_of_getElem? (i := 5) rfl), wl_16 _ (List.mem_of_getElem? (i := 6) rfl), by decide +kernel, by decide, by decide +kernel⟩
theorem ki_X4_init : Cond.instanceMethod yX4_init ∈ lw_tbl := wl_16 _ (List.mem_of_getElem? (i := 7) rfl)
theorem kn_X4_keptLines : KnC yX4_keptLines cX4_keptLines 6 (some .int) := ⟨wl_16 _ (List.mem_of_getElem? (i := 8) rfl), wl_16 _ (List.mem_of_getElem? (i := 9) rfl), by decide +kernel, by decide, by decide +kernel⟩
theorem ki_X4_keptLines : Cond.instanceMethod yX4_keptLines ∈ lw_tbl := wl_16 _ (List.mem_of_getElem? (i := 10) rfl)
theorem kv_X4_keptLines : Cond.selects RX4 yX4_keptLines yX4_keptLines ∈ lw_tbl := wl_16 _ (List.mem_of_getElem? (i := 11) rfl)
theorem kn_X4_lostLines : KnC yX4_lostLines cX4_lostLines 4 (some .int) := ⟨wl_16 _ (List.mem_of_getElem? (i := 12) rfl), wl_16 _ (List.mem_of_getElem? (i := 13) rfl), by decide +kernel, by decide, by decide +kernel⟩
theorem ki_X4_lostLines : Cond.instanceMethod yX4_lostLines ∈ lw_tbl := wl_16 _ (List.mem_of_getElem? (i := 14) rfl)
theorem kv_X4_lostLines : Cond.selects RX4 yX4_lostLines yX4_lostLines ∈ lw_tbl := wl_16 _ (List.mem_of_getElem? (i := 15) rfl)
theorem kn_X4_playNight : KnC yX4_playNight cX4_playNight 6 none := ⟨wl_16 _ (List.mem_of_getElem? (i := 16) rfl), wl_16 _ (List.mem_of_getElem? (i := 17) rfl), by decide +kernel, by decide, by decide +kernel⟩
theorem ki_X4_playNight : Cond.instanceMethod yX4_playNight ∈ lw_tbl := wl_16 _ (List.mem_of_getElem? (i := 18) rfl)
theorem kv_X4_playNight : Cond.selects RX4 yX4_playNight yX4_playNight ∈ lw_tbl := wl_16 _ (List.mem_of_getElem? (i := 19) rfl)
theorem kn_X4_sayToday : KnC yX4_sayToday cX4_sayToday 3 none := ⟨wl_16 _ (List.mem_of_getElem? (i := 20) rfl), wl_16 _ (List.mem_of_getElem? (i := 21) rfl), by decide +kernel, by decide, by decide +kernel⟩
theorem ki_X4_sayToday : Cond.instanceMethod yX4_sayToday ∈ lw_tbl := wl_16 _ (List.mem_of_getElem? (i := 22) rfl)
theorem kv_X4_sayToday : Cond.selects RX4 yX4_sayToday yX4_sayToday ∈ lw_tbl := wl_16 _ (List.mem_of_getElem? (i := 23) rfl)
theorem kn_X5_addScene : KnC yX5_addScene cX5_addScene 3 none := ⟨wl_17 _ (List.mem_of_getElem? (i := 0) rfl), wl_17 _ (List.mem_of_getElem? (i := 1) rfl), by decide +kernel, by decide, by decide +kernel⟩
theorem ki_X5_addScene : Cond.instanceMethod yX5_addScene ∈ lw_tbl := wl_17 _ (List.mem_of_getElem? (i := 2) rfl)
theorem kv_X5_addScene : Cond.selects RX5 yX5_addScene yX5_addScene ∈ lw_tbl := wl_17 _ (List.mem_of_getElem? (i := 3) rfl)
theorem kn_X5_clashes : KnC yX5_clashes cX5_clashes 10 (some .boolean) := ⟨wl_17 _ (List.mem_of_getElem? (i := 4) rfl), wl_17 _ (List.mem_of_getElem? (i := 5) rfl), by decide +kernel, by decide, by decide +kernel⟩
theorem ki_X5_clashes : Cond.instanceMethod yX5_clashes ∈ lw_tbl := wl_17 _ (List.mem_of_getElem? (i := 6) rfl)
theorem kv_X5_clashes : Cond.selects RX5 yX5_clashes yX5_clashes ∈ lw_tbl := wl_17 _ (List.mem_of_getElem? (i := 7) rfl)
theorem kn_X5_clear : KnC yX5_clear cX5_clear 1 none := ⟨wl_17 _ (List.mem_of_getElem? (i := 8) rfl), wl_17 _ (List.mem_of_getElem? (i := 9) rfl), by decide +kernel, by decide, by decide +kernel⟩
theorem ki_X5_clear : Cond.instanceMethod yX5_clear ∈ lw_tbl := wl_17 _ (List.mem_of_getElem? (i := 10) rfl)
theorem kv_X5_clear : Cond.selects RX5 yX5_clear yX5_clear ∈ lw_tbl := wl_17 _ (List.mem_of_getElem? (i := 11) rfl)
theorem kn_X5_init : KnC yX5_init cX5_init 1 none := ⟨wl_17 _ (List.mem_of_getElem? (i := 12) rfl), wl_17 _ (List.mem_of_getElem? (i := 13) rfl), by decide +kernel, by decide, by decide +kernel⟩
theorem ki_X5_init : Cond.instanceMethod yX5_init ∈ lw_tbl := wl_17 _ (List.mem_of_getElem? (i := 14) rfl)
theorem kn_X5_scenesOf : KnC yX5_scenesOf cX5_scenesOf 4 (some .int) := ⟨wl_17 _ (List.mem_of_getElem? (i := 15) rfl), wl_17 _ (List.mem_of_getElem? (i := 16) rfl), by decide +kernel, by decide, by decide +kernel⟩
theorem ki_X5_scenesOf : Cond.instanceMethod yX5_scenesOf ∈ lw_tbl := wl_17 _ (List.mem_of_getElem? (i := 17) rfl)
theorem kv_X5_scenesOf : Cond.selects RX5 yX5_scenesOf yX5_scenesOf ∈ lw_tbl := wl_17 _ (List.mem_of_getElem? (i := 18) rfl)
theorem kn_X6_endOfFigures : KnC yX6_endOfFigures cX6_endOfFigures 4 (some .int) := ⟨wl_17 _ (List.mem_of_getElem? (i := 19) rfl), wl_17 _ (List.mem_of_getElem? (i := 20) rfl), by decide +kernel, by decide, by decide +kernel⟩
theorem ks_X6_endOfFigures : Cond.static yX6_endOfFigures ∈ lw_tbl := wl_17 _ (List.mem_of_getElem? (i := 21) rfl)
theorem kn_X6_endOfItem : KnC yX6_endOfItem cX6_endOfItem 7 (some .int) := ⟨wl_17 _ (List.mem_of_getElem? (i := 22) rfl), wl_17 _ (List.mem_of_getElem? (i := 23) rfl), by decide +kernel, by decide, by decide +kernel⟩
theorem ki_X6_endOfItem : Cond.instanceMethod yX6_endOfItem ∈ lw_tbl := wl_18 _ (List.mem_of_getElem? (i := 0) rfl)
theorem kv_X6_endOfItem : Cond.selects RX6 yX6_endOfItem yX6_endOfItem ∈ lw_tbl := wl_18 _ (List.mem_of_getElem? (i := 1) rfl)
theorem kn_X6_firstFault : KnC yX6_firstFault cX6_firstFault 6 (some .int) := ⟨wl_18 _ (List.mem_of_getElem? (i := 2) rfl), wl_18 _ (List.mem_of_getElem? (i := 3) rfl), by decide +kernel, by decide, by decide +kernel⟩
theorem ki_X6_firstFault : Cond.instanceMethod yX6_firstFault ∈ lw_tbl := wl_18 _ (List.mem_of_getElem? (i := 4) rfl)
theorem kv_X6_firstFault : Cond.selects RX6 yX6_firstFault yX6_firstFault ∈ lw_tbl := wl_18 _ (List.mem_of_getElem? (i := 5) rfl)
theorem kn_X6_init : KnC yX6_init cX6_init 1 none := ⟨wl_18 _ (List.mem_of_getElem? (i := 6) rfl), wl_18 _ (List.mem_of_getElem? (i := 7) rfl), by decide +kernel, by decide, by decide +kernel⟩
theorem ki_X6_init : Cond.instanceMethod yX6_init ∈ lw_tbl := wl_18 _ (List.mem_of_getElem? (i := 8) rfl)
theorem kn_X6_numberOf : KnC yX6_numberOf cX6_numberOf 5 (some .int) := ⟨wl_18 _ (List.mem_of_getElem? (i := 9) rfl), wl_18 _ (List.mem_of_getElem? (i := 10) rfl), by decide +kernel, by decide, by decide +kernel⟩
theorem ks_X6_numberOf : Cond.static yX6_numberOf ∈ lw_tbl := wl_18 _ (List.mem_of_getElem? (i := 11) rfl)
theorem kn_X7_divide : KnC yX7_divide cX7_divide 8 none := ⟨wl_18 _ (List.mem_of_getElem? (i := 12) rfl), wl_18 _ (List.mem_of_getElem? (i := 13) rfl), by decide +kernel, by decide, by decide +kernel⟩
theorem ki_X7_divide : Cond.instanceMethod yX7_divide ∈ lw_tbl := wl_18 _ (List.mem_of_getElem? (i := 14) rfl)
theorem kv_X7_divide : Cond.selects RX7 yX7_divide yX7_divide ∈ lw_tbl := wl_18 _ (List.mem_of_getElem? (i := 15) rfl)
theorem kn_X7_forget : KnC yX7_forget cX7_forget 1 none := ⟨wl_18 _ (List.mem_of_getElem? (i := 16) rfl), wl_18 _ (List.mem_of_getElem? (i := 17) rfl), by decide +kernel, by decide, by decide +kernel⟩
theorem ki_X7_forget : Cond.instanceMethod yX7_forget ∈ lw_tbl := wl_18 _ (List.mem_of_getElem? (i := 18) rfl)
theorem kv_X7_forget : Cond.selects RX7 yX7_forget yX7_forget ∈ lw_tbl := wl_18 _ (List.mem_of_getElem? (i := 19) rfl)
theorem kn_X7_goOn : KnC yX7_goOn cX7_goOn 4 none := ⟨wl_18 _ (List.mem_of_getElem? (i := 20) rfl), wl_18 _ (List.mem_of_getElem? (i := 21) rfl), by decide +kernel, by decide, by decide +kernel⟩
theorem ki_X7_goOn : Cond.instanceMethod yX7_goOn ∈ lw_tbl := wl_18 _ (List.mem_of_getElem? (i := 22) rfl)
theorem kv_X7_goOn : Cond.selects RX7 yX7_goOn yX7_goOn ∈ lw_tbl := wl_18 _ (List.mem_of_getElem? (i := 23) rfl)
theorem kn_X7_init : KnC yX7_init cX7_init 1 none := ⟨wl_19 _ (List.mem_of_getElem? (i := 0) rfl), wl_19 _ (List.mem_of_getElem? (i := 1) rfl), by decide +kernel, by decide, by decide +kernel⟩
theorem ki_X7_init : Cond.instanceMethod yX7_init ∈ lw_tbl := wl_19 _ (List.mem_of_getElem? (i := 2) rfl)
theorem kn_X7_likeliest : KnC yX7_likeliest cX7_likeliest 4 (some .int) := ⟨wl_19 _ (List.mem_of_getElem? (i := 3) rfl), wl_19 _ (List.mem_of_getElem? (i := 4) rfl), by decide +kernel, by decide, by decide +kernel⟩
theorem ki_X7_likeliest : Cond.instanceMethod yX7_likeliest ∈ lw_tbl := wl_19 _ (List.mem_of_getElem? (i := 5) rfl)
theorem kv_X7_likeliest : Cond.selects RX7 yX7_likeliest yX7_likeliest ∈ lw_tbl := wl_19 _ (List.mem_of_getElem? (i := 6) rfl)
theorem kn_X7_passDay : KnC yX7_passDay cX7_passDay 4 none := ⟨wl_19 _ (List.mem_of_getElem? (i := 7) rfl), wl_19 _ (List.mem_of_getElem? (i := 8) rfl), by decide +kernel, by decide, by decide +kernel⟩
theorem ki_X7_passDay : Cond.instanceMethod yX7_passDay ∈ lw_tbl := wl_19 _ (List.mem_of_getElem? (i := 9) rfl)
theorem kv_X7_passDay : Cond.selects RX7 yX7_passDay yX7_passDay ∈ lw_tbl := wl_19 _ (List.mem_of_getElem? (i := 10) rfl)
theorem kn_X7_spread : KnC yX7_spread cX7_spread 4 none := ⟨wl_19 _ (List.mem_of_getElem? (i := 11) rfl), wl_19 _ (List.mem_of_getElem? (i := 12) rfl), by decide +kernel, by decide, by decide +kernel⟩
theorem ki_X7_spread : Cond.instanceMethod yX7_spread ∈ lw_tbl := wl_19 _ (List.mem_of_getElem? (i := 13) rfl)
theorem kv_X7_spread : Cond.selects RX7 yX7_spread yX7_spread ∈ lw_tbl := wl_19 _ (List.mem_of_getElem? (i := 14) rfl)
theorem kn_X7_staysWell : KnC yX7_staysWell cX7_staysWell 6 (some .int) := ⟨wl_19 _ (List.mem_of_getElem? (i := 15) rfl), wl_19 _ (List.mem_of_getElem? (i := 16) rfl), by decide +kernel, by decide, by decide +kernel⟩
theorem ki_X7_staysWell : Cond.instanceMethod yX7_staysWell ∈ lw_tbl := wl_19 _ (List.mem_of_getElem? (i := 17) rfl)
theorem kv_X7_staysWell : Cond.selects RX7 yX7_staysWell yX7_staysWell ∈ lw_tbl := wl_19 _ (List.mem_of_getElem? (i := 18) rfl)
theorem kn_X7_timesIll : KnC yX7_timesIll cX7_timesIll 5 (some .int) := ⟨wl_19 _ (List.mem_of_getElem? (i := 19) rfl), wl_19 _ (List.mem_of_getElem? (i := 20) rfl), by decide +kernel, by decide, by decide +kernel⟩
theorem ki_X7_timesIll : Cond.instanceMethod yX7_timesIll ∈ lw_tbl := wl_19 _ (List.mem_of_getElem? (i := 21) rfl)
theorem kv_X7_timesIll : Cond.selects RX7 yX7_timesIll yX7_timesIll ∈ lw_tbl := wl_19 _ (List.mem_of_getElem? (i := 22) rfl)
theorem kn_X7_timesMet : KnC yX7_timesMet cX7_timesMet 5 (some .int) := ⟨wl_19 _ (List.mem_of_getElem? (i := 23) rfl), wl_20 _ (List.mem_of_getElem? (i := 0) rfl), by decide +kernel, by decide, by decide +kernel⟩
theorem ki_X7_timesMet : Cond.instanceMethod yX7_timesMet ∈ lw_tbl := wl_20 _ (List.mem_of_getElem? (i := 1) rfl)
theorem kv_X7_timesMet : Cond.selects RX7 yX7_timesMet yX7_timesMet ∈ lw_tbl := wl_20 _ (List.mem_of_getElem? (i := 2) rfl)
theorem kn_X8_choosePairs : KnC yX8_choosePairs cX8_choosePairs 4 none := ⟨wl_20 _ (List.mem_of_getElem? (i := 3) rfl), wl_20 _ (List.mem_of_getElem? (i := 4) rfl), by decide +kernel, by decide, by decide +kernel⟩
theorem ki_X8_choosePairs : Cond.instanceMethod yX8_choosePairs ∈ lw_tbl := wl_20 _ (List.mem_of_getElem? (i := 5) rfl)
theorem kv_X8_choosePairs : Cond.selects RX8 yX8_choosePairs yX8_choosePairs ∈ lw_tbl := wl_20 _ (List.mem_of_getElem? (i := 6) rfl)
theorem kn_X8_init : KnC yX8_init cX8_init 1 none := ⟨wl_20 _ (List.mem_of_getElem? (i := 7) rfl), wl_20 _ (List.mem_of_getElem? (i := 8) rfl), by decide +kernel, by decide, by decide +kernel⟩
theorem ki_X8_init : Cond.instanceMethod yX8_init ∈ lw_tbl := wl_20 _ (List.mem_of_getElem? (i := 9) rfl)
theorem kn_X8_listPairs : KnC yX8_listPairs cX8_listPairs 6 none := ⟨wl_20 _ (List.mem_of_getElem? (i := 10) rfl), wl_20 _ (List.mem_of_getElem? (i := 11) rfl), by decide +kernel, by decide, by decide +kernel⟩
theorem ki_X8_listPairs : Cond.instanceMethod yX8_listPairs ∈ lw_tbl := wl_20 _ (List.mem_of_getElem? (i := 12) rfl)
theorem kv_X8_listPairs : Cond.selects RX8 yX8_listPairs yX8_listPairs ∈ lw_tbl := wl_20 _ (List.mem_of_getElem? (i := 13) rfl)
theorem kn_X8_plan : KnC yX8_plan cX8_plan 4 none := ⟨wl_20 _ (List.mem_of_getElem? (i := 14) rfl), wl_20 _ (List.mem_of_getElem? (i := 15) rfl), by decide +kernel, by decide, by decide +kernel⟩
theorem ki_X8_plan : Cond.instanceMethod yX8_plan ∈ lw_tbl := wl_20 _ (List.mem_of_getElem? (i := 16) rfl)
theorem kv_X8_plan : Cond.selects RX8 yX8_plan yX8_plan ∈ lw_tbl := wl_20 _ (List.mem_of_getElem? (i := 17) rfl)
theorem kn_X8_weighPairs : KnC yX8_weighPairs cX8_weighPairs 5 none := ⟨wl_20 _ (List.mem_of_getElem? (i := 18) rfl), wl_20 _ (List.mem_of_getElem? (i := 19) rfl), by decide +kernel, by decide, by decide +kernel⟩
theorem ki_X8_weighPairs : Cond.instanceMethod yX8_weighPairs ∈ lw_tbl := wl_20 _ (List.mem_of_getElem? (i := 20) rfl)
theorem kv_X8_weighPairs : Cond.selects RX8 yX8_weighPairs yX8_weighPairs ∈ lw_tbl := wl_20 _ (List.mem_of_getElem? (i := 21) rfl)
theorem kn_X8_worthWith : KnC yX8_worthWith cX8_worthWith 4 (some .int) := ⟨wl_20 _ (List.mem_of_getElem? (i := 22) rfl), wl_20 _ (List.mem_of_getElem? (i := 23) rfl), by decide +kernel, by decide, by decide +kernel⟩
theorem ki_X8_worthWith : Cond.instanceMethod yX8_worthWith ∈ lw_tbl := wl_21 _ (List.mem_of_getElem? (i := 0) rfl)
theorem kv_X8_worthWith : Cond.selects RX8 yX8_worthWith yX8_worthWith ∈ lw_tbl := wl_21 _ (List.mem_of_getElem? (i := 1) rfl)
theorem kn_X9_areEnough : KnC yX9_areEnough cX9_areEnough 8 (some .boolean) := ⟨wl_21 _ (List.mem_of_getElem? (i := 2) rfl), wl_21 _ (List.mem_of_getElem? (i := 3) rfl), by decide +kernel, by decide, by decide +kernel⟩
theorem ki_X9_areEnough : Cond.instanceMethod yX9_areEnough ∈ lw_tbl := wl_21 _ (List.mem_of_getElem? (i := 4) rfl)
theorem kv_X9_areEnough : Cond.selects RX9 yX9_areEnough yX9_areEnough ∈ lw_tbl := wl_21 _ (List.mem_of_getElem? (i := 5) rfl)
theorem kn_X9_fewestForPairs : KnC yX9_fewestForPairs cX9_fewestForPairs 7 (some .int) := ⟨wl_21 _ (List.mem_of_getElem? (i := 6) rfl), wl_21 _ (List.mem_of_getElem? (i := 7) rfl), by decide +kernel, by decide, by decide +kernel⟩
theorem ki_X9_fewestForPairs : Cond.instanceMethod yX9_fewestForPairs ∈ lw_tbl := wl_21 _ (List.mem_of_getElem? (i := 8) rfl)
theorem kv_X9_fewestForPairs : Cond.selects RX9 yX9_fewestForPairs yX9_fewestForPairs ∈ lw_tbl := wl_21 _ (List.mem_of_getElem? (i := 9) rfl)
theorem kn_X9_findBest : KnC yX9_findBest cX9_findBest 5 none := ⟨wl_21 _ (List.mem_of_getElem? (i := 10) rfl), wl_21 _ (List.mem_of_getElem? (i := 11) rfl), by decide +kernel, by decide, by decide +kernel⟩
theorem ki_X9_findBest : Cond.instanceMethod yX9_findBest ∈ lw_tbl := wl_21 _ (List.mem_of_getElem? (i := 12) rfl)
theorem kv_X9_findBest : Cond.selects RX9 yX9_findBest yX9_findBest ∈ lw_tbl := wl_21 _ (List.mem_of_getElem? (i := 13) rfl)
theorem kn_X9_forget : KnC yX9_forget cX9_forget 1 none := ⟨wl_21 _ (List.mem_of_getElem? (i := 14) rfl), wl_21 _ (List.mem_of_getElem? (i := 15) rfl), by decide +kernel, by decide, by decide +kernel⟩
theorem ki_X9_forget : Cond.instanceMethod yX9_forget ∈ lw_tbl := wl_21 _ (List.mem_of_getElem? (i := 16) rfl)
theorem kv_X9_forget : Cond.selects RX9 yX9_forget yX9_forget ∈ lw_tbl := wl_21 _ (List.mem_of_getElem? (i := 17) rfl)
theorem kn_X9_helpTogether : KnC yX9_helpTogether cX9_helpTogether 9 (some .boolean) := ⟨wl_21 _ (List.mem_of_getElem? (i := 18) rfl), wl_21 _ (List.mem_of_getElem? (i := 19) rfl), by decide +kernel, by decide, by decide +kernel⟩
theorem ki_X9_helpTogether : Cond.instanceMethod yX9_helpTogether ∈ lw_tbl := wl_21 _ (List.mem_of_getElem? (i := 20) rfl)
theorem kv_X9_helpTogether : Cond.selects RX9 yX9_helpTogether yX9_helpTogether ∈ lw_tbl := wl_21 _ (List.mem_of_getElem? (i := 21) rfl)
theorem kn_X9_helps : KnC yX9_helps cX9_helps 4 (some .boolean) := ⟨wl_21 _ (List.mem_of_getElem? (i := 22) rfl), wl_21 _ (List.mem_of_getElem? (i := 23) rfl), by decide +kernel, by decide, by decide +kernel⟩
theorem ki_X9_helps : Cond.instanceMethod yX9_helps ∈ lw_tbl := wl_22 _ (List.mem_of_getElem? (i := 0) rfl)
theorem kv_X9_helps : Cond.selects RX9 yX9_helps yX9_helps ∈ lw_tbl := wl_22 _ (List.mem_of_getElem? (i := 1) rfl)
theorem kn_X9_init : KnC yX9_init cX9_init 1 none := ⟨wl_22 _ (List.mem_of_getElem? (i := 2) rfl), wl_22 _ (List.mem_of_getElem? (i := 3) rfl), by decide +kernel, by decide, by decide +kernel⟩
theorem ki_X9_init : Cond.instanceMethod yX9_init ∈ lw_tbl := wl_22 _ (List.mem_of_getElem? (i := 4) rfl)
theorem kn_X9_listCovers : KnC yX9_listCovers cX9_listCovers 4 none := ⟨wl_22 _ (List.mem_of_getElem? (i := 5) rfl), wl_22 _ (List.mem_of_getElem? (i := 6) rfl), by decide +kernel, by decide, by decide +kernel⟩
theorem ki_X9_listCovers : Cond.instanceMethod yX9_listCovers ∈ lw_tbl := wl_22 _ (List.mem_of_getElem? (i := 7) rfl)
theorem kv_X9_listCovers : Cond.selects RX9 yX9_listCovers yX9_listCovers ∈ lw_tbl := wl_22 _ (List.mem_of_getElem? (i := 8) rfl)
theorem kn_X9_survey : KnC yX9_survey cX9_survey 8 none := ⟨wl_22 _ (List.mem_of_getElem? (i := 9) rfl), wl_22 _ (List.mem_of_getElem? (i := 10) rfl), by decide +kernel, by decide, by decide +kernel⟩
theorem ki_X9_survey : Cond.instanceMethod yX9_survey ∈ lw_tbl := wl_22 _ (List.mem_of_getElem? (i := 11) rfl)
theorem kv_X9_survey : Cond.selects RX9 yX9_survey yX9_survey ∈ lw_tbl := wl_22 _ (List.mem_of_getElem? (i := 12) rfl)
theorem kn_X10_back : KnC yX10_back cX10_back 2 (some .int) := ⟨wl_22 _ (List.mem_of_getElem? (i := 13) rfl), wl_22 _ (List.mem_of_getElem? (i := 14) rfl), by decide +kernel, by decide, by decide +kernel⟩
theorem ki_X10_back : Cond.instanceMethod yX10_back ∈ lw_tbl := wl_22 _ (List.mem_of_getElem? (i := 15) rfl)
theorem kv_X10_back : Cond.selects RX10 yX10_back yX10_back ∈ lw_tbl := wl_22 _ (List.mem_of_getElem? (i := 16) rfl)
theorem kn_X10_both : KnC yX10_both cX10_both 3 (some .int) := ⟨wl_22 _ (List.mem_of_getElem? (i := 17) rfl), wl_22 _ (List.mem_of_getElem? (i := 18) rfl), by decide +kernel, by decide, by decide +kernel⟩
theorem ki_X10_both : Cond.instanceMethod yX10_both ∈ lw_tbl := wl_22 _ (List.mem_of_getElem? (i := 19) rfl)
theorem kv_X10_both : Cond.selects RX10 yX10_both yX10_both ∈ lw_tbl := wl_22 _ (List.mem_of_getElem? (i := 20) rfl)
theorem kn_X10_cold : KnC yX10_cold cX10_cold 5 (some .int) := ⟨wl_22 _ (List.mem_of_getElem? (i := 21) rfl), wl_22 _ (List.mem_of_getElem? (i := 22) rfl), by decide +kernel, by decide, by decide +kernel⟩
theorem ki_X10_cold : Cond.instanceMethod yX10_cold ∈ lw_tbl := wl_22 _ (List.mem_of_getElem? (i := 23) rfl)
theorem kv_X10_cold : Cond.selects RX10 yX10_cold yX10_cold ∈ lw_tbl := wl_23 _ (List.mem_of_getElem? (i := 0) rfl)
theorem kn_X10_count : KnC yX10_count cX10_count 2 (some .int) := ⟨wl_23 _ (List.mem_of_getElem? (i := 1) rfl), wl_23 _ (List.mem_of_getElem? (i := 2) rfl), by decide +kernel, by decide, by decide +kernel⟩
theorem ki_X10_count : Cond.instanceMethod yX10_count ∈ lw_tbl := wl_23 _ (List.mem_of_getElem? (i := 3) rfl)
theorem kv_X10_count : Cond.selects RX10 yX10_count yX10_count ∈ lw_tbl := wl_23 _ (List.mem_of_getElem? (i := 4) rfl)
theorem kn_X10_cuts : KnC yX10_cuts cX10_cuts 4 (some .int) := ⟨wl_23 _ (List.mem_of_getElem? (i := 5) rfl), wl_23 _ (List.mem_of_getElem? (i := 6) rfl), by decide +kernel, by decide, by decide +kernel⟩
theorem ki_X10_cuts : Cond.instanceMethod yX10_cuts ∈ lw_tbl := wl_23 _ (List.mem_of_getElem? (i := 7) rfl)
theorem kv_X10_cuts : Cond.selects RX10 yX10_cuts yX10_cuts ∈ lw_tbl := wl_23 _ (List.mem_of_getElem? (i := 8) rfl)
theorem kn_X10_engaged : KnC yX10_engaged cX10_engaged 3 (some .int) := ⟨wl_23 _ (List.mem_of_getElem? (i := 9) rfl), wl_23 _ (List.mem_of_getElem? (i := 10) rfl), by decide +kernel, by decide, by decide +kernel⟩
theorem ki_X10_engaged : Cond.instanceMethod yX10_engaged ∈ lw_tbl := wl_23 _ (List.mem_of_getElem? (i := 11) rfl)
theorem kv_X10_engaged : Cond.selects RX10 yX10_engaged yX10_engaged ∈ lw_tbl := wl_23 _ (List.mem_of_getElem? (i := 12) rfl)
theorem kn_X10_fault : KnC yX10_fault cX10_fault 1 (some .int) := ⟨wl_23 _ (List.mem_of_getElem? (i := 13) rfl), wl_23 _ (List.mem_of_getElem? (i := 14) rfl), by decide +kernel, by decide, by decide +kernel⟩
theorem ki_X10_fault : Cond.instanceMethod yX10_fault ∈ lw_tbl := wl_23 _ (List.mem_of_getElem? (i := 15) rfl)
theorem kv_X10_fault : Cond.selects RX10 yX10_fault yX10_fault ∈ lw_tbl := wl_23 _ (List.mem_of_getElem? (i := 16) rfl)
theorem kn_X10_fewest : KnC yX10_fewest cX10_fewest 1 (some .int) := ⟨wl_23 _ (List.mem_of_getElem? (i := 17) rfl), wl_23 _ (List.mem_of_getElem? (i := 18) rfl), by decide +kernel, by decide, by decide +kernel⟩
theorem ki_X10_fewest : Cond.instanceMethod yX10_fewest ∈ lw_tbl := wl_23 _ (List.mem_of_getElem? (i := 19) rfl)
theorem kv_X10_fewest : Cond.selects RX10 yX10_fewest yX10_fewest ∈ lw_tbl := wl_23 _ (List.mem_of_getElem? (i := 20) rfl)
theorem kn_X10_has : KnC yX10_has cX10_has 2 (some .boolean) := ⟨wl_23 _ (List.mem_of_getElem? (i := 21) rfl), wl_23 _ (List.mem_of_getElem? (i := 22) rfl), by decide +kernel, by decide, by decide +kernel⟩
theorem ks_X10_has : Cond.static yX10_has ∈ lw_tbl := wl_23 _ (List.mem_of_getElem? (i := 23) rfl)
theorem kn_X10_init : KnC yX10_init cX10_init 1 none := ⟨wl_24 _ (List.mem_of_getElem? (i := 0) rfl), wl_24 _ (List.mem_of_getElem? (i := 1) rfl), by decide +kernel, by decide, by decide +kernel⟩
theorem ki_X10_init : Cond.instanceMethod yX10_init ∈ lw_tbl := wl_24 _ (List.mem_of_getElem? (i := 2) rfl)
theorem kn_X10_keep : KnC yX10_keep cX10_keep 2 (some .int) := ⟨wl_24 _ (List.mem_of_getElem? (i := 3) rfl), wl_24 _ (List.mem_of_getElem? (i := 4) rfl), by decide +kernel, by decide, by decide +kernel⟩
theorem ki_X10_keep : Cond.instanceMethod yX10_keep ∈ lw_tbl := wl_24 _ (List.mem_of_getElem? (i := 5) rfl)
theorem kv_X10_keep : Cond.selects RX10 yX10_keep yX10_keep ∈ lw_tbl := wl_24 _ (List.mem_of_getElem? (i := 6) rfl)
theorem kn_X10_lay : KnC yX10_lay cX10_lay 2 (some .int) := ⟨wl_24 _ (List.mem_of_getElem? (i := 7) rfl), wl_24 _ (List.mem_of_getElem? (i := 8) rfl), by decide +kernel, by decide, by decide +kernel⟩
theorem ki_X10_lay : Cond.instanceMethod yX10_lay ∈ lw_tbl := wl_24 _ (List.mem_of_getElem? (i := 9) rfl)
theorem kv_X10_lay : Cond.selects RX10 yX10_lay yX10_lay ∈ lw_tbl := wl_24 _ (List.mem_of_getElem? (i := 10) rfl)
theorem kn_X10_least : KnC yX10_least cX10_least 5 (some .int) := ⟨wl_24 _ (List.mem_of_getElem? (i := 11) rfl), wl_24 _ (List.mem_of_getElem? (i := 12) rfl), by decide +kernel, by decide, by decide +kernel⟩
theorem ki_X10_least : Cond.instanceMethod yX10_least ∈ lw_tbl := wl_24 _ (List.mem_of_getElem? (i := 13) rfl)
theorem kv_X10_least : Cond.selects RX10 yX10_least yX10_least ∈ lw_tbl := wl_24 _ (List.mem_of_getElem? (i := 14) rfl)
theorem kn_X10_lines : KnC yX10_lines cX10_lines 3 (some .int) := ⟨wl_24 _ (List.mem_of_getElem? (i := 15) rfl), wl_24 _ (List.mem_of_getElem? (i := 16) rfl), by decide +kernel, by decide, by decide +kernel⟩
theorem ki_X10_lines : Cond.instanceMethod yX10_lines ∈ lw_tbl := wl_24 _ (List.mem_of_getElem? (i := 17) rfl)
theorem kv_X10_lines : Cond.selects RX10 yX10_lines yX10_lines ∈ lw_tbl := wl_24 _ (List.mem_of_getElem? (i := 18) rfl)
theorem kn_X10_night : KnC yX10_night cX10_night 3 (some .int) := ⟨wl_24 _ (List.mem_of_getElem? (i := 19) rfl), wl_24 _ (List.mem_of_getElem? (i := 20) rfl), by decide +kernel, by decide, by decide +kernel⟩
theorem ki_X10_night : Cond.instanceMethod yX10_night ∈ lw_tbl := wl_24 _ (List.mem_of_getElem? (i := 21) rfl)
theorem kv_X10_night : Cond.selects RX10 yX10_night yX10_night ∈ lw_tbl := wl_24 _ (List.mem_of_getElem? (i := 22) rfl)
theorem kn_X10_owed : KnC yX10_owed cX10_owed 2 (some .int) := ⟨wl_24 _ (List.mem_of_getElem? (i := 23) rfl), wl_25 _ (List.mem_of_getElem? (i := 0) rfl), by decide +kernel, by decide, by decide +kernel⟩
theorem ki_X10_owed : Cond.instanceMethod yX10_owed ∈ lw_tbl := wl_25 _ (List.mem_of_getElem? (i := 1) rfl)
theorem kv_X10_owed : Cond.selects RX10 yX10_owed yX10_owed ∈ lw_tbl := wl_25 _ (List.mem_of_getElem? (i := 2) rfl)
theorem kn_X10_part : KnC yX10_part cX10_part 3 (some .int) := ⟨wl_25 _ (List.mem_of_getElem? (i := 3) rfl), wl_25 _ (List.mem_of_getElem? (i := 4) rfl), by decide +kernel, by decide, by decide +kernel⟩
theorem ki_X10_part : Cond.instanceMethod yX10_part ∈ lw_tbl := wl_25 _ (List.mem_of_getElem? (i := 5) rfl)
theorem kv_X10_part : Cond.selects RX10 yX10_part yX10_part ∈ lw_tbl := wl_25 _ (List.mem_of_getElem? (i := 6) rfl)
theorem kn_X10_player : KnC yX10_player cX10_player 3 (some .int) := ⟨wl_25 _ (List.mem_of_getElem? (i := 7) rfl), wl_25 _ (List.mem_of_getElem? (i := 8) rfl), by decide +kernel, by decide, by decide +kernel⟩
theorem ki_X10_player : Cond.instanceMethod yX10_player ∈ lw_tbl := wl_25 _ (List.mem_of_getElem? (i := 9) rfl)
theorem kv_X10_player : Cond.selects RX10 yX10_player yX10_player ∈ lw_tbl := wl_25 _ (List.mem_of_getElem? (i := 10) rfl)
theorem kn_X10_rehearsals : KnC yX10_rehearsals cX10_rehearsals 3 (some .int) := ⟨wl_25 _ (List.mem_of_getElem? (i := 11) rfl), wl_25 _ (List.mem_of_getElem? (i := 12) rfl), by decide +kernel, by decide, by decide +kernel⟩
theorem ki_X10_rehearsals : Cond.instanceMethod yX10_rehearsals ∈ lw_tbl := wl_25 _ (List.mem_of_getElem? (i := 13) rfl)
theorem kv_X10_rehearsals : Cond.selects RX10 yX10_rehearsals yX10_rehearsals ∈ lw_tbl := wl_25 _ (List.mem_of_getElem? (i := 14) rfl)
theorem kn_X10_rehearse : KnC yX10_rehearse cX10_rehearse 3 (some .int) := ⟨wl_25 _ (List.mem_of_getElem? (i := 15) rfl), wl_25 _ (List.mem_of_getElem? (i := 16) rfl), by decide +kernel, by decide, by decide +kernel⟩
theorem ki_X10_rehearse : Cond.instanceMethod yX10_rehearse ∈ lw_tbl := wl_25 _ (List.mem_of_getElem? (i := 17) rfl)
theorem kv_X10_rehearse : Cond.selects RX10 yX10_rehearse yX10_rehearse ∈ lw_tbl := wl_25 _ (List.mem_of_getElem? (i := 18) rfl)
theorem kn_X10_rest : KnC yX10_rest cX10_rest 2 (some .int) := ⟨wl_25 _ (List.mem_of_getElem? (i := 19) rfl), wl_25 _ (List.mem_of_getElem? (i := 20) rfl), by decide +kernel, by decide, by decide +kernel⟩
theorem ki_X10_rest : Cond.instanceMethod yX10_rest ∈ lw_tbl := wl_25 _ (List.mem_of_getElem? (i := 21) rfl)
theorem kv_X10_rest : Cond.selects RX10 yX10_rest yX10_rest ∈ lw_tbl := wl_25 _ (List.mem_of_getElem? (i := 22) rfl)
theorem kn_X10_run : KnC yX10_run cX10_run 6 (some .int) := ⟨wl_25 _ (List.mem_of_getElem? (i := 23) rfl), wl_26 _ (List.mem_of_getElem? (i := 0) rfl), by decide +kernel, by decide, by decide +kernel⟩
theorem ki_X10_run : Cond.instanceMethod yX10_run ∈ lw_tbl := wl_26 _ (List.mem_of_getElem? (i := 1) rfl)
theorem kv_X10_run : Cond.selects RX10 yX10_run yX10_run ∈ lw_tbl := wl_26 _ (List.mem_of_getElem? (i := 2) rfl)
theorem kn_X10_startAnew : KnC yX10_startAnew cX10_startAnew 1 none := ⟨wl_26 _ (List.mem_of_getElem? (i := 3) rfl), wl_26 _ (List.mem_of_getElem? (i := 4) rfl), by decide +kernel, by decide, by decide +kernel⟩
theorem ki_X10_startAnew : Cond.instanceMethod yX10_startAnew ∈ lw_tbl := wl_26 _ (List.mem_of_getElem? (i := 5) rfl)
theorem kv_X10_startAnew : Cond.selects RX10 yX10_startAnew yX10_startAnew ∈ lw_tbl := wl_26 _ (List.mem_of_getElem? (i := 6) rfl)
theorem kn_X10_told : KnC yX10_told cX10_told 4 (some .int) := ⟨wl_26 _ (List.mem_of_getElem? (i := 7) rfl), wl_26 _ (List.mem_of_getElem? (i := 8) rfl), by decide +kernel, by decide, by decide +kernel⟩
theorem ki_X10_told : Cond.instanceMethod yX10_told ∈ lw_tbl := wl_26 _ (List.mem_of_getElem? (i := 9) rfl)
theorem kv_X10_told : Cond.selects RX10 yX10_told yX10_told ∈ lw_tbl := wl_26 _ (List.mem_of_getElem? (i := 10) rfl)
theorem kn_X10_ways : KnC yX10_ways cX10_ways 3 (some .long) := ⟨wl_26 _ (List.mem_of_getElem? (i := 11) rfl), wl_26 _ (List.mem_of_getElem? (i := 12) rfl), by decide +kernel, by decide, by decide +kernel⟩
theorem ki_X10_ways : Cond.instanceMethod yX10_ways ∈ lw_tbl := wl_26 _ (List.mem_of_getElem? (i := 13) rfl)
theorem kv_X10_ways : Cond.selects RX10 yX10_ways yX10_ways ∈ lw_tbl := wl_26 _ (List.mem_of_getElem? (i := 14) rfl)
theorem kn_X10_weak : KnC yX10_weak cX10_weak 3 (some .int) := ⟨wl_26 _ (List.mem_of_getElem? (i := 15) rfl), wl_26 _ (List.mem_of_getElem? (i := 16) rfl), by decide +kernel, by decide, by decide +kernel⟩
theorem ki_X10_weak : Cond.instanceMethod yX10_weak ∈ lw_tbl := wl_26 _ (List.mem_of_getElem? (i := 17) rfl)
theorem kv_X10_weak : Cond.selects RX10 yX10_weak yX10_weak ∈ lw_tbl := wl_26 _ (List.mem_of_getElem? (i := 18) rfl)
theorem kn_X10_wipe : KnC yX10_wipe cX10_wipe 2 (some .int) := ⟨wl_26 _ (List.mem_of_getElem? (i := 19) rfl), wl_26 _ (List.mem_of_getElem? (i := 20) rfl), by decide +kernel, by decide, by decide +kernel⟩
theorem ki_X10_wipe : Cond.instanceMethod yX10_wipe ∈ lw_tbl := wl_26 _ (List.mem_of_getElem? (i := 21) rfl)
theorem kv_X10_wipe : Cond.selects RX10 yX10_wipe yX10_wipe ∈ lw_tbl := wl_26 _ (List.mem_of_getElem? (i := 22) rfl)
theorem kn_X10_write : KnC yX10_write cX10_write 5 (some .int) := ⟨wl_26 _ (List.mem_of_getElem? (i := 23) rfl), wl_27 _ (List.mem_of_getElem? (i := 0) rfl), by decide +kernel, by decide, by decide +kernel⟩
theorem ki_X10_write : Cond.instanceMethod yX10_write ∈ lw_tbl := wl_27 _ (List.mem_of_getElem? (i := 1) rfl)
theorem kv_X10_write : Cond.selects RX10 yX10_write yX10_write ∈ lw_tbl := wl_27 _ (List.mem_of_getElem? (i := 2) rfl)
theorem kn_X10_wrong : KnC yX10_wrong cX10_wrong 2 (some .int) := ⟨wl_27 _ (List.mem_of_getElem? (i := 3) rfl), wl_27 _ (List.mem_of_getElem? (i := 4) rfl), by decide +kernel, by decide, by decide +kernel⟩
theorem ki_X10_wrong : Cond.instanceMethod yX10_wrong ∈ lw_tbl := wl_27 _ (List.mem_of_getElem? (i := 5) rfl)
theorem kv_X10_wrong : Cond.selects RX10 yX10_wrong yX10_wrong ∈ lw_tbl := wl_27 _ (List.mem_of_getElem? (i := 6) rfl)
theorem kn_X11_areBoth : KnC yX11_areBoth cX11_areBoth 9 (some .boolean) := ⟨wl_27 _ (List.mem_of_getElem? (i := 7) rfl), wl_27 _ (List.mem_of_getElem? (i := 8) rfl), by decide +kernel, by decide, by decide +kernel⟩
theorem ki_X11_areBoth : Cond.instanceMethod yX11_areBoth ∈ lw_tbl := wl_27 _ (List.mem_of_getElem? (i := 9) rfl)
theorem kv_X11_areBoth : Cond.selects RX11 yX11_areBoth yX11_areBoth ∈ lw_tbl := wl_27 _ (List.mem_of_getElem? (i := 10) rfl)
theorem kn_X11_back : KnC yX11_back cX11_back 1 (some .int) := ⟨wl_27 _ (List.mem_of_getElem? (i := 11) rfl), wl_27 _ (List.mem_of_getElem? (i := 12) rfl), by decide +kernel, by decide, by decide +kernel⟩
theorem ki_X11_back : Cond.instanceMethod yX11_back ∈ lw_tbl := wl_27 _ (List.mem_of_getElem? (i := 13) rfl)
theorem kv_X11_back : Cond.selects RX11 yX11_back yX11_back ∈ lw_tbl := wl_27 _ (List.mem_of_getElem? (i := 14) rfl)
theorem kn_X11_bits : KnC yX11_bits cX11_bits 3 (some .int) := ⟨wl_27 _ (List.mem_of_getElem? (i := 15) rfl), wl_27 _ (List.mem_of_getElem? (i := 16) rfl), by decide +kernel, by decide, by decide +kernel⟩
theorem ks_X11_bits : Cond.static yX11_bits ∈ lw_tbl := wl_27 _ (List.mem_of_getElem? (i := 17) rfl)
theorem kn_X11_both : KnC yX11_both cX11_both 3 (some .int) := ⟨wl_27 _ (List.mem_of_getElem? (i := 18) rfl), wl_27 _ (List.mem_of_getElem? (i := 19) rfl), by decide +kernel, by decide, by decide +kernel⟩
theorem ki_X11_both : Cond.instanceMethod yX11_both ∈ lw_tbl := wl_27 _ (List.mem_of_getElem? (i := 20) rfl)
theorem kv_X11_both : Cond.selects RX11 yX11_both yX11_both ∈ lw_tbl := wl_27 _ (List.mem_of_getElem? (i := 21) rfl)
theorem kn_X11_byteAt : KnC yX11_byteAt cX11_byteAt 2 (some .int) := ⟨wl_27 _ (List.mem_of_getElem? (i := 22) rfl), wl_27 _ (List.mem_of_getElem? (i := 23) rfl), by decide +kernel, by decide, by decide +kernel⟩
theorem ki_X11_byteAt : Cond.instanceMethod yX11_byteAt ∈ lw_tbl := wl_28 _ (List.mem_of_getElem? (i := 0) rfl)
theorem kv_X11_byteAt : Cond.selects RX11 yX11_byteAt yX11_byteAt ∈ lw_tbl := wl_28 _ (List.mem_of_getElem? (i := 1) rfl)
theorem kn_X11_cast : KnC yX11_cast cX11_cast 7 (some .boolean) := ⟨wl_28 _ (List.mem_of_getElem? (i := 2) rfl), wl_28 _ (List.mem_of_getElem? (i := 3) rfl), by decide +kernel, by decide, by decide +kernel⟩
theorem ki_X11_cast : Cond.instanceMethod yX11_cast ∈ lw_tbl := wl_28 _ (List.mem_of_getElem? (i := 4) rfl)
theorem kv_X11_cast : Cond.selects RX11 yX11_cast yX11_cast ∈ lw_tbl := wl_28 _ (List.mem_of_getElem? (i := 5) rfl)
theorem kn_X11_cold : KnC yX11_cold cX11_cold 9 (some .int) := ⟨wl_28 _ (List.mem_of_getElem? (i := 6) rfl), wl_28 _ (List.mem_of_getElem? (i := 7) rfl), by decide +kernel, by decide, by decide +kernel⟩
theorem ki_X11_cold : Cond.instanceMethod yX11_cold ∈ lw_tbl := wl_28 _ (List.mem_of_getElem? (i := 8) rfl)
theorem kv_X11_cold : Cond.selects RX11 yX11_cold yX11_cold ∈ lw_tbl := wl_28 _ (List.mem_of_getElem? (i := 9) rfl)
theorem kn_X11_coldItem : KnC yX11_coldItem cX11_coldItem 1 (some .boolean) := ⟨wl_28 _ (List.mem_of_getElem? (i := 10) rfl), wl_28 _ (List.mem_of_getElem? (i := 11) rfl), by decide +kernel, by decide, by decide +kernel⟩
theorem ki_X11_coldItem : Cond.instanceMethod yX11_coldItem ∈ lw_tbl := wl_28 _ (List.mem_of_getElem? (i := 12) rfl)
theorem kv_X11_coldItem : Cond.selects RX11 yX11_coldItem yX11_coldItem ∈ lw_tbl := wl_28 _ (List.mem_of_getElem? (i := 13) rfl)
theorem kn_X11_copy : KnC yX11_copy cX11_copy 4 none := ⟨wl_28 _ (List.mem_of_getElem? (i := 14) rfl), wl_28 _ (List.mem_of_getElem? (i := 15) rfl), by decide +kernel, by decide, by decide +kernel⟩
theorem ki_X11_copy : Cond.instanceMethod yX11_copy ∈ lw_tbl := wl_28 _ (List.mem_of_getElem? (i := 16) rfl)
theorem kv_X11_copy : Cond.selects RX11 yX11_copy yX11_copy ∈ lw_tbl := wl_28 _ (List.mem_of_getElem? (i := 17) rfl)
theorem kn_X11_count : KnC yX11_count cX11_count 2 (some .int) := ⟨wl_28 _ (List.mem_of_getElem? (i := 18) rfl), wl_28 _ (List.mem_of_getElem? (i := 19) rfl), by decide +kernel, by decide, by decide +kernel⟩
theorem ki_X11_count : Cond.instanceMethod yX11_count ∈ lw_tbl := wl_28 _ (List.mem_of_getElem? (i := 20) rfl)
theorem kv_X11_count : Cond.selects RX11 yX11_count yX11_count ∈ lw_tbl := wl_28 _ (List.mem_of_getElem? (i := 21) rfl)
theorem kn_X11_cuts : KnC yX11_cuts cX11_cuts 6 (some .int) := ⟨wl_28 _ (List.mem_of_getElem? (i := 22) rfl), wl_28 _ (List.mem_of_getElem? (i := 23) rfl), by decide +kernel, by decide, by decide +kernel⟩
theorem ki_X11_cuts : Cond.instanceMethod yX11_cuts ∈ lw_tbl := wl_29 _ (List.mem_of_getElem? (i := 0) rfl)
theorem kv_X11_cuts : Cond.selects RX11 yX11_cuts yX11_cuts ∈ lw_tbl := wl_29 _ (List.mem_of_getElem? (i := 1) rfl)
theorem kn_X11_engaged : KnC yX11_engaged cX11_engaged 8 (some .int) := ⟨wl_29 _ (List.mem_of_getElem? (i := 2) rfl), wl_29 _ (List.mem_of_getElem? (i := 3) rfl), by decide +kernel, by decide, by decide +kernel⟩
theorem ki_X11_engaged : Cond.instanceMethod yX11_engaged ∈ lw_tbl := wl_29 _ (List.mem_of_getElem? (i := 4) rfl)
theorem kv_X11_engaged : Cond.selects RX11 yX11_engaged yX11_engaged ∈ lw_tbl := wl_29 _ (List.mem_of_getElem? (i := 5) rfl)
theorem kn_X11_fault : KnC yX11_fault cX11_fault 1 (some .int) := ⟨wl_29 _ (List.mem_of_getElem? (i := 6) rfl), wl_29 _ (List.mem_of_getElem? (i := 7) rfl), by decide +kernel, by decide, by decide +kernel⟩
theorem ki_X11_fault : Cond.instanceMethod yX11_fault ∈ lw_tbl := wl_29 _ (List.mem_of_getElem? (i := 8) rfl)
theorem kv_X11_fault : Cond.selects RX11 yX11_fault yX11_fault ∈ lw_tbl := wl_29 _ (List.mem_of_getElem? (i := 9) rfl)
theorem kn_X11_fewest : KnC yX11_fewest cX11_fewest 5 (some .int) := ⟨wl_29 _ (List.mem_of_getElem? (i := 10) rfl), wl_29 _ (List.mem_of_getElem? (i := 11) rfl), by decide +kernel, by decide, by decide +kernel⟩
theorem ki_X11_fewest : Cond.instanceMethod yX11_fewest ∈ lw_tbl := wl_29 _ (List.mem_of_getElem? (i := 12) rfl)
theorem kv_X11_fewest : Cond.selects RX11 yX11_fewest yX11_fewest ∈ lw_tbl := wl_29 _ (List.mem_of_getElem? (i := 13) rfl)
theorem kn_X11_figures : KnC yX11_figures cX11_figures 5 (some .boolean) := ⟨wl_29 _ (List.mem_of_getElem? (i := 14) rfl), wl_29 _ (List.mem_of_getElem? (i := 15) rfl), by decide +kernel, by decide, by decide +kernel⟩
theorem ki_X11_figures : Cond.instanceMethod yX11_figures ∈ lw_tbl := wl_29 _ (List.mem_of_getElem? (i := 16) rfl)
theorem kv_X11_figures : Cond.selects RX11 yX11_figures yX11_figures ∈ lw_tbl := wl_29 _ (List.mem_of_getElem? (i := 17) rfl)
theorem kn_X11_gainOf : KnC yX11_gainOf cX11_gainOf 4 (some .int) := ⟨wl_29 _ (List.mem_of_getElem? (i := 18) rfl), wl_29 _ (List.mem_of_getElem? (i := 19) rfl), by decide +kernel, by decide, by decide +kernel⟩
theorem ki_X11_gainOf : Cond.instanceMethod yX11_gainOf ∈ lw_tbl := wl_29 _ (List.mem_of_getElem? (i := 20) rfl)
theorem kv_X11_gainOf : Cond.selects RX11 yX11_gainOf yX11_gainOf ∈ lw_tbl := wl_29 _ (List.mem_of_getElem? (i := 21) rfl)
theorem kn_X11_has : KnC yX11_has cX11_has 2 (some .boolean) := ⟨wl_29 _ (List.mem_of_getElem? (i := 22) rfl), wl_29 _ (List.mem_of_getElem? (i := 23) rfl), by decide +kernel, by decide, by decide +kernel⟩
theorem ks_X11_has : Cond.static yX11_has ∈ lw_tbl := wl_30 _ (List.mem_of_getElem? (i := 0) rfl)
theorem kn_X11_hoursOf : KnC yX11_hoursOf cX11_hoursOf 2 (some .int) := ⟨wl_30 _ (List.mem_of_getElem? (i := 1) rfl), wl_30 _ (List.mem_of_getElem? (i := 2) rfl), by decide +kernel, by decide, by decide +kernel⟩
theorem ki_X11_hoursOf : Cond.instanceMethod yX11_hoursOf ∈ lw_tbl := wl_30 _ (List.mem_of_getElem? (i := 3) rfl)
theorem kv_X11_hoursOf : Cond.selects RX11 yX11_hoursOf yX11_hoursOf ∈ lw_tbl := wl_30 _ (List.mem_of_getElem? (i := 4) rfl)
theorem kn_X11_in : KnC yX11_in cX11_in 6 (some .boolean) := ⟨wl_30 _ (List.mem_of_getElem? (i := 5) rfl), wl_30 _ (List.mem_of_getElem? (i := 6) rfl), by decide +kernel, by decide, by decide +kernel⟩
theorem ks_X11_in : Cond.static yX11_in ∈ lw_tbl := wl_30 _ (List.mem_of_getElem? (i := 7) rfl)
theorem kn_X11_init : KnC yX11_init cX11_init 1 none := ⟨wl_30 _ (List.mem_of_getElem? (i := 8) rfl), wl_30 _ (List.mem_of_getElem? (i := 9) rfl), by decide +kernel, by decide, by decide +kernel⟩
theorem ki_X11_init : Cond.instanceMethod yX11_init ∈ lw_tbl := wl_30 _ (List.mem_of_getElem? (i := 10) rfl)
theorem kn_X11_isCover : KnC yX11_isCover cX11_isCover 3 (some .boolean) := ⟨wl_30 _ (List.mem_of_getElem? (i := 11) rfl), wl_30 _ (List.mem_of_getElem? (i := 12) rfl), by decide +kernel, by decide, by decide +kernel⟩
theorem ki_X11_isCover : Cond.instanceMethod yX11_isCover ∈ lw_tbl := wl_30 _ (List.mem_of_getElem? (i := 13) rfl)
theorem kv_X11_isCover : Cond.selects RX11 yX11_isCover yX11_isCover ∈ lw_tbl := wl_30 _ (List.mem_of_getElem? (i := 14) rfl)
theorem kn_X11_isCut : KnC yX11_isCut cX11_isCut 2 (some .boolean) := ⟨wl_30 _ (List.mem_of_getElem? (i := 15) rfl), wl_30 _ (List.mem_of_getElem? (i := 16) rfl), by decide +kernel, by decide, by decide +kernel⟩
theorem ki_X11_isCut : Cond.instanceMethod yX11_isCut ∈ lw_tbl := wl_30 _ (List.mem_of_getElem? (i := 17) rfl)
theorem kv_X11_isCut : Cond.selects RX11 yX11_isCut yX11_isCut ∈ lw_tbl := wl_30 _ (List.mem_of_getElem? (i := 18) rfl)
theorem kn_X11_isOff : KnC yX11_isOff cX11_isOff 2 (some .boolean) := ⟨wl_30 _ (List.mem_of_getElem? (i := 19) rfl), wl_30 _ (List.mem_of_getElem? (i := 20) rfl), by decide +kernel, by decide, by decide +kernel⟩
theorem ki_X11_isOff : Cond.instanceMethod yX11_isOff ∈ lw_tbl := wl_30 _ (List.mem_of_getElem? (i := 21) rfl)
theorem kv_X11_isOff : Cond.selects RX11 yX11_isOff yX11_isOff ∈ lw_tbl := wl_30 _ (List.mem_of_getElem? (i := 22) rfl)
theorem kn_X11_isPair : KnC yX11_isPair cX11_isPair 1 (some .boolean) := ⟨wl_30 _ (List.mem_of_getElem? (i := 23) rfl), wl_31 _ (List.mem_of_getElem? (i := 0) rfl), by decide +kernel, by decide, by decide +kernel⟩
theorem ki_X11_isPair : Cond.instanceMethod yX11_isPair ∈ lw_tbl := wl_31 _ (List.mem_of_getElem? (i := 1) rfl)
theorem kv_X11_isPair : Cond.selects RX11 yX11_isPair yX11_isPair ∈ lw_tbl := wl_31 _ (List.mem_of_getElem? (i := 2) rfl)
theorem kn_X11_isPart : KnC yX11_isPart cX11_isPart 2 (some .boolean) := ⟨wl_31 _ (List.mem_of_getElem? (i := 3) rfl), wl_31 _ (List.mem_of_getElem? (i := 4) rfl), by decide +kernel, by decide, by decide +kernel⟩
theorem ki_X11_isPart : Cond.instanceMethod yX11_isPart ∈ lw_tbl := wl_31 _ (List.mem_of_getElem? (i := 5) rfl)
theorem kv_X11_isPart : Cond.selects RX11 yX11_isPart yX11_isPart ∈ lw_tbl := wl_31 _ (List.mem_of_getElem? (i := 6) rfl)
theorem kn_X11_isPlayer : KnC yX11_isPlayer cX11_isPlayer 2 (some .boolean) := ⟨wl_31 _ (List.mem_of_getElem? (i := 7) rfl), wl_31 _ (List.mem_of_getElem? (i := 8) rfl), by decide +kernel, by decide, by decide +kernel⟩
theorem ki_X11_isPlayer : Cond.instanceMethod yX11_isPlayer ∈ lw_tbl := wl_31 _ (List.mem_of_getElem? (i := 9) rfl)
theorem kv_X11_isPlayer : Cond.selects RX11 yX11_isPlayer yX11_isPlayer ∈ lw_tbl := wl_31 _ (List.mem_of_getElem? (i := 10) rfl)
theorem kn_X11_isTaken : KnC yX11_isTaken cX11_isTaken 6 (some .boolean) := ⟨wl_31 _ (List.mem_of_getElem? (i := 11) rfl), wl_31 _ (List.mem_of_getElem? (i := 12) rfl), by decide +kernel, by decide, by decide +kernel⟩
theorem ki_X11_isTaken : Cond.instanceMethod yX11_isTaken ∈ lw_tbl := wl_31 _ (List.mem_of_getElem? (i := 13) rfl)
theorem kv_X11_isTaken : Cond.selects RX11 yX11_isTaken yX11_isTaken ∈ lw_tbl := wl_31 _ (List.mem_of_getElem? (i := 14) rfl)
theorem kn_X11_item : KnC yX11_item cX11_item 2 (some .boolean) := ⟨wl_31 _ (List.mem_of_getElem? (i := 15) rfl), wl_31 _ (List.mem_of_getElem? (i := 16) rfl), by decide +kernel, by decide, by decide +kernel⟩
theorem ki_X11_item : Cond.instanceMethod yX11_item ∈ lw_tbl := wl_31 _ (List.mem_of_getElem? (i := 17) rfl)
theorem kv_X11_item : Cond.selects RX11 yX11_item yX11_item ∈ lw_tbl := wl_31 _ (List.mem_of_getElem? (i := 18) rfl)
theorem kn_X11_keep : KnC yX11_keep cX11_keep 1 (some .int) := ⟨wl_31 _ (List.mem_of_getElem? (i := 19) rfl), wl_31 _ (List.mem_of_getElem? (i := 20) rfl), by decide +kernel, by decide, by decide +kernel⟩
theorem ki_X11_keep : Cond.instanceMethod yX11_keep ∈ lw_tbl := wl_31 _ (List.mem_of_getElem? (i := 21) rfl)
theorem kv_X11_keep : Cond.selects RX11 yX11_keep yX11_keep ∈ lw_tbl := wl_31 _ (List.mem_of_getElem? (i := 22) rfl)
theorem kn_X11_kept : KnC yX11_kept cX11_kept 4 (some .int) := ⟨wl_31 _ (List.mem_of_getElem? (i := 23) rfl), wl_32 _ (List.mem_of_getElem? (i := 0) rfl), by decide +kernel, by decide, by decide +kernel⟩
theorem ki_X11_kept : Cond.instanceMethod yX11_kept ∈ lw_tbl := wl_32 _ (List.mem_of_getElem? (i := 1) rfl)
theorem kv_X11_kept : Cond.selects RX11 yX11_kept yX11_kept ∈ lw_tbl := wl_32 _ (List.mem_of_getElem? (i := 2) rfl)
theorem kn_X11_lay : KnC yX11_lay cX11_lay 2 (some .int) := ⟨wl_32 _ (List.mem_of_getElem? (i := 3) rfl), wl_32 _ (List.mem_of_getElem? (i := 4) rfl), by decide +kernel, by decide, by decide +kernel⟩
theorem ki_X11_lay : Cond.instanceMethod yX11_lay ∈ lw_tbl := wl_32 _ (List.mem_of_getElem? (i := 5) rfl)
theorem kv_X11_lay : Cond.selects RX11 yX11_lay yX11_lay ∈ lw_tbl := wl_32 _ (List.mem_of_getElem? (i := 6) rfl)
theorem kn_X11_layCold : KnC yX11_layCold cX11_layCold 6 none := ⟨wl_32 _ (List.mem_of_getElem? (i := 7) rfl), wl_32 _ (List.mem_of_getElem? (i := 8) rfl), by decide +kernel, by decide, by decide +kernel⟩
theorem ki_X11_layCold : Cond.instanceMethod yX11_layCold ∈ lw_tbl := wl_32 _ (List.mem_of_getElem? (i := 9) rfl)
theorem kv_X11_layCold : Cond.selects RX11 yX11_layCold yX11_layCold ∈ lw_tbl := wl_32 _ (List.mem_of_getElem? (i := 10) rfl)
theorem kn_X11_layMays : KnC yX11_layMays cX11_layMays 3 none := ⟨wl_32 _ (List.mem_of_getElem? (i := 11) rfl), wl_32 _ (List.mem_of_getElem? (i := 12) rfl), by decide +kernel, by decide, by decide +kernel⟩
theorem ki_X11_layMays : Cond.instanceMethod yX11_layMays ∈ lw_tbl := wl_32 _ (List.mem_of_getElem? (i := 13) rfl)
theorem kv_X11_layMays : Cond.selects RX11 yX11_layMays yX11_layMays ∈ lw_tbl := wl_32 _ (List.mem_of_getElem? (i := 14) rfl)
theorem kn_X11_layPairs : KnC yX11_layPairs cX11_layPairs 3 none := ⟨wl_32 _ (List.mem_of_getElem? (i := 15) rfl), wl_32 _ (List.mem_of_getElem? (i := 16) rfl), by decide +kernel, by decide, by decide +kernel⟩
theorem ki_X11_layPairs : Cond.instanceMethod yX11_layPairs ∈ lw_tbl := wl_32 _ (List.mem_of_getElem? (i := 17) rfl)
theorem kv_X11_layPairs : Cond.selects RX11 yX11_layPairs yX11_layPairs ∈ lw_tbl := wl_32 _ (List.mem_of_getElem? (i := 18) rfl)
theorem kn_X11_layRehearsals : KnC yX11_layRehearsals cX11_layRehearsals 6 none := ⟨wl_32 _ (List.mem_of_getElem? (i := 19) rfl), wl_32 _ (List.mem_of_getElem? (i := 20) rfl), by decide +kernel, by decide, by decide +kernel⟩
theorem ki_X11_layRehearsals : Cond.instanceMethod yX11_layRehearsals ∈ lw_tbl := wl_32 _ (List.mem_of_getElem? (i := 21) rfl)
theorem kv_X11_layRehearsals : Cond.selects RX11 yX11_layRehearsals yX11_layRehearsals ∈ lw_tbl := wl_32 _ (List.mem_of_getElem? (i := 22) rfl)
theorem kn_X11_layRules : KnC yX11_layRules cX11_layRules 3 none := ⟨wl_32 _ (List.mem_of_getElem? (i := 23) rfl), wl_33 _ (List.mem_of_getElem? (i := 0) rfl), by decide +kernel, by decide, by decide +kernel⟩
theorem ki_X11_layRules : Cond.instanceMethod yX11_layRules ∈ lw_tbl := wl_33 _ (List.mem_of_getElem? (i := 1) rfl)
theorem kv_X11_layRules : Cond.selects RX11 yX11_layRules yX11_layRules ∈ lw_tbl := wl_33 _ (List.mem_of_getElem? (i := 2) rfl)
theorem kn_X11_least : KnC yX11_least cX11_least 7 (some .int) := ⟨wl_33 _ (List.mem_of_getElem? (i := 3) rfl), wl_33 _ (List.mem_of_getElem? (i := 4) rfl), by decide +kernel, by decide, by decide +kernel⟩
theorem ki_X11_least : Cond.instanceMethod yX11_least ∈ lw_tbl := wl_33 _ (List.mem_of_getElem? (i := 5) rfl)
theorem kv_X11_least : Cond.selects RX11 yX11_least yX11_least ∈ lw_tbl := wl_33 _ (List.mem_of_getElem? (i := 6) rfl)
theorem kn_X11_lines : KnC yX11_lines cX11_lines 3 (some .int) := ⟨wl_33 _ (List.mem_of_getElem? (i := 7) rfl), wl_33 _ (List.mem_of_getElem? (i := 8) rfl), by decide +kernel, by decide, by decide +kernel⟩
theorem ki_X11_lines : Cond.instanceMethod yX11_lines ∈ lw_tbl := wl_33 _ (List.mem_of_getElem? (i := 9) rfl)
theorem kv_X11_lines : Cond.selects RX11 yX11_lines yX11_lines ∈ lw_tbl := wl_33 _ (List.mem_of_getElem? (i := 10) rfl)
theorem kn_X11_linesIn : KnC yX11_linesIn cX11_linesIn 4 (some .int) := ⟨wl_33 _ (List.mem_of_getElem? (i := 11) rfl), wl_33 _ (List.mem_of_getElem? (i := 12) rfl), by decide +kernel, by decide, by decide +kernel⟩
theorem ki_X11_linesIn : Cond.instanceMethod yX11_linesIn ∈ lw_tbl := wl_33 _ (List.mem_of_getElem? (i := 13) rfl)
theorem kv_X11_linesIn : Cond.selects RX11 yX11_linesIn yX11_linesIn ∈ lw_tbl := wl_33 _ (List.mem_of_getElem? (i := 14) rfl)
theorem kn_X11_mayPlay : KnC yX11_mayPlay cX11_mayPlay 3 (some .boolean) := ⟨wl_33 _ (List.mem_of_getElem? (i := 15) rfl), wl_33 _ (List.mem_of_getElem? (i := 16) rfl), by decide +kernel, by decide, by decide +kernel⟩
theorem ki_X11_mayPlay : Cond.instanceMethod yX11_mayPlay ∈ lw_tbl := wl_33 _ (List.mem_of_getElem? (i := 17) rfl)
theorem kv_X11_mayPlay : Cond.selects RX11 yX11_mayPlay yX11_mayPlay ∈ lw_tbl := wl_33 _ (List.mem_of_getElem? (i := 18) rfl)
theorem kn_X11_nextFor : KnC yX11_nextFor cX11_nextFor 5 (some .int) := ⟨wl_33 _ (List.mem_of_getElem? (i := 19) rfl), wl_33 _ (List.mem_of_getElem? (i := 20) rfl), by decide +kernel, by decide, by decide +kernel⟩
theorem ki_X11_nextFor : Cond.instanceMethod yX11_nextFor ∈ lw_tbl := wl_33 _ (List.mem_of_getElem? (i := 21) rfl)
theorem kv_X11_nextFor : Cond.selects RX11 yX11_nextFor yX11_nextFor ∈ lw_tbl := wl_33 _ (List.mem_of_getElem? (i := 22) rfl)
theorem kn_X11_night : KnC yX11_night cX11_night 2 (some .int) := ⟨wl_33 _ (List.mem_of_getElem? (i := 23) rfl), wl_34 _ (List.mem_of_getElem? (i := 0) rfl), by decide +kernel, by decide, by decide +kernel⟩
theorem ki_X11_night : Cond.instanceMethod yX11_night ∈ lw_tbl := wl_34 _ (List.mem_of_getElem? (i := 1) rfl)
theorem kv_X11_night : Cond.selects RX11 yX11_night yX11_night ∈ lw_tbl := wl_34 _ (List.mem_of_getElem? (i := 2) rfl)
theorem kn_X11_noCompany : KnC yX11_noCompany cX11_noCompany 3 none := ⟨wl_34 _ (List.mem_of_getElem? (i := 3) rfl), wl_34 _ (List.mem_of_getElem? (i := 4) rfl), by decide +kernel, by decide, by decide +kernel⟩
theorem ki_X11_noCompany : Cond.instanceMethod yX11_noCompany ∈ lw_tbl := wl_34 _ (List.mem_of_getElem? (i := 5) rfl)
theorem kv_X11_noCompany : Cond.selects RX11 yX11_noCompany yX11_noCompany ∈ lw_tbl := wl_34 _ (List.mem_of_getElem? (i := 6) rfl)
theorem kn_X11_noneWeak : KnC yX11_noneWeak cX11_noneWeak 3 (some .boolean) := ⟨wl_34 _ (List.mem_of_getElem? (i := 7) rfl), wl_34 _ (List.mem_of_getElem? (i := 8) rfl), by decide +kernel, by decide, by decide +kernel⟩
theorem ki_X11_noneWeak : Cond.instanceMethod yX11_noneWeak ∈ lw_tbl := wl_34 _ (List.mem_of_getElem? (i := 9) rfl)
theorem kv_X11_noneWeak : Cond.selects RX11 yX11_noneWeak yX11_noneWeak ∈ lw_tbl := wl_34 _ (List.mem_of_getElem? (i := 10) rfl)
theorem kn_X11_numberItem : KnC yX11_numberItem cX11_numberItem 3 (some .boolean) := ⟨wl_34 _ (List.mem_of_getElem? (i := 11) rfl), wl_34 _ (List.mem_of_getElem? (i := 12) rfl), by decide +kernel, by decide, by decide +kernel⟩
theorem ki_X11_numberItem : Cond.instanceMethod yX11_numberItem ∈ lw_tbl := wl_34 _ (List.mem_of_getElem? (i := 13) rfl)
theorem kv_X11_numberItem : Cond.selects RX11 yX11_numberItem yX11_numberItem ∈ lw_tbl := wl_34 _ (List.mem_of_getElem? (i := 14) rfl)
theorem kn_X11_owed : KnC yX11_owed cX11_owed 2 (some .int) := ⟨wl_34 _ (List.mem_of_getElem? (i := 15) rfl), wl_34 _ (List.mem_of_getElem? (i := 16) rfl), by decide +kernel, by decide, by decide +kernel⟩
theorem ki_X11_owed : Cond.instanceMethod yX11_owed ∈ lw_tbl := wl_34 _ (List.mem_of_getElem? (i := 17) rfl)
theorem kv_X11_owed : Cond.selects RX11 yX11_owed yX11_owed ∈ lw_tbl := wl_34 _ (List.mem_of_getElem? (i := 18) rfl)
theorem kn_X11_part : KnC yX11_part cX11_part 5 (some .int) := ⟨wl_34 _ (List.mem_of_getElem? (i := 19) rfl), wl_34 _ (List.mem_of_getElem? (i := 20) rfl), by decide +kernel, by decide, by decide +kernel⟩
theorem ki_X11_part : Cond.instanceMethod yX11_part ∈ lw_tbl := wl_34 _ (List.mem_of_getElem? (i := 21) rfl)
theorem kv_X11_part : Cond.selects RX11 yX11_part yX11_part ∈ lw_tbl := wl_34 _ (List.mem_of_getElem? (i := 22) rfl)
theorem kn_X11_partItem : KnC yX11_partItem cX11_partItem 2 (some .boolean) := ⟨wl_34 _ (List.mem_of_getElem? (i := 23) rfl), wl_35 _ (List.mem_of_getElem? (i := 0) rfl), by decide +kernel, by decide, by decide +kernel⟩
theorem ki_X11_partItem : Cond.instanceMethod yX11_partItem ∈ lw_tbl := wl_35 _ (List.mem_of_getElem? (i := 1) rfl)
theorem kv_X11_partItem : Cond.selects RX11 yX11_partItem yX11_partItem ∈ lw_tbl := wl_35 _ (List.mem_of_getElem? (i := 2) rfl)
theorem kn_X11_partState : KnC yX11_partState cX11_partState 8 none := ⟨wl_35 _ (List.mem_of_getElem? (i := 3) rfl), wl_35 _ (List.mem_of_getElem? (i := 4) rfl), by decide +kernel, by decide, by decide +kernel⟩
theorem ki_X11_partState : Cond.instanceMethod yX11_partState ∈ lw_tbl := wl_35 _ (List.mem_of_getElem? (i := 5) rfl)
theorem kv_X11_partState : Cond.selects RX11 yX11_partState yX11_partState ∈ lw_tbl := wl_35 _ (List.mem_of_getElem? (i := 6) rfl)
theorem kn_X11_pileTrouble : KnC yX11_pileTrouble cX11_pileTrouble 4 (some .int) := ⟨wl_35 _ (List.mem_of_getElem? (i := 7) rfl), wl_35 _ (List.mem_of_getElem? (i := 8) rfl), by decide +kernel, by decide, by decide +kernel⟩
theorem ki_X11_pileTrouble : Cond.instanceMethod yX11_pileTrouble ∈ lw_tbl := wl_35 _ (List.mem_of_getElem? (i := 9) rfl)
theorem kv_X11_pileTrouble : Cond.selects RX11 yX11_pileTrouble yX11_pileTrouble ∈ lw_tbl := wl_35 _ (List.mem_of_getElem? (i := 10) rfl)
theorem kn_X11_play : KnC yX11_play cX11_play 6 (some .int) := ⟨wl_35 _ (List.mem_of_getElem? (i := 11) rfl), wl_35 _ (List.mem_of_getElem? (i := 12) rfl), by decide +kernel, by decide, by decide +kernel⟩
theorem ki_X11_play : Cond.instanceMethod yX11_play ∈ lw_tbl := wl_35 _ (List.mem_of_getElem? (i := 13) rfl)
theorem kv_X11_play : Cond.selects RX11 yX11_play yX11_play ∈ lw_tbl := wl_35 _ (List.mem_of_getElem? (i := 14) rfl)
theorem kn_X11_player : KnC yX11_player cX11_player 5 (some .int) := ⟨wl_35 _ (List.mem_of_getElem? (i := 15) rfl), wl_35 _ (List.mem_of_getElem? (i := 16) rfl), by decide +kernel, by decide, by decide +kernel⟩
theorem ki_X11_player : Cond.instanceMethod yX11_player ∈ lw_tbl := wl_35 _ (List.mem_of_getElem? (i := 17) rfl)
theorem kv_X11_player : Cond.selects RX11 yX11_player yX11_player ∈ lw_tbl := wl_35 _ (List.mem_of_getElem? (i := 18) rfl)
theorem kn_X11_playerItem : KnC yX11_playerItem cX11_playerItem 2 (some .boolean) := ⟨wl_35 _ (List.mem_of_getElem? (i := 19) rfl), wl_35 _ (List.mem_of_getElem? (i := 20) rfl), by decide +kernel, by decide, by decide +kernel⟩
theorem ki_X11_playerItem : Cond.instanceMethod yX11_playerItem ∈ lw_tbl := wl_35 _ (List.mem_of_getElem? (i := 21) rfl)
theorem kv_X11_playerItem : Cond.selects RX11 yX11_playerItem yX11_playerItem ∈ lw_tbl := wl_35 _ (List.mem_of_getElem? (i := 22) rfl)
theorem kn_X11_readAll : KnC yX11_readAll cX11_readAll 2 (some .int) := ⟨wl_35 _ (List.mem_of_getElem? (i := 23) rfl), wl_36 _ (List.mem_of_getElem? (i := 0) rfl), by decide +kernel, by decide, by decide +kernel⟩
theorem ki_X11_readAll : Cond.instanceMethod yX11_readAll ∈ lw_tbl := wl_36 _ (List.mem_of_getElem? (i := 1) rfl)
theorem kv_X11_readAll : Cond.selects RX11 yX11_readAll yX11_readAll ∈ lw_tbl := wl_36 _ (List.mem_of_getElem? (i := 2) rfl)
theorem kn_X11_rehearsals : KnC yX11_rehearsals cX11_rehearsals 6 (some .int) := ⟨wl_36 _ (List.mem_of_getElem? (i := 3) rfl), wl_36 _ (List.mem_of_getElem? (i := 4) rfl), by decide +kernel, by decide, by decide +kernel⟩
theorem ki_X11_rehearsals : Cond.instanceMethod yX11_rehearsals ∈ lw_tbl := wl_36 _ (List.mem_of_getElem? (i := 5) rfl)
theorem kv_X11_rehearsals : Cond.selects RX11 yX11_rehearsals yX11_rehearsals ∈ lw_tbl := wl_36 _ (List.mem_of_getElem? (i := 6) rfl)
theorem kn_X11_rehearse : KnC yX11_rehearse cX11_rehearse 3 (some .int) := ⟨wl_36 _ (List.mem_of_getElem? (i := 7) rfl), wl_36 _ (List.mem_of_getElem? (i := 8) rfl), by decide +kernel, by decide, by decide +kernel⟩
theorem ki_X11_rehearse : Cond.instanceMethod yX11_rehearse ∈ lw_tbl := wl_36 _ (List.mem_of_getElem? (i := 9) rfl)
theorem kv_X11_rehearse : Cond.selects RX11 yX11_rehearse yX11_rehearse ∈ lw_tbl := wl_36 _ (List.mem_of_getElem? (i := 10) rfl)
theorem kn_X11_rest : KnC yX11_rest cX11_rest 2 (some .int) := ⟨wl_36 _ (List.mem_of_getElem? (i := 11) rfl), wl_36 _ (List.mem_of_getElem? (i := 12) rfl), by decide +kernel, by decide, by decide +kernel⟩
theorem ki_X11_rest : Cond.instanceMethod yX11_rest ∈ lw_tbl := wl_36 _ (List.mem_of_getElem? (i := 13) rfl)
theorem kv_X11_rest : Cond.selects RX11 yX11_rest yX11_rest ∈ lw_tbl := wl_36 _ (List.mem_of_getElem? (i := 14) rfl)
theorem kn_X11_run : KnC yX11_run cX11_run 7 (some .int) := ⟨wl_36 _ (List.mem_of_getElem? (i := 15) rfl), wl_36 _ (List.mem_of_getElem? (i := 16) rfl), by decide +kernel, by decide, by decide +kernel⟩
theorem ki_X11_run : Cond.instanceMethod yX11_run ∈ lw_tbl := wl_36 _ (List.mem_of_getElem? (i := 17) rfl)
theorem kv_X11_run : Cond.selects RX11 yX11_run yX11_run ∈ lw_tbl := wl_36 _ (List.mem_of_getElem? (i := 18) rfl)
theorem kn_X11_sceneItem : KnC yX11_sceneItem cX11_sceneItem 2 (some .boolean) := ⟨wl_36 _ (List.mem_of_getElem? (i := 19) rfl), wl_36 _ (List.mem_of_getElem? (i := 20) rfl), by decide +kernel, by decide, by decide +kernel⟩
theorem ki_X11_sceneItem : Cond.instanceMethod yX11_sceneItem ∈ lw_tbl := wl_36 _ (List.mem_of_getElem? (i := 21) rfl)
theorem kv_X11_sceneItem : Cond.selects RX11 yX11_sceneItem yX11_sceneItem ∈ lw_tbl := wl_36 _ (List.mem_of_getElem? (i := 22) rfl)
theorem kn_X11_setCover : KnC yX11_setCover cX11_setCover 4 none := ⟨wl_36 _ (List.mem_of_getElem? (i := 23) rfl), wl_37 _ (List.mem_of_getElem? (i := 0) rfl), by decide +kernel, by decide, by decide +kernel⟩
theorem ki_X11_setCover : Cond.instanceMethod yX11_setCover ∈ lw_tbl := wl_37 _ (List.mem_of_getElem? (i := 1) rfl)
theorem kv_X11_setCover : Cond.selects RX11 yX11_setCover yX11_setCover ∈ lw_tbl := wl_37 _ (List.mem_of_getElem? (i := 2) rfl)
theorem kn_X11_stepBack : KnC yX11_stepBack cX11_stepBack 3 (some .int) := ⟨wl_37 _ (List.mem_of_getElem? (i := 3) rfl), wl_37 _ (List.mem_of_getElem? (i := 4) rfl), by decide +kernel, by decide, by decide +kernel⟩
theorem ks_X11_stepBack : Cond.static yX11_stepBack ∈ lw_tbl := wl_37 _ (List.mem_of_getElem? (i := 5) rfl)
theorem kn_X11_told : KnC yX11_told cX11_told 4 (some .int) := ⟨wl_37 _ (List.mem_of_getElem? (i := 6) rfl), wl_37 _ (List.mem_of_getElem? (i := 7) rfl), by decide +kernel, by decide, by decide +kernel⟩
theorem ki_X11_told : Cond.instanceMethod yX11_told ∈ lw_tbl := wl_37 _ (List.mem_of_getElem? (i := 8) rfl)
theorem kv_X11_told : Cond.selects RX11 yX11_told yX11_told ∈ lw_tbl := wl_37 _ (List.mem_of_getElem? (i := 9) rfl)
theorem kn_X11_trouble : KnC yX11_trouble cX11_trouble 5 (some .int) := ⟨wl_37 _ (List.mem_of_getElem? (i := 10) rfl), wl_37 _ (List.mem_of_getElem? (i := 11) rfl), by decide +kernel, by decide, by decide +kernel⟩
theorem ki_X11_trouble : Cond.instanceMethod yX11_trouble ∈ lw_tbl := wl_37 _ (List.mem_of_getElem? (i := 12) rfl)
theorem kv_X11_trouble : Cond.selects RX11 yX11_trouble yX11_trouble ∈ lw_tbl := wl_37 _ (List.mem_of_getElem? (i := 13) rfl)
theorem kn_X11_ways : KnC yX11_ways cX11_ways 3 (some .long) := ⟨wl_37 _ (List.mem_of_getElem? (i := 14) rfl), wl_37 _ (List.mem_of_getElem? (i := 15) rfl), by decide +kernel, by decide, by decide +kernel⟩
theorem ki_X11_ways : Cond.instanceMethod yX11_ways ∈ lw_tbl := wl_37 _ (List.mem_of_getElem? (i := 16) rfl)
theorem kv_X11_ways : Cond.selects RX11 yX11_ways yX11_ways ∈ lw_tbl := wl_37 _ (List.mem_of_getElem? (i := 17) rfl)
theorem kn_X11_weak : KnC yX11_weak cX11_weak 4 (some .int) := ⟨wl_37 _ (List.mem_of_getElem? (i := 18) rfl), wl_37 _ (List.mem_of_getElem? (i := 19) rfl), by decide +kernel, by decide, by decide +kernel⟩
theorem ki_X11_weak : Cond.instanceMethod yX11_weak ∈ lw_tbl := wl_37 _ (List.mem_of_getElem? (i := 20) rfl)
theorem kv_X11_weak : Cond.selects RX11 yX11_weak yX11_weak ∈ lw_tbl := wl_37 _ (List.mem_of_getElem? (i := 21) rfl)
theorem kn_X11_weakOf : KnC yX11_weakOf cX11_weakOf 4 (some .int) := ⟨wl_37 _ (List.mem_of_getElem? (i := 22) rfl), wl_37 _ (List.mem_of_getElem? (i := 23) rfl), by decide +kernel, by decide, by decide +kernel⟩
theorem ki_X11_weakOf : Cond.instanceMethod yX11_weakOf ∈ lw_tbl := wl_38 _ (List.mem_of_getElem? (i := 0) rfl)
theorem kv_X11_weakOf : Cond.selects RX11 yX11_weakOf yX11_weakOf ∈ lw_tbl := wl_38 _ (List.mem_of_getElem? (i := 1) rfl)
theorem kn_X11_wellOf : KnC yX11_wellOf cX11_wellOf 6 (some .long) := ⟨wl_38 _ (List.mem_of_getElem? (i := 2) rfl), wl_38 _ (List.mem_of_getElem? (i := 3) rfl), by decide +kernel, by decide, by decide +kernel⟩
theorem ki_X11_wellOf : Cond.instanceMethod yX11_wellOf ∈ lw_tbl := wl_38 _ (List.mem_of_getElem? (i := 4) rfl)
theorem kv_X11_wellOf : Cond.selects RX11 yX11_wellOf yX11_wellOf ∈ lw_tbl := wl_38 _ (List.mem_of_getElem? (i := 5) rfl)
theorem kn_X11_wipe : KnC yX11_wipe cX11_wipe 2 (some .int) := ⟨wl_38 _ (List.mem_of_getElem? (i := 6) rfl), wl_38 _ (List.mem_of_getElem? (i := 7) rfl), by decide +kernel, by decide, by decide +kernel⟩
theorem ki_X11_wipe : Cond.instanceMethod yX11_wipe ∈ lw_tbl := wl_38 _ (List.mem_of_getElem? (i := 8) rfl)
theorem kv_X11_wipe : Cond.selects RX11 yX11_wipe yX11_wipe ∈ lw_tbl := wl_38 _ (List.mem_of_getElem? (i := 9) rfl)
theorem kn_X11_write : KnC yX11_write cX11_write 5 (some .int) := ⟨wl_38 _ (List.mem_of_getElem? (i := 10) rfl), wl_38 _ (List.mem_of_getElem? (i := 11) rfl), by decide +kernel, by decide, by decide +kernel⟩
theorem ki_X11_write : Cond.instanceMethod yX11_write ∈ lw_tbl := wl_38 _ (List.mem_of_getElem? (i := 12) rfl)
theorem kv_X11_write : Cond.selects RX11 yX11_write yX11_write ∈ lw_tbl := wl_38 _ (List.mem_of_getElem? (i := 13) rfl)
theorem kn_X11_wrong : KnC yX11_wrong cX11_wrong 2 (some .int) := ⟨wl_38 _ (List.mem_of_getElem? (i := 14) rfl), wl_38 _ (List.mem_of_getElem? (i := 15) rfl), by decide +kernel, by decide, by decide +kernel⟩
theorem ki_X11_wrong : Cond.instanceMethod yX11_wrong ∈ lw_tbl := wl_38 _ (List.mem_of_getElem? (i := 16) rfl)
theorem kv_X11_wrong : Cond.selects RX11 yX11_wrong yX11_wrong ∈ lw_tbl := wl_38 _ (List.mem_of_getElem? (i := 17) rfl)
theorem ml_L_9 : Cond.methodLink RL 9 yX10_init ∈ lw_tbl := wl_38 _ (List.mem_of_getElem? (i := 18) rfl)
theorem ml_X10_15 : Cond.methodLinkNest RX10 15 yX6_init "OnByThursday" ∈ lw_tbl := wl_38 _ (List.mem_of_getElem? (i := 19) rfl)
theorem ml_X10_22 : Cond.methodLinkNest RX10 22 yX3_init "OnByThursday" ∈ lw_tbl := wl_38 _ (List.mem_of_getElem? (i := 20) rfl)
theorem ml_X3_35 : Cond.methodLinkNest RX3 35 yX5_init "OnByThursday" ∈ lw_tbl := wl_38 _ (List.mem_of_getElem? (i := 21) rfl)
theorem ml_X10_32 : Cond.methodLinkNest RX10 32 yX4_init "OnByThursday" ∈ lw_tbl := wl_38 _ (List.mem_of_getElem? (i := 22) rfl)
theorem ml_X10_49 : Cond.methodLinkNest RX10 49 yX2_init "OnByThursday" ∈ lw_tbl := wl_38 _ (List.mem_of_getElem? (i := 23) rfl)
theorem ml_X10_56 : Cond.methodLinkNest RX10 56 yX0_init "OnByThursday" ∈ lw_tbl := wl_39 _ (List.mem_of_getElem? (i := 0) rfl)
theorem ml_X0_17 : Cond.methodLinkNest RX0 17 yX1_init "OnByThursday" ∈ lw_tbl := wl_39 _ (List.mem_of_getElem? (i := 1) rfl)
theorem ml_X10_63 : Cond.methodLinkNest RX10 63 yX9_init "OnByThursday" ∈ lw_tbl := wl_39 _ (List.mem_of_getElem? (i := 2) rfl)
theorem ml_X9_11 : Cond.methodLinkNest RX9 11 yX1_init "OnByThursday" ∈ lw_tbl := wl_39 _ (List.mem_of_getElem? (i := 3) rfl)
theorem ml_X10_70 : Cond.methodLinkNest RX10 70 yX7_init "OnByThursday" ∈ lw_tbl := wl_39 _ (List.mem_of_getElem? (i := 4) rfl)
theorem ml_X10_77 : Cond.methodLinkNest RX10 77 yX8_init "OnByThursday" ∈ lw_tbl := wl_39 _ (List.mem_of_getElem? (i := 5) rfl)
theorem ml_X10_82 : Cond.methodLink RX10 82 yX3_clear ∈ lw_tbl := wl_39 _ (List.mem_of_getElem? (i := 6) rfl)
theorem ml_X3_62 : Cond.methodLink RX3 62 yJ7_fill_53178 ∈ lw_tbl := wl_39 _ (List.mem_of_getElem? (i := 7) rfl)
theorem ml_X3_68 : Cond.methodLink RX3 68 yX5_clear ∈ lw_tbl := wl_39 _ (List.mem_of_getElem? (i := 8) rfl)
theorem ml_X10_85 : Cond.methodLink RX10 85 yX3_addPlayer ∈ lw_tbl := wl_39 _ (List.mem_of_getElem? (i := 9) rfl)
theorem ml_X10_89 : Cond.methodLink RX10 89 yX3_addPart ∈ lw_tbl := wl_39 _ (List.mem_of_getElem? (i := 10) rfl)
theorem ml_X10_93 : Cond.methodLink RX10 93 yX3_giveOwn ∈ lw_tbl := wl_39 _ (List.mem_of_getElem? (i := 11) rfl)
theorem ml_X3_127 : Cond.methodLink RX3 127 yX3_hasPlayer ∈ lw_tbl := wl_39 _ (List.mem_of_getElem? (i := 12) rfl)
theorem ml_X3_130 : Cond.methodLink RX3 130 yX3_hasPart ∈ lw_tbl := wl_39 _ (List.mem_of_getElem? (i := 13) rfl)
theorem ml_X10_96 : Cond.methodLink RX10 96 yX3_settle ∈ lw_tbl := wl_39 _ (List.mem_of_getElem? (i := 14) rfl)
theorem ml_X3_136 : Cond.methodLinkNest RX3 136 yX10_has "OnByThursday" ∈ lw_tbl := wl_39 _ (List.mem_of_getElem? (i := 15) rfl)
theorem ml_X3_139 : Cond.methodLink RX3 139 yX3_isSkilled ∈ lw_tbl := wl_39 _ (List.mem_of_getElem? (i := 16) rfl)
theorem ml_X3_142 : Cond.methodLink RX3 142 yX5_clashes ∈ lw_tbl := wl_39 _ (List.mem_of_getElem? (i := 17) rfl)
theorem ml_X5_25 : Cond.methodLinkNest RX5 25 yX10_has "OnByThursday" ∈ lw_tbl := wl_39 _ (List.mem_of_getElem? (i := 18) rfl)
theorem ml_X10_99 : Cond.methodLink RX10 99 yX10_startAnew ∈ lw_tbl := wl_39 _ (List.mem_of_getElem? (i := 19) rfl)
theorem ml_X10_116 : Cond.methodLink RX10 116 yX4_clear ∈ lw_tbl := wl_39 _ (List.mem_of_getElem? (i := 20) rfl)
theorem ml_X4_22 : Cond.methodLink RX4 22 yJ7_fill_53178 ∈ lw_tbl := wl_39 _ (List.mem_of_getElem? (i := 21) rfl)
theorem ml_X10_120 : Cond.methodLink RX10 120 yJ7_fill_53178 ∈ lw_tbl := wl_39 _ (List.mem_of_getElem? (i := 22) rfl)
theorem ml_X10_126 : Cond.methodLink RX10 126 yX0_forget ∈ lw_tbl := wl_39 _ (List.mem_of_getElem? (i := 23) rfl)
theorem ml_X0_25 : Cond.methodLink RX0 25 yJ7_fill_53178 ∈ lw_tbl := wl_40 _ (List.mem_of_getElem? (i := 0) rfl)
theorem ml_X10_129 : Cond.methodLink RX10 129 yX9_forget ∈ lw_tbl := wl_40 _ (List.mem_of_getElem? (i := 1) rfl)
theorem ml_X10_130 : Cond.methodLink RX10 130 yX7_forget ∈ lw_tbl := wl_40 _ (List.mem_of_getElem? (i := 2) rfl)
theorem ml_L_15 : Cond.methodLink RL 15 yX10_write ∈ lw_tbl := wl_40 _ (List.mem_of_getElem? (i := 3) rfl)
theorem ml_L_20 : Cond.methodLink RL 20 yX10_wipe ∈ lw_tbl := wl_40 _ (List.mem_of_getElem? (i := 4) rfl)
theorem ml_L_25 : Cond.methodLink RL 25 yX10_fault ∈ lw_tbl := wl_40 _ (List.mem_of_getElem? (i := 5) rfl)
theorem ml_X10_106 : Cond.methodLink RX10 106 yX6_firstFault ∈ lw_tbl := wl_40 _ (List.mem_of_getElem? (i := 6) rfl)
theorem ml_X6_15 : Cond.methodLink RX6 15 yX3_clear ∈ lw_tbl := wl_40 _ (List.mem_of_getElem? (i := 7) rfl)
theorem ml_X6_20 : Cond.methodLink RX6 20 yX6_endOfItem ∈ lw_tbl := wl_40 _ (List.mem_of_getElem? (i := 8) rfl)
theorem ml_X6_32 : Cond.methodLink RX6 32 yX6_endOfFigures ∈ lw_tbl := wl_40 _ (List.mem_of_getElem? (i := 9) rfl)
theorem ml_X6_35 : Cond.methodLink RX6 35 yX6_numberOf ∈ lw_tbl := wl_40 _ (List.mem_of_getElem? (i := 10) rfl)
theorem ml_X6_28 : Cond.methodLink RX6 28 yX3_take ∈ lw_tbl := wl_40 _ (List.mem_of_getElem? (i := 11) rfl)
theorem ml_X3_83 : Cond.methodLink RX3 83 yX3_addPlayer ∈ lw_tbl := wl_40 _ (List.mem_of_getElem? (i := 12) rfl)
theorem ml_X3_87 : Cond.methodLink RX3 87 yX3_addPart ∈ lw_tbl := wl_40 _ (List.mem_of_getElem? (i := 13) rfl)
theorem ml_X3_91 : Cond.methodLink RX3 91 yX3_tellScene ∈ lw_tbl := wl_40 _ (List.mem_of_getElem? (i := 14) rfl)
theorem ml_X3_120 : Cond.methodLink RX3 120 yX3_hasParts ∈ lw_tbl := wl_40 _ (List.mem_of_getElem? (i := 15) rfl)
theorem ml_X3_123 : Cond.methodLink RX3 123 yX5_addScene ∈ lw_tbl := wl_40 _ (List.mem_of_getElem? (i := 16) rfl)
theorem ml_X3_94 : Cond.methodLink RX3 94 yX3_giveOwn ∈ lw_tbl := wl_40 _ (List.mem_of_getElem? (i := 17) rfl)
theorem ml_X3_97 : Cond.methodLink RX3 97 yX3_addCover ∈ lw_tbl := wl_40 _ (List.mem_of_getElem? (i := 18) rfl)
theorem ml_X3_100 : Cond.methodLink RX3 100 yX3_setContagion ∈ lw_tbl := wl_40 _ (List.mem_of_getElem? (i := 19) rfl)
theorem ml_X3_104 : Cond.methodLink RX3 104 yX3_setChange ∈ lw_tbl := wl_40 _ (List.mem_of_getElem? (i := 20) rfl)
theorem ml_X3_108 : Cond.methodLink RX3 108 yX3_setTailor ∈ lw_tbl := wl_40 _ (List.mem_of_getElem? (i := 21) rfl)
theorem ml_X3_111 : Cond.methodLink RX3 111 yX3_setForgetting ∈ lw_tbl := wl_40 _ (List.mem_of_getElem? (i := 22) rfl)
theorem ml_X3_114 : Cond.methodLink RX3 114 yX3_setPay ∈ lw_tbl := wl_40 _ (List.mem_of_getElem? (i := 23) rfl)
theorem ml_L_29 : Cond.methodLink RL 29 yX10_lay ∈ lw_tbl := wl_41 _ (List.mem_of_getElem? (i := 0) rfl)
theorem ml_L_33 : Cond.methodLink RL 33 yX10_player ∈ lw_tbl := wl_41 _ (List.mem_of_getElem? (i := 1) rfl)
theorem ml_X10_131 : Cond.methodLink RX10 131 yX3_hasPlayer ∈ lw_tbl := wl_41 _ (List.mem_of_getElem? (i := 2) rfl)
theorem ml_X10_141 : Cond.methodLink RX10 141 yX3_ownParts ∈ lw_tbl := wl_41 _ (List.mem_of_getElem? (i := 3) rfl)
theorem ml_X10_148 : Cond.methodLink RX10 148 yX3_playable ∈ lw_tbl := wl_41 _ (List.mem_of_getElem? (i := 4) rfl)
theorem ml_X3_145 : Cond.methodLink RX3 145 yX3_mayPlay ∈ lw_tbl := wl_41 _ (List.mem_of_getElem? (i := 5) rfl)
theorem ml_L_38 : Cond.methodLink RL 38 yX10_part ∈ lw_tbl := wl_41 _ (List.mem_of_getElem? (i := 6) rfl)
theorem ml_X10_151 : Cond.methodLink RX10 151 yX3_hasPart ∈ lw_tbl := wl_41 _ (List.mem_of_getElem? (i := 7) rfl)
theorem ml_X10_170 : Cond.methodLink RX10 170 yX5_scenesOf ∈ lw_tbl := wl_41 _ (List.mem_of_getElem? (i := 8) rfl)
theorem ml_L_42 : Cond.methodLink RL 42 yX10_both ∈ lw_tbl := wl_41 _ (List.mem_of_getElem? (i := 9) rfl)
theorem ml_X10_181 : Cond.methodLink RX10 181 yX10_has ∈ lw_tbl := wl_41 _ (List.mem_of_getElem? (i := 10) rfl)
theorem ml_L_46 : Cond.methodLink RL 46 yX10_ways ∈ lw_tbl := wl_41 _ (List.mem_of_getElem? (i := 11) rfl)
theorem ml_X10_184 : Cond.methodLink RX10 184 yX3_hasPlayers ∈ lw_tbl := wl_41 _ (List.mem_of_getElem? (i := 12) rfl)
theorem ml_X10_187 : Cond.methodLink RX10 187 yX3_hasParts ∈ lw_tbl := wl_41 _ (List.mem_of_getElem? (i := 13) rfl)
theorem ml_X10_190 : Cond.methodLink RX10 190 yX2_countCastings ∈ lw_tbl := wl_41 _ (List.mem_of_getElem? (i := 14) rfl)
theorem ml_X2_56 : Cond.methodLink RX2 56 yX2_begin ∈ lw_tbl := wl_41 _ (List.mem_of_getElem? (i := 15) rfl)
theorem ml_X2_38 : Cond.methodLink RX2 38 yJ7_fill_53178 ∈ lw_tbl := wl_41 _ (List.mem_of_getElem? (i := 16) rfl)
theorem ml_X2_60 : Cond.methodLink RX2 60 yX2_countFrom ∈ lw_tbl := wl_41 _ (List.mem_of_getElem? (i := 17) rfl)
theorem ml_X2_49 : Cond.methodLinkNest RX2 49 yX10_has "OnByThursday" ∈ lw_tbl := wl_41 _ (List.mem_of_getElem? (i := 18) rfl)
theorem ml_X2_70 : Cond.methodLink RX2 70 yX2_isFree ∈ lw_tbl := wl_41 _ (List.mem_of_getElem? (i := 19) rfl)
theorem ml_L_51 : Cond.methodLink RL 51 yX10_least ∈ lw_tbl := wl_41 _ (List.mem_of_getElem? (i := 20) rfl)
theorem ml_X10_194 : Cond.methodLink RX10 194 yX2_findLeast ∈ lw_tbl := wl_41 _ (List.mem_of_getElem? (i := 21) rfl)
theorem ml_X2_77 : Cond.methodLink RX2 77 yX2_weigh ∈ lw_tbl := wl_41 _ (List.mem_of_getElem? (i := 22) rfl)
theorem ml_X2_85 : Cond.methodLink RX2 85 yX4_lostLines ∈ lw_tbl := wl_41 _ (List.mem_of_getElem? (i := 23) rfl)
theorem ml_X4_48 : Cond.methodLink RX4 48 yX4_keptLines ∈ lw_tbl := wl_42 _ (List.mem_of_getElem? (i := 0) rfl)
theorem ml_X4_39 : Cond.methodLink RX4 39 Lib.Math.max.name ∈ lw_tbl := List.mem_of_getElem? (i := 702) (by decide +kernel)
theorem ml_X2_103 : Cond.methodLink RX2 103 Lib.Math.abs.name ∈ lw_tbl := List.mem_of_getElem? (i := 705) (by decide +kernel)
theorem ml_X2_109 : Cond.methodLink RX2 109 Lib.Math.min.name ∈ lw_tbl := List.mem_of_getElem? (i := 708) (by decide +kernel)
theorem ml_X2_81 : Cond.methodLink RX2 81 yX2_improveFrom ∈ lw_tbl := wl_42 _ (List.mem_of_getElem? (i := 1) rfl)
theorem ml_X2_113 : Cond.methodLink RX2 113 arraycopyName ∈ lw_tbl := List.mem_of_getElem? (i := 714) (by decide +kernel)
theorem ml_X10_201 : Cond.methodLink RX10 201 yX2_partsNotByOwners ∈ lw_tbl := wl_42 _ (List.mem_of_getElem? (i := 2) rfl)
theorem ml_X10_205 : Cond.methodLink RX10 205 yX2_forgottenLines ∈ lw_tbl := wl_42 _ (List.mem_of_getElem? (i := 3) rfl)
theorem ml_L_56 : Cond.methodLink RL 56 yX10_cuts ∈ lw_tbl := wl_42 _ (List.mem_of_getElem? (i := 4) rfl)
theorem ml_X10_212 : Cond.methodLink RX10 212 yX0_cheapestCut ∈ lw_tbl := wl_42 _ (List.mem_of_getElem? (i := 5) rfl)
theorem ml_X0_48 : Cond.methodLink RX0 48 yX3_linesTogether ∈ lw_tbl := wl_42 _ (List.mem_of_getElem? (i := 6) rfl)
theorem ml_X0_31 : Cond.methodLink RX0 31 yX1_begin ∈ lw_tbl := wl_42 _ (List.mem_of_getElem? (i := 7) rfl)
theorem ml_X0_35 : Cond.methodLink RX0 35 yX1_succeeds ∈ lw_tbl := wl_42 _ (List.mem_of_getElem? (i := 8) rfl)
theorem ml_X1_38 : Cond.methodLink RX1 38 yX1_canFill ∈ lw_tbl := wl_42 _ (List.mem_of_getElem? (i := 9) rfl)
theorem ml_X1_42 : Cond.methodLink RX1 42 yX1_scarcest ∈ lw_tbl := wl_42 _ (List.mem_of_getElem? (i := 10) rfl)
theorem ml_X1_53 : Cond.methodLink RX1 53 yJ6_bitCount_0f7a4 ∈ lw_tbl := wl_42 _ (List.mem_of_getElem? (i := 11) rfl)
theorem ml_X1_34 : Cond.methodLinkNest RX1 34 yX10_has "OnByThursday" ∈ lw_tbl := wl_42 _ (List.mem_of_getElem? (i := 12) rfl)
theorem ml_X1_49 : Cond.methodLink RX1 49 yX1_strike ∈ lw_tbl := wl_42 _ (List.mem_of_getElem? (i := 13) rfl)
theorem ml_X10_216 : Cond.methodLink RX10 216 yX3_linesTogether ∈ lw_tbl := wl_42 _ (List.mem_of_getElem? (i := 14) rfl)
theorem ml_L_60 : Cond.methodLink RL 60 yX10_lines ∈ lw_tbl := wl_42 _ (List.mem_of_getElem? (i := 15) rfl)
theorem ml_X10_219 : Cond.methodLink RX10 219 yX3_mayPlay ∈ lw_tbl := wl_42 _ (List.mem_of_getElem? (i := 16) rfl)
theorem ml_X10_222 : Cond.methodLink RX10 222 yX4_keptLines ∈ lw_tbl := wl_42 _ (List.mem_of_getElem? (i := 17) rfl)
theorem ml_L_64 : Cond.methodLink RL 64 yX10_rehearse ∈ lw_tbl := wl_42 _ (List.mem_of_getElem? (i := 18) rfl)
theorem ml_X10_226 : Cond.methodLink RX10 226 yX4_sayToday ∈ lw_tbl := wl_42 _ (List.mem_of_getElem? (i := 19) rfl)
theorem ml_X10_230 : Cond.methodLink RX10 230 yX3_hours ∈ lw_tbl := wl_42 _ (List.mem_of_getElem? (i := 20) rfl)
theorem ml_L_68 : Cond.methodLink RL 68 yX10_rehearsals ∈ lw_tbl := wl_42 _ (List.mem_of_getElem? (i := 21) rfl)
theorem ml_X10_233 : Cond.methodLink RX10 233 yX8_plan ∈ lw_tbl := wl_42 _ (List.mem_of_getElem? (i := 22) rfl)
theorem ml_X8_27 : Cond.methodLink RX8 27 yX8_listPairs ∈ lw_tbl := wl_42 _ (List.mem_of_getElem? (i := 23) rfl)
theorem ml_X8_50 : Cond.methodLink RX8 50 yX3_mayPlay ∈ lw_tbl := wl_43 _ (List.mem_of_getElem? (i := 0) rfl)
theorem ml_X8_54 : Cond.methodLink RX8 54 yX4_lostLines ∈ lw_tbl := wl_43 _ (List.mem_of_getElem? (i := 1) rfl)
theorem ml_X8_60 : Cond.methodLink RX8 60 yX3_hours ∈ lw_tbl := wl_43 _ (List.mem_of_getElem? (i := 2) rfl)
theorem ml_X8_31 : Cond.methodLink RX8 31 yX8_weighPairs ∈ lw_tbl := wl_43 _ (List.mem_of_getElem? (i := 3) rfl)
theorem ml_X8_64 : Cond.methodLink RX8 64 yJ7_fill_fda19 ∈ lw_tbl := wl_43 _ (List.mem_of_getElem? (i := 4) rfl)
theorem ml_J7_13 : Cond.methodLink RJ7 13 yJ7_rangeCheck_23922 ∈ lw_tbl := wl_43 _ (List.mem_of_getElem? (i := 5) rfl)
theorem ml_X8_70 : Cond.methodLink RX8 70 yX8_worthWith ∈ lw_tbl := wl_43 _ (List.mem_of_getElem? (i := 6) rfl)
theorem ml_X8_74 : Cond.methodLink RX8 74 Lib.Math.max.name ∈ lw_tbl := List.mem_of_getElem? (i := 811) (by decide +kernel)
theorem ml_X8_35 : Cond.methodLink RX8 35 yX8_choosePairs ∈ lw_tbl := wl_43 _ (List.mem_of_getElem? (i := 7) rfl)
theorem ml_L_72 : Cond.methodLink RL 72 yX10_rest ∈ lw_tbl := wl_43 _ (List.mem_of_getElem? (i := 8) rfl)
theorem ml_L_77 : Cond.methodLink RL 77 yX10_cold ∈ lw_tbl := wl_43 _ (List.mem_of_getElem? (i := 9) rfl)
theorem ml_X10_252 : Cond.methodLink RX10 252 yX7_goOn ∈ lw_tbl := wl_43 _ (List.mem_of_getElem? (i := 10) rfl)
theorem ml_X7_31 : Cond.methodLink RX7 31 yJ7_fill_53178 ∈ lw_tbl := wl_43 _ (List.mem_of_getElem? (i := 11) rfl)
theorem ml_X7_38 : Cond.methodLink RX7 38 yX7_passDay ∈ lw_tbl := wl_43 _ (List.mem_of_getElem? (i := 12) rfl)
theorem ml_X7_47 : Cond.methodLink RX7 47 yJ7_fill_fda19 ∈ lw_tbl := wl_43 _ (List.mem_of_getElem? (i := 13) rfl)
theorem ml_X7_50 : Cond.methodLink RX7 50 yX7_spread ∈ lw_tbl := wl_43 _ (List.mem_of_getElem? (i := 14) rfl)
theorem ml_X7_63 : Cond.methodLinkNest RX7 63 yX10_has "OnByThursday" ∈ lw_tbl := wl_43 _ (List.mem_of_getElem? (i := 15) rfl)
theorem ml_X7_67 : Cond.methodLink RX7 67 yX7_staysWell ∈ lw_tbl := wl_43 _ (List.mem_of_getElem? (i := 16) rfl)
theorem ml_X7_71 : Cond.methodLink RX7 71 yX7_divide ∈ lw_tbl := wl_43 _ (List.mem_of_getElem? (i := 17) rfl)
theorem ml_X7_54 : Cond.methodLink RX7 54 arraycopyName ∈ lw_tbl := List.mem_of_getElem? (i := 849) (by decide +kernel)
theorem ml_X10_256 : Cond.methodLink RX10 256 yX7_timesMet ∈ lw_tbl := wl_43 _ (List.mem_of_getElem? (i := 18) rfl)
theorem ml_X7_80 : Cond.methodLink RX7 80 yX0_isMet ∈ lw_tbl := wl_43 _ (List.mem_of_getElem? (i := 19) rfl)
theorem ml_X10_260 : Cond.methodLink RX10 260 yX7_likeliest ∈ lw_tbl := wl_43 _ (List.mem_of_getElem? (i := 20) rfl)
theorem ml_X10_267 : Cond.methodLink RX10 267 yX7_timesIll ∈ lw_tbl := wl_43 _ (List.mem_of_getElem? (i := 21) rfl)
theorem ml_L_81 : Cond.methodLink RL 81 yX10_weak ∈ lw_tbl := wl_43 _ (List.mem_of_getElem? (i := 22) rfl)
theorem ml_X10_270 : Cond.methodLink RX10 270 yX0_findWeak ∈ lw_tbl := wl_43 _ (List.mem_of_getElem? (i := 23) rfl)
theorem ml_X0_58 : Cond.methodLink RX0 58 yJ6_bitCount_0f7a4 ∈ lw_tbl := wl_44 _ (List.mem_of_getElem? (i := 0) rfl)
theorem ml_X0_63 : Cond.methodLink RX0 63 yX0_isMet ∈ lw_tbl := wl_44 _ (List.mem_of_getElem? (i := 1) rfl)
theorem ml_L_85 : Cond.methodLink RL 85 yX10_engaged ∈ lw_tbl := wl_44 _ (List.mem_of_getElem? (i := 2) rfl)
theorem ml_X10_280 : Cond.methodLink RX10 280 yX9_survey ∈ lw_tbl := wl_44 _ (List.mem_of_getElem? (i := 3) rfl)
theorem ml_X9_37 : Cond.methodLink RX9 37 yX0_findWeak ∈ lw_tbl := wl_44 _ (List.mem_of_getElem? (i := 4) rfl)
theorem ml_X9_43 : Cond.methodLink RX9 43 yX9_listCovers ∈ lw_tbl := wl_44 _ (List.mem_of_getElem? (i := 5) rfl)
theorem ml_X9_72 : Cond.methodLink RX9 72 yX3_isSkilled ∈ lw_tbl := wl_44 _ (List.mem_of_getElem? (i := 6) rfl)
theorem ml_X9_75 : Cond.methodLink RX9 75 yX3_mayPlay ∈ lw_tbl := wl_44 _ (List.mem_of_getElem? (i := 7) rfl)
theorem ml_X9_47 : Cond.methodLinkNest RX9 47 yX10_has "OnByThursday" ∈ lw_tbl := wl_44 _ (List.mem_of_getElem? (i := 8) rfl)
theorem ml_X9_60 : Cond.methodLink RX9 60 yX9_helps ∈ lw_tbl := wl_44 _ (List.mem_of_getElem? (i := 9) rfl)
theorem ml_X9_78 : Cond.methodLink RX9 78 yX1_begin ∈ lw_tbl := wl_44 _ (List.mem_of_getElem? (i := 10) rfl)
theorem ml_X9_82 : Cond.methodLink RX9 82 yX1_give ∈ lw_tbl := wl_44 _ (List.mem_of_getElem? (i := 11) rfl)
theorem ml_X9_86 : Cond.methodLink RX9 86 yX1_succeeds ∈ lw_tbl := wl_44 _ (List.mem_of_getElem? (i := 12) rfl)
theorem ml_X10_284 : Cond.methodLink RX10 284 yX9_findBest ∈ lw_tbl := wl_44 _ (List.mem_of_getElem? (i := 13) rfl)
theorem ml_X9_96 : Cond.methodLink RX9 96 yJ13_bitCount_95d88 ∈ lw_tbl := wl_44 _ (List.mem_of_getElem? (i := 14) rfl)
theorem ml_L_89 : Cond.methodLink RL 89 yX10_fewest ∈ lw_tbl := wl_44 _ (List.mem_of_getElem? (i := 15) rfl)
theorem ml_X10_293 : Cond.methodLink RX10 293 yX9_fewestForPairs ∈ lw_tbl := wl_44 _ (List.mem_of_getElem? (i := 16) rfl)
theorem ml_X9_108 : Cond.methodLink RX9 108 yX9_areEnough ∈ lw_tbl := wl_44 _ (List.mem_of_getElem? (i := 17) rfl)
theorem ml_X9_112 : Cond.methodLink RX9 112 yX9_helpTogether ∈ lw_tbl := wl_44 _ (List.mem_of_getElem? (i := 18) rfl)
theorem ml_L_93 : Cond.methodLink RL 93 yX10_night ∈ lw_tbl := wl_44 _ (List.mem_of_getElem? (i := 19) rfl)
theorem ml_X10_296 : Cond.methodLink RX10 296 yX2_partsPlayedBy ∈ lw_tbl := wl_44 _ (List.mem_of_getElem? (i := 20) rfl)
theorem ml_X10_299 : Cond.methodLink RX10 299 yX4_playNight ∈ lw_tbl := wl_44 _ (List.mem_of_getElem? (i := 21) rfl)
theorem ml_X4_52 : Cond.methodLink RX4 52 yX3_ownParts ∈ lw_tbl := wl_44 _ (List.mem_of_getElem? (i := 22) rfl)
theorem ml_X4_56 : Cond.methodLink RX4 56 yX3_linesTogether ∈ lw_tbl := wl_44 _ (List.mem_of_getElem? (i := 23) rfl)
theorem ml_X4_68 : Cond.methodLinkNest RX4 68 yX10_has "OnByThursday" ∈ lw_tbl := wl_45 _ (List.mem_of_getElem? (i := 0) rfl)
theorem ml_X4_72 : Cond.methodLink RX4 72 yX4_sayToday ∈ lw_tbl := wl_45 _ (List.mem_of_getElem? (i := 1) rfl)
theorem ml_L_97 : Cond.methodLink RL 97 yX10_owed ∈ lw_tbl := wl_45 _ (List.mem_of_getElem? (i := 2) rfl)
theorem ml_L_101 : Cond.methodLink RL 101 yX10_told ∈ lw_tbl := wl_45 _ (List.mem_of_getElem? (i := 3) rfl)
theorem ml_L_105 : Cond.methodLink RL 105 yX10_wrong ∈ lw_tbl := wl_45 _ (List.mem_of_getElem? (i := 4) rfl)
theorem ml_L_109 : Cond.methodLink RL 109 yX10_run ∈ lw_tbl := wl_45 _ (List.mem_of_getElem? (i := 5) rfl)
theorem ml_X10_306 : Cond.methodLink RX10 306 yX0_isMet ∈ lw_tbl := wl_45 _ (List.mem_of_getElem? (i := 6) rfl)
theorem ml_L_113 : Cond.methodLink RL 113 yX10_keep ∈ lw_tbl := wl_45 _ (List.mem_of_getElem? (i := 7) rfl)
theorem ml_X10_310 : Cond.methodLink RX10 310 yX4_copy ∈ lw_tbl := wl_45 _ (List.mem_of_getElem? (i := 8) rfl)
theorem ml_X4_28 : Cond.methodLink RX4 28 arraycopyName ∈ lw_tbl := List.mem_of_getElem? (i := 970) (by decide +kernel)
theorem ml_L_117 : Cond.methodLink RL 117 yX10_back ∈ lw_tbl := wl_45 _ (List.mem_of_getElem? (i := 9) rfl)
theorem ml_L_121 : Cond.methodLink RL 121 yX10_count ∈ lw_tbl := wl_45 _ (List.mem_of_getElem? (i := 10) rfl)
theorem ml_L_12 : Cond.methodLink RL 12 yX11_init ∈ lw_tbl := wl_45 _ (List.mem_of_getElem? (i := 11) rfl)
theorem ml_X11_115 : Cond.methodLink RX11 115 yX11_noCompany ∈ lw_tbl := wl_45 _ (List.mem_of_getElem? (i := 12) rfl)
theorem ml_X11_119 : Cond.methodLink RX11 119 yX11_layRules ∈ lw_tbl := wl_45 _ (List.mem_of_getElem? (i := 13) rfl)
theorem ml_X11_186 : Cond.methodLink RX11 186 yX11_layMays ∈ lw_tbl := wl_45 _ (List.mem_of_getElem? (i := 14) rfl)
theorem ml_X11_192 : Cond.methodLink RX11 192 yX11_mayPlay ∈ lw_tbl := wl_45 _ (List.mem_of_getElem? (i := 15) rfl)
theorem ml_X11_183 : Cond.methodLink RX11 183 yX11_has ∈ lw_tbl := wl_45 _ (List.mem_of_getElem? (i := 16) rfl)
theorem ml_X11_189 : Cond.methodLink RX11 189 yX11_areBoth ∈ lw_tbl := wl_45 _ (List.mem_of_getElem? (i := 17) rfl)
theorem ml_L_19 : Cond.methodLink RL 19 yX11_write ∈ lw_tbl := wl_45 _ (List.mem_of_getElem? (i := 18) rfl)
theorem ml_X11_124 : Cond.methodLink RX11 124 yX11_in ∈ lw_tbl := wl_45 _ (List.mem_of_getElem? (i := 19) rfl)
theorem ml_L_24 : Cond.methodLink RL 24 yX11_wipe ∈ lw_tbl := wl_45 _ (List.mem_of_getElem? (i := 20) rfl)
theorem ml_L_28 : Cond.methodLink RL 28 yX11_fault ∈ lw_tbl := wl_45 _ (List.mem_of_getElem? (i := 21) rfl)
theorem ml_X11_176 : Cond.methodLink RX11 176 yX11_readAll ∈ lw_tbl := wl_45 _ (List.mem_of_getElem? (i := 22) rfl)
theorem ml_X11_173 : Cond.methodLink RX11 173 yX11_item ∈ lw_tbl := wl_45 _ (List.mem_of_getElem? (i := 23) rfl)
theorem ml_X11_137 : Cond.methodLink RX11 137 yX11_byteAt ∈ lw_tbl := wl_46 _ (List.mem_of_getElem? (i := 0) rfl)
theorem ml_X11_153 : Cond.methodLink RX11 153 yX11_playerItem ∈ lw_tbl := wl_46 _ (List.mem_of_getElem? (i := 1) rfl)
theorem ml_X11_147 : Cond.methodLink RX11 147 yX11_figures ∈ lw_tbl := wl_46 _ (List.mem_of_getElem? (i := 2) rfl)
theorem ml_X11_157 : Cond.methodLink RX11 157 yX11_partItem ∈ lw_tbl := wl_46 _ (List.mem_of_getElem? (i := 3) rfl)
theorem ml_X11_160 : Cond.methodLink RX11 160 yX11_sceneItem ∈ lw_tbl := wl_46 _ (List.mem_of_getElem? (i := 4) rfl)
theorem ml_X11_163 : Cond.methodLink RX11 163 yX11_isPair ∈ lw_tbl := wl_46 _ (List.mem_of_getElem? (i := 5) rfl)
theorem ml_X11_166 : Cond.methodLink RX11 166 yX11_coldItem ∈ lw_tbl := wl_46 _ (List.mem_of_getElem? (i := 6) rfl)
theorem ml_X11_169 : Cond.methodLink RX11 169 yX11_numberItem ∈ lw_tbl := wl_46 _ (List.mem_of_getElem? (i := 7) rfl)
theorem ml_L_32 : Cond.methodLink RL 32 yX11_lay ∈ lw_tbl := wl_46 _ (List.mem_of_getElem? (i := 8) rfl)
theorem ml_L_37 : Cond.methodLink RL 37 yX11_player ∈ lw_tbl := wl_46 _ (List.mem_of_getElem? (i := 9) rfl)
theorem ml_X11_195 : Cond.methodLink RX11 195 yX11_isPlayer ∈ lw_tbl := wl_46 _ (List.mem_of_getElem? (i := 10) rfl)
theorem ml_L_41 : Cond.methodLink RL 41 yX11_part ∈ lw_tbl := wl_46 _ (List.mem_of_getElem? (i := 11) rfl)
theorem ml_X11_200 : Cond.methodLink RX11 200 yX11_isPart ∈ lw_tbl := wl_46 _ (List.mem_of_getElem? (i := 12) rfl)
theorem ml_L_45 : Cond.methodLink RL 45 yX11_both ∈ lw_tbl := wl_46 _ (List.mem_of_getElem? (i := 13) rfl)
theorem ml_L_50 : Cond.methodLink RL 50 yX11_ways ∈ lw_tbl := wl_46 _ (List.mem_of_getElem? (i := 14) rfl)
theorem ml_X11_229 : Cond.methodLink RX11 229 yX11_isOff ∈ lw_tbl := wl_46 _ (List.mem_of_getElem? (i := 15) rfl)
theorem ml_X11_232 : Cond.methodLink RX11 232 yX11_isCut ∈ lw_tbl := wl_46 _ (List.mem_of_getElem? (i := 16) rfl)
theorem ml_X11_235 : Cond.methodLink RX11 235 yX11_cast ∈ lw_tbl := wl_46 _ (List.mem_of_getElem? (i := 17) rfl)
theorem ml_X11_219 : Cond.methodLink RX11 219 yX11_pileTrouble ∈ lw_tbl := wl_46 _ (List.mem_of_getElem? (i := 18) rfl)
theorem ml_X11_209 : Cond.methodLink RX11 209 yX11_trouble ∈ lw_tbl := wl_46 _ (List.mem_of_getElem? (i := 19) rfl)
theorem ml_X11_205 : Cond.methodLink RX11 205 yX11_kept ∈ lw_tbl := wl_46 _ (List.mem_of_getElem? (i := 20) rfl)
theorem ml_X11_222 : Cond.methodLink RX11 222 yX11_stepBack ∈ lw_tbl := wl_46 _ (List.mem_of_getElem? (i := 21) rfl)
theorem ml_X11_225 : Cond.methodLink RX11 225 yX11_nextFor ∈ lw_tbl := wl_46 _ (List.mem_of_getElem? (i := 22) rfl)
theorem ml_L_55 : Cond.methodLink RL 55 yX11_least ∈ lw_tbl := wl_46 _ (List.mem_of_getElem? (i := 23) rfl)
theorem ml_L_59 : Cond.methodLink RL 59 yX11_cuts ∈ lw_tbl := wl_47 _ (List.mem_of_getElem? (i := 0) rfl)
theorem ml_X11_241 : Cond.methodLink RX11 241 yX11_linesIn ∈ lw_tbl := wl_47 _ (List.mem_of_getElem? (i := 1) rfl)
theorem ml_L_63 : Cond.methodLink RL 63 yX11_lines ∈ lw_tbl := wl_47 _ (List.mem_of_getElem? (i := 2) rfl)
theorem ml_L_67 : Cond.methodLink RL 67 yX11_rehearse ∈ lw_tbl := wl_47 _ (List.mem_of_getElem? (i := 3) rfl)
theorem ml_X11_244 : Cond.methodLink RX11 244 yX11_hoursOf ∈ lw_tbl := wl_47 _ (List.mem_of_getElem? (i := 4) rfl)
theorem ml_L_71 : Cond.methodLink RL 71 yX11_rehearsals ∈ lw_tbl := wl_47 _ (List.mem_of_getElem? (i := 5) rfl)
theorem ml_X11_259 : Cond.methodLink RX11 259 yX11_layRehearsals ∈ lw_tbl := wl_47 _ (List.mem_of_getElem? (i := 6) rfl)
theorem ml_X11_253 : Cond.methodLink RX11 253 yX11_layPairs ∈ lw_tbl := wl_47 _ (List.mem_of_getElem? (i := 7) rfl)
theorem ml_X11_256 : Cond.methodLink RX11 256 yX11_isTaken ∈ lw_tbl := wl_47 _ (List.mem_of_getElem? (i := 8) rfl)
theorem ml_X11_250 : Cond.methodLink RX11 250 yX11_gainOf ∈ lw_tbl := wl_47 _ (List.mem_of_getElem? (i := 9) rfl)
theorem ml_L_76 : Cond.methodLink RL 76 yX11_rest ∈ lw_tbl := wl_47 _ (List.mem_of_getElem? (i := 10) rfl)
theorem ml_L_80 : Cond.methodLink RL 80 yX11_cold ∈ lw_tbl := wl_47 _ (List.mem_of_getElem? (i := 11) rfl)
theorem ml_X11_279 : Cond.methodLink RX11 279 yX11_layCold ∈ lw_tbl := wl_47 _ (List.mem_of_getElem? (i := 12) rfl)
theorem ml_X11_271 : Cond.methodLink RX11 271 yX11_partState ∈ lw_tbl := wl_47 _ (List.mem_of_getElem? (i := 13) rfl)
theorem ml_X11_266 : Cond.methodLink RX11 266 yX11_wellOf ∈ lw_tbl := wl_47 _ (List.mem_of_getElem? (i := 14) rfl)
theorem ml_L_84 : Cond.methodLink RL 84 yX11_weak ∈ lw_tbl := wl_47 _ (List.mem_of_getElem? (i := 15) rfl)
theorem ml_X11_290 : Cond.methodLink RX11 290 yX11_weakOf ∈ lw_tbl := wl_47 _ (List.mem_of_getElem? (i := 16) rfl)
theorem ml_X11_285 : Cond.methodLink RX11 285 yX11_bits ∈ lw_tbl := wl_47 _ (List.mem_of_getElem? (i := 17) rfl)
theorem ml_L_88 : Cond.methodLink RL 88 yX11_engaged ∈ lw_tbl := wl_47 _ (List.mem_of_getElem? (i := 18) rfl)
theorem ml_X11_293 : Cond.methodLink RX11 293 yX11_isCover ∈ lw_tbl := wl_47 _ (List.mem_of_getElem? (i := 19) rfl)
theorem ml_X11_296 : Cond.methodLink RX11 296 yX11_setCover ∈ lw_tbl := wl_47 _ (List.mem_of_getElem? (i := 20) rfl)
theorem ml_L_92 : Cond.methodLink RL 92 yX11_fewest ∈ lw_tbl := wl_47 _ (List.mem_of_getElem? (i := 21) rfl)
theorem ml_X11_300 : Cond.methodLink RX11 300 yX11_noneWeak ∈ lw_tbl := wl_47 _ (List.mem_of_getElem? (i := 22) rfl)
theorem ml_L_96 : Cond.methodLink RL 96 yX11_night ∈ lw_tbl := wl_47 _ (List.mem_of_getElem? (i := 23) rfl)
theorem ml_X11_303 : Cond.methodLink RX11 303 yX11_play ∈ lw_tbl := wl_48 _ (List.mem_of_getElem? (i := 0) rfl)
theorem ml_L_100 : Cond.methodLink RL 100 yX11_owed ∈ lw_tbl := wl_48 _ (List.mem_of_getElem? (i := 1) rfl)
theorem ml_L_104 : Cond.methodLink RL 104 yX11_told ∈ lw_tbl := wl_48 _ (List.mem_of_getElem? (i := 2) rfl)
theorem ml_L_108 : Cond.methodLink RL 108 yX11_wrong ∈ lw_tbl := wl_48 _ (List.mem_of_getElem? (i := 3) rfl)
theorem ml_L_112 : Cond.methodLink RL 112 yX11_run ∈ lw_tbl := wl_48 _ (List.mem_of_getElem? (i := 4) rfl)
theorem ml_L_116 : Cond.methodLink RL 116 yX11_keep ∈ lw_tbl := wl_48 _ (List.mem_of_getElem? (i := 5) rfl)
theorem ml_X11_312 : Cond.methodLink RX11 312 yX11_copy ∈ lw_tbl := wl_48 _ (List.mem_of_getElem? (i := 6) rfl)
theorem ml_L_120 : Cond.methodLink RL 120 yX11_back ∈ lw_tbl := wl_48 _ (List.mem_of_getElem? (i := 7) rfl)
theorem ml_L_124 : Cond.methodLink RL 124 yX11_count ∈ lw_tbl := wl_48 _ (List.mem_of_getElem? (i := 8) rfl)
theorem ct_X2_73 : Cond.constant RX2 73 1000000 ∈ lw_tbl := wl_48 _ (List.mem_of_getElem? (i := 9) rfl)
theorem ct_J6_265 : Cond.constant RJ6 265 1431655765 ∈ lw_tbl := wl_48 _ (List.mem_of_getElem? (i := 10) rfl)
theorem ct_J6_266 : Cond.constant RJ6 266 858993459 ∈ lw_tbl := wl_48 _ (List.mem_of_getElem? (i := 11) rfl)
theorem ct_J6_267 : Cond.constant RJ6 267 252645135 ∈ lw_tbl := wl_48 _ (List.mem_of_getElem? (i := 12) rfl)
theorem ct_X7_37 : Cond.constant RX7 37 1000000 ∈ lw_tbl := wl_48 _ (List.mem_of_getElem? (i := 13) rfl)
theorem ct_X7_78 : Cond.constantLong RX7 78 1000000 ∈ lw_tbl := wl_48 _ (List.mem_of_getElem? (i := 14) rfl)
theorem ct_J13_314 : Cond.constantLong RJ13 314 6148914691236517205 ∈ lw_tbl := wl_48 _ (List.mem_of_getElem? (i := 15) rfl)
theorem ct_J13_316 : Cond.constantLong RJ13 316 3689348814741910323 ∈ lw_tbl := wl_48 _ (List.mem_of_getElem? (i := 16) rfl)
theorem ct_J13_318 : Cond.constantLong RJ13 318 1085102592571150095 ∈ lw_tbl := wl_48 _ (List.mem_of_getElem? (i := 17) rfl)
theorem ct_X10_305 : Cond.constant RX10 305 99999 ∈ lw_tbl := wl_48 _ (List.mem_of_getElem? (i := 18) rfl)
theorem ct_X11_122 : Cond.constantLong RX11 122 8 ∈ lw_tbl := wl_48 _ (List.mem_of_getElem? (i := 19) rfl)
theorem ct_X11_132 : Cond.constantLong RX11 132 255 ∈ lw_tbl := wl_48 _ (List.mem_of_getElem? (i := 20) rfl)
theorem ct_X11_141 : Cond.constantLong RX11 141 48 ∈ lw_tbl := wl_48 _ (List.mem_of_getElem? (i := 21) rfl)
theorem ct_X11_143 : Cond.constantLong RX11 143 57 ∈ lw_tbl := wl_48 _ (List.mem_of_getElem? (i := 22) rfl)
theorem ct_X11_145 : Cond.constantLong RX11 145 3 ∈ lw_tbl := wl_48 _ (List.mem_of_getElem? (i := 23) rfl)
theorem ct_X11_151 : Cond.constantLong RX11 151 99 ∈ lw_tbl := wl_49 _ (List.mem_of_getElem? (i := 0) rfl)
theorem ct_X11_198 : Cond.constantLong RX11 198 4 ∈ lw_tbl := wl_49 _ (List.mem_of_getElem? (i := 1) rfl)
theorem ct_X11_203 : Cond.constantLong RX11 203 5 ∈ lw_tbl := wl_49 _ (List.mem_of_getElem? (i := 2) rfl)
theorem ct_X11_239 : Cond.constantLong RX11 239 (-3) ∈ lw_tbl := wl_49 _ (List.mem_of_getElem? (i := 3) rfl)
theorem ct_X11_275 : Cond.constantLong RX11 275 14 ∈ lw_tbl := wl_49 _ (List.mem_of_getElem? (i := 4) rfl)
theorem ct_X11_277 : Cond.constantLong RX11 277 12 ∈ lw_tbl := wl_49 _ (List.mem_of_getElem? (i := 5) rfl)
theorem ct_X11_270 : Cond.constant RX11 270 1000000 ∈ lw_tbl := wl_49 _ (List.mem_of_getElem? (i := 6) rfl)
theorem ct_X11_262 : Cond.constantLong RX11 262 1000000 ∈ lw_tbl := wl_49 _ (List.mem_of_getElem? (i := 7) rfl)
theorem ct_X11_264 : Cond.constantLong RX11 264 100 ∈ lw_tbl := wl_49 _ (List.mem_of_getElem? (i := 8) rfl)
theorem ct_X11_288 : Cond.constantLong RX11 288 2 ∈ lw_tbl := wl_49 _ (List.mem_of_getElem? (i := 9) rfl)
theorem ct_X11_306 : Cond.constantLong RX11 306 99999 ∈ lw_tbl := wl_49 _ (List.mem_of_getElem? (i := 10) rfl)
theorem ct_X11_308 : Cond.constantLong RX11 308 20 ∈ lw_tbl := wl_49 _ (List.mem_of_getElem? (i := 11) rfl)
theorem ct_X11_310 : Cond.constantLong RX11 310 999 ∈ lw_tbl := wl_49 _ (List.mem_of_getElem? (i := 12) rfl)
theorem ct_L_13 : Cond.constantLong RL 13 4294967295 ∈ lw_tbl := wl_49 _ (List.mem_of_getElem? (i := 13) rfl)
theorem ac_int : Cond.arrayClass .int ∈ lw_tbl := List.mem_of_getElem? (i := 105) (by decide +kernel)
theorem ac_byte : Cond.arrayClass .byte ∈ lw_tbl := List.mem_of_getElem? (i := 104) (by decide +kernel)
theorem ac_long : Cond.arrayClass .long ∈ lw_tbl := List.mem_of_getElem? (i := 366) (by decide +kernel)
theorem oi_X10_3 : Cond.methodLink RX10 3 objectInit ∈ lw_tbl := List.mem_of_getElem? (i := 88) (by decide +kernel)
theorem oi_X6_3 : Cond.methodLink RX6 3 objectInit ∈ lw_tbl := List.mem_of_getElem? (i := 96) (by decide +kernel)
theorem oi_X3_3 : Cond.methodLink RX3 3 objectInit ∈ lw_tbl := List.mem_of_getElem? (i := 111) (by decide +kernel)
theorem oi_X5_3 : Cond.methodLink RX5 3 objectInit ∈ lw_tbl := List.mem_of_getElem? (i := 117) (by decide +kernel)
theorem oi_X4_3 : Cond.methodLink RX4 3 objectInit ∈ lw_tbl := List.mem_of_getElem? (i := 237) (by decide +kernel)
theorem oi_X2_3 : Cond.methodLink RX2 3 objectInit ∈ lw_tbl := List.mem_of_getElem? (i := 255) (by decide +kernel)
theorem oi_X0_3 : Cond.methodLink RX0 3 objectInit ∈ lw_tbl := List.mem_of_getElem? (i := 291) (by decide +kernel)
theorem oi_X1_3 : Cond.methodLink RX1 3 objectInit ∈ lw_tbl := List.mem_of_getElem? (i := 297) (by decide +kernel)
theorem oi_X9_3 : Cond.methodLink RX9 3 objectInit ∈ lw_tbl := List.mem_of_getElem? (i := 330) (by decide +kernel)
theorem oi_X7_3 : Cond.methodLink RX7 3 objectInit ∈ lw_tbl := List.mem_of_getElem? (i := 372) (by decide +kernel)
theorem oi_X8_3 : Cond.methodLink RX8 3 objectInit ∈ lw_tbl := List.mem_of_getElem? (i := 401) (by decide +kernel)
theorem oi_X11_1 : Cond.methodLink RX11 1 objectInit ∈ lw_tbl := List.mem_of_getElem? (i := 984) (by decide +kernel)
theorem oi_i : Cond.instanceMethod objectInit ∈ lw_tbl := List.mem_of_getElem? (i := 89) (by decide +kernel)
theorem oi_c : Cond.code objectInit ⟨#[0xb1]⟩ 1 none ∈ lw_tbl := List.mem_of_getElem? (i := 90) (by decide +kernel)
theorem ac_n : Cond.native arraycopyName ∈ lw_tbl ∧ Cond.static arraycopyName ∈ lw_tbl ∧ Cond.initialized "java/lang/System" ∈ lw_tbl := ⟨List.mem_of_getElem? (i := 716) (by decide +kernel), List.mem_of_getElem? (i := 715) (by decide +kernel), List.mem_of_getElem? (i := 80) (by decide +kernel)⟩
