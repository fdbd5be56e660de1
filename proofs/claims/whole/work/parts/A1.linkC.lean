def wL0 : List (Nat × Cond) := [(357, .methodLink RX0 3 Lib.objectInit), (358, .classLink RX0 9 RX10), (359, .instantiable RX10 6), (130, .initialized RX10), (360, .methodLink RX0 11 yX10_init), (361, .instanceMethod yX10_init), (388, .fieldLink RX0 12 "DrizzleVote$CoastText" "words" "LDrizzleVote$Words;"), (386, .classLink RX0 18 RX1), (161, .instantiable RX1 15), (124, .initialized RX1), (387, .methodLink RX0 20 yX1_init), (163, .instanceMethod yX1_init), (390, .fieldLink RX0 21 "DrizzleVote$CoastText" "draft" "LDrizzleVote$Council;"), (815, .methodLink RX0 25 yX1_takeAll), (768, .instanceMethod yX1_takeAll), (769, .selects RX1 yX1_takeAll yX1_takeAll), (816, .methodLink RX0 29 yX10_open), (817, .instanceMethod yX10_open), (818, .selects RX10 yX10_open yX10_open), (826, .methodLink RX0 33 yX10_atEnd), (827, .instanceMethod yX10_atEnd), (828, .selects RX10 yX10_atEnd yX10_atEnd), (830, .methodLink RX0 37 yX0_readLine), (832, .instanceMethod yX0_readLine)]
set_option maxRecDepth 100000 in
theorem wK0 : ∀ q ∈ wL0, lw_tbl[q.1]? = some q.2 ∧ goodWord q.2 = true := by decide +kernel
theorem w0 : .methodLink RX0 3 Lib.objectInit ∈ zTg := zin_of (wK0 _ (List.mem_of_getElem? (i := 0) (show wL0[0]? = some (357, .methodLink RX0 3 Lib.objectInit) from rfl)))
theorem w1 : .classLink RX0 9 RX10 ∈ zTg := zin_of (wK0 _ (List.mem_of_getElem? (i := 1) (show wL0[1]? = some (358, .classLink RX0 9 RX10) from rfl)))
theorem w2 : .instantiable RX10 6 ∈ zTg := zin_of (wK0 _ (List.mem_of_getElem? (i := 2) (show wL0[2]? = some (359, .instantiable RX10 6) from rfl)))
theorem w3 : .initialized RX10 ∈ zTg := zin_of (wK0 _ (List.mem_of_getElem? (i := 3) (show wL0[3]? = some (130, .initialized RX10) from rfl)))
theorem w4 : .methodLink RX0 11 yX10_init ∈ zTg := zin_of (wK0 _ (List.mem_of_getElem? (i := 4) (show wL0[4]? = some (360, .methodLink RX0 11 yX10_init) from rfl)))
theorem w5 : .instanceMethod yX10_init ∈ zTg := zin_of (wK0 _ (List.mem_of_getElem? (i := 5) (show wL0[5]? = some (361, .instanceMethod yX10_init) from rfl)))
theorem w6 : .fieldLink RX0 12 "DrizzleVote$CoastText" "words" "LDrizzleVote$Words;" ∈ zTg := zin_of (wK0 _ (List.mem_of_getElem? (i := 6) (show wL0[6]? = some (388, .fieldLink RX0 12 "DrizzleVote$CoastText" "words" "LDrizzleVote$Words;") from rfl)))
theorem w7 : .classLink RX0 18 RX1 ∈ zTg := zin_of (wK0 _ (List.mem_of_getElem? (i := 7) (show wL0[7]? = some (386, .classLink RX0 18 RX1) from rfl)))
theorem w8 : .instantiable RX1 15 ∈ zTg := zin_of (wK0 _ (List.mem_of_getElem? (i := 8) (show wL0[8]? = some (161, .instantiable RX1 15) from rfl)))
theorem w9 : .initialized RX1 ∈ zTg := zin_of (wK0 _ (List.mem_of_getElem? (i := 9) (show wL0[9]? = some (124, .initialized RX1) from rfl)))
theorem w10 : .methodLink RX0 20 yX1_init ∈ zTg := zin_of (wK0 _ (List.mem_of_getElem? (i := 10) (show wL0[10]? = some (387, .methodLink RX0 20 yX1_init) from rfl)))
theorem w11 : .instanceMethod yX1_init ∈ zTg := zin_of (wK0 _ (List.mem_of_getElem? (i := 11) (show wL0[11]? = some (163, .instanceMethod yX1_init) from rfl)))
theorem w12 : .fieldLink RX0 21 "DrizzleVote$CoastText" "draft" "LDrizzleVote$Council;" ∈ zTg := zin_of (wK0 _ (List.mem_of_getElem? (i := 12) (show wL0[12]? = some (390, .fieldLink RX0 21 "DrizzleVote$CoastText" "draft" "LDrizzleVote$Council;") from rfl)))
theorem w13 : .methodLink RX0 25 yX1_takeAll ∈ zTg := zin_of (wK0 _ (List.mem_of_getElem? (i := 13) (show wL0[13]? = some (815, .methodLink RX0 25 yX1_takeAll) from rfl)))
theorem w14 : .instanceMethod yX1_takeAll ∈ zTg := zin_of (wK0 _ (List.mem_of_getElem? (i := 14) (show wL0[14]? = some (768, .instanceMethod yX1_takeAll) from rfl)))
theorem w15 : .selects RX1 yX1_takeAll yX1_takeAll ∈ zTg := zin_of (wK0 _ (List.mem_of_getElem? (i := 15) (show wL0[15]? = some (769, .selects RX1 yX1_takeAll yX1_takeAll) from rfl)))
theorem w16 : .methodLink RX0 29 yX10_open ∈ zTg := zin_of (wK0 _ (List.mem_of_getElem? (i := 16) (show wL0[16]? = some (816, .methodLink RX0 29 yX10_open) from rfl)))
theorem w17 : .instanceMethod yX10_open ∈ zTg := zin_of (wK0 _ (List.mem_of_getElem? (i := 17) (show wL0[17]? = some (817, .instanceMethod yX10_open) from rfl)))
theorem w18 : .selects RX10 yX10_open yX10_open ∈ zTg := zin_of (wK0 _ (List.mem_of_getElem? (i := 18) (show wL0[18]? = some (818, .selects RX10 yX10_open yX10_open) from rfl)))
theorem w19 : .methodLink RX0 33 yX10_atEnd ∈ zTg := zin_of (wK0 _ (List.mem_of_getElem? (i := 19) (show wL0[19]? = some (826, .methodLink RX0 33 yX10_atEnd) from rfl)))
theorem w20 : .instanceMethod yX10_atEnd ∈ zTg := zin_of (wK0 _ (List.mem_of_getElem? (i := 20) (show wL0[20]? = some (827, .instanceMethod yX10_atEnd) from rfl)))
theorem w21 : .selects RX10 yX10_atEnd yX10_atEnd ∈ zTg := zin_of (wK0 _ (List.mem_of_getElem? (i := 21) (show wL0[21]? = some (828, .selects RX10 yX10_atEnd yX10_atEnd) from rfl)))
theorem w22 : .methodLink RX0 37 yX0_readLine ∈ zTg := zin_of (wK0 _ (List.mem_of_getElem? (i := 22) (show wL0[22]? = some (830, .methodLink RX0 37 yX0_readLine) from rfl)))
theorem w23 : .instanceMethod yX0_readLine ∈ zTg := zin_of (wK0 _ (List.mem_of_getElem? (i := 23) (show wL0[23]? = some (832, .instanceMethod yX0_readLine) from rfl)))
def wL1 : List (Nat × Cond) := [(7, .selects RX0 yX0_readLine yX0_readLine), (987, .methodLink RX0 40 yX10_needSign), (988, .instanceMethod yX10_needSign), (989, .selects RX10 yX10_needSign yX10_needSign), (921, .methodLink RX0 44 yX10_fail), (903, .instanceMethod yX10_fail), (904, .selects RX10 yX10_fail yX10_fail), (835, .methodLink RX0 49 yX10_atWord), (836, .instanceMethod yX10_atWord), (837, .selects RX10 yX10_atWord yX10_atWord), (279, .fieldLink RX0 53 "DrizzleVote$Council" "members" "I"), (887, .methodLink RX0 57 yX0_readMember), (889, .instanceMethod yX0_readMember), (8, .selects RX0 yX0_readMember yX0_readMember), (315, .fieldLink RX0 62 "DrizzleVote$Council" "motions" "LDrizzleVote$Motions;"), (223, .fieldLink RX0 66 "DrizzleVote$Motions" "size" "I"), (923, .methodLink RX0 71 yX0_readMotion), (925, .instanceMethod yX0_readMotion), (9, .selects RX0 yX0_readMotion yX0_readMotion), (911, .methodLink RX0 76 yX10_takeWord), (898, .instanceMethod yX10_takeWord), (899, .selects RX10 yX10_takeWord yX10_takeWord), (949, .methodLink RX0 79 yX0_readSky), (951, .instanceMethod yX0_readSky)]
set_option maxRecDepth 100000 in
theorem wK1 : ∀ q ∈ wL1, lw_tbl[q.1]? = some q.2 ∧ goodWord q.2 = true := by decide +kernel
theorem w24 : .selects RX0 yX0_readLine yX0_readLine ∈ zTg := zin_of (wK1 _ (List.mem_of_getElem? (i := 0) (show wL1[0]? = some (7, .selects RX0 yX0_readLine yX0_readLine) from rfl)))
theorem w25 : .methodLink RX0 40 yX10_needSign ∈ zTg := zin_of (wK1 _ (List.mem_of_getElem? (i := 1) (show wL1[1]? = some (987, .methodLink RX0 40 yX10_needSign) from rfl)))
theorem w26 : .instanceMethod yX10_needSign ∈ zTg := zin_of (wK1 _ (List.mem_of_getElem? (i := 2) (show wL1[2]? = some (988, .instanceMethod yX10_needSign) from rfl)))
theorem w27 : .selects RX10 yX10_needSign yX10_needSign ∈ zTg := zin_of (wK1 _ (List.mem_of_getElem? (i := 3) (show wL1[3]? = some (989, .selects RX10 yX10_needSign yX10_needSign) from rfl)))
theorem w28 : .methodLink RX0 44 yX10_fail ∈ zTg := zin_of (wK1 _ (List.mem_of_getElem? (i := 4) (show wL1[4]? = some (921, .methodLink RX0 44 yX10_fail) from rfl)))
theorem w29 : .instanceMethod yX10_fail ∈ zTg := zin_of (wK1 _ (List.mem_of_getElem? (i := 5) (show wL1[5]? = some (903, .instanceMethod yX10_fail) from rfl)))
theorem w30 : .selects RX10 yX10_fail yX10_fail ∈ zTg := zin_of (wK1 _ (List.mem_of_getElem? (i := 6) (show wL1[6]? = some (904, .selects RX10 yX10_fail yX10_fail) from rfl)))
theorem w31 : .methodLink RX0 49 yX10_atWord ∈ zTg := zin_of (wK1 _ (List.mem_of_getElem? (i := 7) (show wL1[7]? = some (835, .methodLink RX0 49 yX10_atWord) from rfl)))
theorem w32 : .instanceMethod yX10_atWord ∈ zTg := zin_of (wK1 _ (List.mem_of_getElem? (i := 8) (show wL1[8]? = some (836, .instanceMethod yX10_atWord) from rfl)))
theorem w33 : .selects RX10 yX10_atWord yX10_atWord ∈ zTg := zin_of (wK1 _ (List.mem_of_getElem? (i := 9) (show wL1[9]? = some (837, .selects RX10 yX10_atWord yX10_atWord) from rfl)))
theorem w34 : .fieldLink RX0 53 "DrizzleVote$Council" "members" "I" ∈ zTg := zin_of (wK1 _ (List.mem_of_getElem? (i := 10) (show wL1[10]? = some (279, .fieldLink RX0 53 "DrizzleVote$Council" "members" "I") from rfl)))
theorem w35 : .methodLink RX0 57 yX0_readMember ∈ zTg := zin_of (wK1 _ (List.mem_of_getElem? (i := 11) (show wL1[11]? = some (887, .methodLink RX0 57 yX0_readMember) from rfl)))
theorem w36 : .instanceMethod yX0_readMember ∈ zTg := zin_of (wK1 _ (List.mem_of_getElem? (i := 12) (show wL1[12]? = some (889, .instanceMethod yX0_readMember) from rfl)))
theorem w37 : .selects RX0 yX0_readMember yX0_readMember ∈ zTg := zin_of (wK1 _ (List.mem_of_getElem? (i := 13) (show wL1[13]? = some (8, .selects RX0 yX0_readMember yX0_readMember) from rfl)))
theorem w38 : .fieldLink RX0 62 "DrizzleVote$Council" "motions" "LDrizzleVote$Motions;" ∈ zTg := zin_of (wK1 _ (List.mem_of_getElem? (i := 14) (show wL1[14]? = some (315, .fieldLink RX0 62 "DrizzleVote$Council" "motions" "LDrizzleVote$Motions;") from rfl)))
theorem w39 : .fieldLink RX0 66 "DrizzleVote$Motions" "size" "I" ∈ zTg := zin_of (wK1 _ (List.mem_of_getElem? (i := 15) (show wL1[15]? = some (223, .fieldLink RX0 66 "DrizzleVote$Motions" "size" "I") from rfl)))
theorem w40 : .methodLink RX0 71 yX0_readMotion ∈ zTg := zin_of (wK1 _ (List.mem_of_getElem? (i := 16) (show wL1[16]? = some (923, .methodLink RX0 71 yX0_readMotion) from rfl)))
theorem w41 : .instanceMethod yX0_readMotion ∈ zTg := zin_of (wK1 _ (List.mem_of_getElem? (i := 17) (show wL1[17]? = some (925, .instanceMethod yX0_readMotion) from rfl)))
theorem w42 : .selects RX0 yX0_readMotion yX0_readMotion ∈ zTg := zin_of (wK1 _ (List.mem_of_getElem? (i := 18) (show wL1[18]? = some (9, .selects RX0 yX0_readMotion yX0_readMotion) from rfl)))
theorem w43 : .methodLink RX0 76 yX10_takeWord ∈ zTg := zin_of (wK1 _ (List.mem_of_getElem? (i := 19) (show wL1[19]? = some (911, .methodLink RX0 76 yX10_takeWord) from rfl)))
theorem w44 : .instanceMethod yX10_takeWord ∈ zTg := zin_of (wK1 _ (List.mem_of_getElem? (i := 20) (show wL1[20]? = some (898, .instanceMethod yX10_takeWord) from rfl)))
theorem w45 : .selects RX10 yX10_takeWord yX10_takeWord ∈ zTg := zin_of (wK1 _ (List.mem_of_getElem? (i := 21) (show wL1[21]? = some (899, .selects RX10 yX10_takeWord yX10_takeWord) from rfl)))
theorem w46 : .methodLink RX0 79 yX0_readSky ∈ zTg := zin_of (wK1 _ (List.mem_of_getElem? (i := 22) (show wL1[22]? = some (949, .methodLink RX0 79 yX0_readSky) from rfl)))
theorem w47 : .instanceMethod yX0_readSky ∈ zTg := zin_of (wK1 _ (List.mem_of_getElem? (i := 23) (show wL1[23]? = some (951, .instanceMethod yX0_readSky) from rfl)))
def wL2 : List (Nat × Cond) := [(11, .selects RX0 yX0_readSky yX0_readSky), (311, .fieldLink RX0 84 "DrizzleVote$Council" "weather" "LDrizzleVote$Weather;"), (953, .methodLink RX0 88 yX0_takeSky), (955, .instanceMethod yX0_takeSky), (12, .selects RX0 yX0_takeSky yX0_takeSky), (177, .fieldLink RX0 92 "DrizzleVote$Weather" "sky" "I"), (964, .methodLink RX0 98 yX0_readPlace), (966, .instanceMethod yX0_readPlace), (13, .selects RX0 yX0_readPlace yX0_readPlace), (970, .methodLink RX0 103 yX0_readPaper), (972, .instanceMethod yX0_readPaper), (14, .selects RX0 yX0_readPaper yX0_readPaper), (978, .methodLink RX0 106 yX0_readSetting), (980, .instanceMethod yX0_readSetting), (15, .selects RX0 yX0_readSetting yX0_readSetting), (906, .methodLink RX0 111 yX10_takeNumber), (907, .instanceMethod yX10_takeNumber), (908, .selects RX10 yX10_takeNumber yX10_takeNumber), (298, .fieldLink RX0 115 "DrizzleVote$Council" "quorum" "I"), (301, .fieldLink RX0 119 "DrizzleVote$Council" "aye" "I"), (305, .fieldLink RX0 123 "DrizzleVote$Council" "wetSeats" "I"), (182, .fieldLink RX0 128 "DrizzleVote$Weather" "hour" "I"), (186, .fieldLink RX0 132 "DrizzleVote$Weather" "day" "I"), (891, .methodLink RX0 134 yX10_advance)]
set_option maxRecDepth 100000 in
theorem wK2 : ∀ q ∈ wL2, lw_tbl[q.1]? = some q.2 ∧ goodWord q.2 = true := by decide +kernel
theorem w48 : .selects RX0 yX0_readSky yX0_readSky ∈ zTg := zin_of (wK2 _ (List.mem_of_getElem? (i := 0) (show wL2[0]? = some (11, .selects RX0 yX0_readSky yX0_readSky) from rfl)))
theorem w49 : .fieldLink RX0 84 "DrizzleVote$Council" "weather" "LDrizzleVote$Weather;" ∈ zTg := zin_of (wK2 _ (List.mem_of_getElem? (i := 1) (show wL2[1]? = some (311, .fieldLink RX0 84 "DrizzleVote$Council" "weather" "LDrizzleVote$Weather;") from rfl)))
theorem w50 : .methodLink RX0 88 yX0_takeSky ∈ zTg := zin_of (wK2 _ (List.mem_of_getElem? (i := 2) (show wL2[2]? = some (953, .methodLink RX0 88 yX0_takeSky) from rfl)))
theorem w51 : .instanceMethod yX0_takeSky ∈ zTg := zin_of (wK2 _ (List.mem_of_getElem? (i := 3) (show wL2[3]? = some (955, .instanceMethod yX0_takeSky) from rfl)))
theorem w52 : .selects RX0 yX0_takeSky yX0_takeSky ∈ zTg := zin_of (wK2 _ (List.mem_of_getElem? (i := 4) (show wL2[4]? = some (12, .selects RX0 yX0_takeSky yX0_takeSky) from rfl)))
theorem w53 : .fieldLink RX0 92 "DrizzleVote$Weather" "sky" "I" ∈ zTg := zin_of (wK2 _ (List.mem_of_getElem? (i := 5) (show wL2[5]? = some (177, .fieldLink RX0 92 "DrizzleVote$Weather" "sky" "I") from rfl)))
theorem w54 : .methodLink RX0 98 yX0_readPlace ∈ zTg := zin_of (wK2 _ (List.mem_of_getElem? (i := 6) (show wL2[6]? = some (964, .methodLink RX0 98 yX0_readPlace) from rfl)))
theorem w55 : .instanceMethod yX0_readPlace ∈ zTg := zin_of (wK2 _ (List.mem_of_getElem? (i := 7) (show wL2[7]? = some (966, .instanceMethod yX0_readPlace) from rfl)))
theorem w56 : .selects RX0 yX0_readPlace yX0_readPlace ∈ zTg := zin_of (wK2 _ (List.mem_of_getElem? (i := 8) (show wL2[8]? = some (13, .selects RX0 yX0_readPlace yX0_readPlace) from rfl)))
theorem w57 : .methodLink RX0 103 yX0_readPaper ∈ zTg := zin_of (wK2 _ (List.mem_of_getElem? (i := 9) (show wL2[9]? = some (970, .methodLink RX0 103 yX0_readPaper) from rfl)))
theorem w58 : .instanceMethod yX0_readPaper ∈ zTg := zin_of (wK2 _ (List.mem_of_getElem? (i := 10) (show wL2[10]? = some (972, .instanceMethod yX0_readPaper) from rfl)))
theorem w59 : .selects RX0 yX0_readPaper yX0_readPaper ∈ zTg := zin_of (wK2 _ (List.mem_of_getElem? (i := 11) (show wL2[11]? = some (14, .selects RX0 yX0_readPaper yX0_readPaper) from rfl)))
theorem w60 : .methodLink RX0 106 yX0_readSetting ∈ zTg := zin_of (wK2 _ (List.mem_of_getElem? (i := 12) (show wL2[12]? = some (978, .methodLink RX0 106 yX0_readSetting) from rfl)))
theorem w61 : .instanceMethod yX0_readSetting ∈ zTg := zin_of (wK2 _ (List.mem_of_getElem? (i := 13) (show wL2[13]? = some (980, .instanceMethod yX0_readSetting) from rfl)))
theorem w62 : .selects RX0 yX0_readSetting yX0_readSetting ∈ zTg := zin_of (wK2 _ (List.mem_of_getElem? (i := 14) (show wL2[14]? = some (15, .selects RX0 yX0_readSetting yX0_readSetting) from rfl)))
theorem w63 : .methodLink RX0 111 yX10_takeNumber ∈ zTg := zin_of (wK2 _ (List.mem_of_getElem? (i := 15) (show wL2[15]? = some (906, .methodLink RX0 111 yX10_takeNumber) from rfl)))
theorem w64 : .instanceMethod yX10_takeNumber ∈ zTg := zin_of (wK2 _ (List.mem_of_getElem? (i := 16) (show wL2[16]? = some (907, .instanceMethod yX10_takeNumber) from rfl)))
theorem w65 : .selects RX10 yX10_takeNumber yX10_takeNumber ∈ zTg := zin_of (wK2 _ (List.mem_of_getElem? (i := 17) (show wL2[17]? = some (908, .selects RX10 yX10_takeNumber yX10_takeNumber) from rfl)))
theorem w66 : .fieldLink RX0 115 "DrizzleVote$Council" "quorum" "I" ∈ zTg := zin_of (wK2 _ (List.mem_of_getElem? (i := 18) (show wL2[18]? = some (298, .fieldLink RX0 115 "DrizzleVote$Council" "quorum" "I") from rfl)))
theorem w67 : .fieldLink RX0 119 "DrizzleVote$Council" "aye" "I" ∈ zTg := zin_of (wK2 _ (List.mem_of_getElem? (i := 19) (show wL2[19]? = some (301, .fieldLink RX0 119 "DrizzleVote$Council" "aye" "I") from rfl)))
theorem w68 : .fieldLink RX0 123 "DrizzleVote$Council" "wetSeats" "I" ∈ zTg := zin_of (wK2 _ (List.mem_of_getElem? (i := 20) (show wL2[20]? = some (305, .fieldLink RX0 123 "DrizzleVote$Council" "wetSeats" "I") from rfl)))
theorem w69 : .fieldLink RX0 128 "DrizzleVote$Weather" "hour" "I" ∈ zTg := zin_of (wK2 _ (List.mem_of_getElem? (i := 21) (show wL2[21]? = some (182, .fieldLink RX0 128 "DrizzleVote$Weather" "hour" "I") from rfl)))
theorem w70 : .fieldLink RX0 132 "DrizzleVote$Weather" "day" "I" ∈ zTg := zin_of (wK2 _ (List.mem_of_getElem? (i := 22) (show wL2[22]? = some (186, .fieldLink RX0 132 "DrizzleVote$Weather" "day" "I") from rfl)))
theorem w71 : .methodLink RX0 134 yX10_advance ∈ zTg := zin_of (wK2 _ (List.mem_of_getElem? (i := 23) (show wL2[23]? = some (891, .methodLink RX0 134 yX10_advance) from rfl)))
def wL3 : List (Nat × Cond) := [(823, .instanceMethod yX10_advance), (824, .selects RX10 yX10_advance yX10_advance), (893, .methodLink RX0 139 yX10_needWord), (894, .instanceMethod yX10_needWord), (895, .selects RX10 yX10_needWord yX10_needWord), (914, .methodLink RX0 148 yX1_addMember), (915, .instanceMethod yX1_addMember), (916, .selects RX1 yX1_addMember yX1_addMember), (931, .methodLink RX0 160 yX10_atFigures), (932, .instanceMethod yX10_atFigures), (933, .selects RX10 yX10_atFigures yX10_atFigures), (939, .methodLink RX0 164 yX0_takeSet), (941, .instanceMethod yX0_takeSet), (10, .selects RX0 yX0_takeSet yX0_takeSet), (944, .methodLink RX0 167 yX6_add), (945, .instanceMethod yX6_add), (946, .selects RX6 yX6_add yX6_add), (943, .methodLink RX0 171 yX10_figure), (936, .instanceMethod yX10_figure), (937, .selects RX10 yX10_figure yX10_figure), (192, .fieldLink RX0 185 "DrizzleVote$Weather" "weights" "[I"), (295, .fieldLink RX0 191 "DrizzleVote$Council" "exposures" "[I"), (974, .methodLink RX0 197 yX6_hourOf), (975, .instanceMethod yX6_hourOf)]
set_option maxRecDepth 100000 in
theorem wK3 : ∀ q ∈ wL3, lw_tbl[q.1]? = some q.2 ∧ goodWord q.2 = true := by decide +kernel
theorem w72 : .instanceMethod yX10_advance ∈ zTg := zin_of (wK3 _ (List.mem_of_getElem? (i := 0) (show wL3[0]? = some (823, .instanceMethod yX10_advance) from rfl)))
theorem w73 : .selects RX10 yX10_advance yX10_advance ∈ zTg := zin_of (wK3 _ (List.mem_of_getElem? (i := 1) (show wL3[1]? = some (824, .selects RX10 yX10_advance yX10_advance) from rfl)))
theorem w74 : .methodLink RX0 139 yX10_needWord ∈ zTg := zin_of (wK3 _ (List.mem_of_getElem? (i := 2) (show wL3[2]? = some (893, .methodLink RX0 139 yX10_needWord) from rfl)))
theorem w75 : .instanceMethod yX10_needWord ∈ zTg := zin_of (wK3 _ (List.mem_of_getElem? (i := 3) (show wL3[3]? = some (894, .instanceMethod yX10_needWord) from rfl)))
theorem w76 : .selects RX10 yX10_needWord yX10_needWord ∈ zTg := zin_of (wK3 _ (List.mem_of_getElem? (i := 4) (show wL3[4]? = some (895, .selects RX10 yX10_needWord yX10_needWord) from rfl)))
theorem w77 : .methodLink RX0 148 yX1_addMember ∈ zTg := zin_of (wK3 _ (List.mem_of_getElem? (i := 5) (show wL3[5]? = some (914, .methodLink RX0 148 yX1_addMember) from rfl)))
theorem w78 : .instanceMethod yX1_addMember ∈ zTg := zin_of (wK3 _ (List.mem_of_getElem? (i := 6) (show wL3[6]? = some (915, .instanceMethod yX1_addMember) from rfl)))
theorem w79 : .selects RX1 yX1_addMember yX1_addMember ∈ zTg := zin_of (wK3 _ (List.mem_of_getElem? (i := 7) (show wL3[7]? = some (916, .selects RX1 yX1_addMember yX1_addMember) from rfl)))
theorem w80 : .methodLink RX0 160 yX10_atFigures ∈ zTg := zin_of (wK3 _ (List.mem_of_getElem? (i := 8) (show wL3[8]? = some (931, .methodLink RX0 160 yX10_atFigures) from rfl)))
theorem w81 : .instanceMethod yX10_atFigures ∈ zTg := zin_of (wK3 _ (List.mem_of_getElem? (i := 9) (show wL3[9]? = some (932, .instanceMethod yX10_atFigures) from rfl)))
theorem w82 : .selects RX10 yX10_atFigures yX10_atFigures ∈ zTg := zin_of (wK3 _ (List.mem_of_getElem? (i := 10) (show wL3[10]? = some (933, .selects RX10 yX10_atFigures yX10_atFigures) from rfl)))
theorem w83 : .methodLink RX0 164 yX0_takeSet ∈ zTg := zin_of (wK3 _ (List.mem_of_getElem? (i := 11) (show wL3[11]? = some (939, .methodLink RX0 164 yX0_takeSet) from rfl)))
theorem w84 : .instanceMethod yX0_takeSet ∈ zTg := zin_of (wK3 _ (List.mem_of_getElem? (i := 12) (show wL3[12]? = some (941, .instanceMethod yX0_takeSet) from rfl)))
theorem w85 : .selects RX0 yX0_takeSet yX0_takeSet ∈ zTg := zin_of (wK3 _ (List.mem_of_getElem? (i := 13) (show wL3[13]? = some (10, .selects RX0 yX0_takeSet yX0_takeSet) from rfl)))
theorem w86 : .methodLink RX0 167 yX6_add ∈ zTg := zin_of (wK3 _ (List.mem_of_getElem? (i := 14) (show wL3[14]? = some (944, .methodLink RX0 167 yX6_add) from rfl)))
theorem w87 : .instanceMethod yX6_add ∈ zTg := zin_of (wK3 _ (List.mem_of_getElem? (i := 15) (show wL3[15]? = some (945, .instanceMethod yX6_add) from rfl)))
theorem w88 : .selects RX6 yX6_add yX6_add ∈ zTg := zin_of (wK3 _ (List.mem_of_getElem? (i := 16) (show wL3[16]? = some (946, .selects RX6 yX6_add yX6_add) from rfl)))
theorem w89 : .methodLink RX0 171 yX10_figure ∈ zTg := zin_of (wK3 _ (List.mem_of_getElem? (i := 17) (show wL3[17]? = some (943, .methodLink RX0 171 yX10_figure) from rfl)))
theorem w90 : .instanceMethod yX10_figure ∈ zTg := zin_of (wK3 _ (List.mem_of_getElem? (i := 18) (show wL3[18]? = some (936, .instanceMethod yX10_figure) from rfl)))
theorem w91 : .selects RX10 yX10_figure yX10_figure ∈ zTg := zin_of (wK3 _ (List.mem_of_getElem? (i := 19) (show wL3[19]? = some (937, .selects RX10 yX10_figure yX10_figure) from rfl)))
theorem w92 : .fieldLink RX0 185 "DrizzleVote$Weather" "weights" "[I" ∈ zTg := zin_of (wK3 _ (List.mem_of_getElem? (i := 20) (show wL3[20]? = some (192, .fieldLink RX0 185 "DrizzleVote$Weather" "weights" "[I") from rfl)))
theorem w93 : .fieldLink RX0 191 "DrizzleVote$Council" "exposures" "[I" ∈ zTg := zin_of (wK3 _ (List.mem_of_getElem? (i := 21) (show wL3[21]? = some (295, .fieldLink RX0 191 "DrizzleVote$Council" "exposures" "[I") from rfl)))
theorem w94 : .methodLink RX0 197 yX6_hourOf ∈ zTg := zin_of (wK3 _ (List.mem_of_getElem? (i := 22) (show wL3[22]? = some (974, .methodLink RX0 197 yX6_hourOf) from rfl)))
theorem w95 : .instanceMethod yX6_hourOf ∈ zTg := zin_of (wK3 _ (List.mem_of_getElem? (i := 23) (show wL3[23]? = some (975, .instanceMethod yX6_hourOf) from rfl)))
def wL4 : List (Nat × Cond) := [(976, .selects RX6 yX6_hourOf yX6_hourOf), (366, .fieldLink RX0 200 "DrizzleVote$Words" "wrong" "I"), (242, .fieldLink RX0 203 "DrizzleVote$Motions" "paper" "[I"), (165, .methodLink RX1 3 Lib.objectInit), (282, .fieldLink RX1 9 "DrizzleVote$Council" "places" "[I"), (284, .fieldLink RX1 15 "DrizzleVote$Council" "seats" "[I"), (293, .fieldLink RX1 18 "DrizzleVote$Council" "exposures" "[I"), (167, .static yJ7_fill_53178), (166, .methodLink RX1 21 yJ7_fill_53178), (297, .fieldLink RX1 27 "DrizzleVote$Council" "quorum" "I"), (300, .fieldLink RX1 31 "DrizzleVote$Council" "aye" "I"), (303, .fieldLink RX1 34 "DrizzleVote$Council" "wetSeats" "I"), (169, .classLink RX1 37 RX9), (170, .instantiable RX9 7), (126, .initialized RX9), (171, .methodLink RX1 39 yX9_init), (172, .instanceMethod yX9_init), (309, .fieldLink RX1 40 "DrizzleVote$Council" "weather" "LDrizzleVote$Weather;"), (214, .classLink RX1 44 RX6), (215, .instantiable RX6 7), (127, .initialized RX6), (216, .methodLink RX1 46 yX6_init), (217, .instanceMethod yX6_init), (313, .fieldLink RX1 47 "DrizzleVote$Council" "motions" "LDrizzleVote$Motions;")]
set_option maxRecDepth 100000 in
theorem wK4 : ∀ q ∈ wL4, lw_tbl[q.1]? = some q.2 ∧ goodWord q.2 = true := by decide +kernel
theorem w96 : .selects RX6 yX6_hourOf yX6_hourOf ∈ zTg := zin_of (wK4 _ (List.mem_of_getElem? (i := 0) (show wL4[0]? = some (976, .selects RX6 yX6_hourOf yX6_hourOf) from rfl)))
theorem w97 : .fieldLink RX0 200 "DrizzleVote$Words" "wrong" "I" ∈ zTg := zin_of (wK4 _ (List.mem_of_getElem? (i := 1) (show wL4[1]? = some (366, .fieldLink RX0 200 "DrizzleVote$Words" "wrong" "I") from rfl)))
theorem w98 : .fieldLink RX0 203 "DrizzleVote$Motions" "paper" "[I" ∈ zTg := zin_of (wK4 _ (List.mem_of_getElem? (i := 2) (show wL4[2]? = some (242, .fieldLink RX0 203 "DrizzleVote$Motions" "paper" "[I") from rfl)))
theorem w99 : .methodLink RX1 3 Lib.objectInit ∈ zTg := zin_of (wK4 _ (List.mem_of_getElem? (i := 3) (show wL4[3]? = some (165, .methodLink RX1 3 Lib.objectInit) from rfl)))
theorem w100 : .fieldLink RX1 9 "DrizzleVote$Council" "places" "[I" ∈ zTg := zin_of (wK4 _ (List.mem_of_getElem? (i := 4) (show wL4[4]? = some (282, .fieldLink RX1 9 "DrizzleVote$Council" "places" "[I") from rfl)))
theorem w101 : .fieldLink RX1 15 "DrizzleVote$Council" "seats" "[I" ∈ zTg := zin_of (wK4 _ (List.mem_of_getElem? (i := 5) (show wL4[5]? = some (284, .fieldLink RX1 15 "DrizzleVote$Council" "seats" "[I") from rfl)))
theorem w102 : .fieldLink RX1 18 "DrizzleVote$Council" "exposures" "[I" ∈ zTg := zin_of (wK4 _ (List.mem_of_getElem? (i := 6) (show wL4[6]? = some (293, .fieldLink RX1 18 "DrizzleVote$Council" "exposures" "[I") from rfl)))
theorem w103 : .static yJ7_fill_53178 ∈ zTg := zin_of (wK4 _ (List.mem_of_getElem? (i := 7) (show wL4[7]? = some (167, .static yJ7_fill_53178) from rfl)))
theorem w104 : .methodLink RX1 21 yJ7_fill_53178 ∈ zTg := zin_of (wK4 _ (List.mem_of_getElem? (i := 8) (show wL4[8]? = some (166, .methodLink RX1 21 yJ7_fill_53178) from rfl)))
theorem w105 : .fieldLink RX1 27 "DrizzleVote$Council" "quorum" "I" ∈ zTg := zin_of (wK4 _ (List.mem_of_getElem? (i := 9) (show wL4[9]? = some (297, .fieldLink RX1 27 "DrizzleVote$Council" "quorum" "I") from rfl)))
theorem w106 : .fieldLink RX1 31 "DrizzleVote$Council" "aye" "I" ∈ zTg := zin_of (wK4 _ (List.mem_of_getElem? (i := 10) (show wL4[10]? = some (300, .fieldLink RX1 31 "DrizzleVote$Council" "aye" "I") from rfl)))
theorem w107 : .fieldLink RX1 34 "DrizzleVote$Council" "wetSeats" "I" ∈ zTg := zin_of (wK4 _ (List.mem_of_getElem? (i := 11) (show wL4[11]? = some (303, .fieldLink RX1 34 "DrizzleVote$Council" "wetSeats" "I") from rfl)))
theorem w108 : .classLink RX1 37 RX9 ∈ zTg := zin_of (wK4 _ (List.mem_of_getElem? (i := 12) (show wL4[12]? = some (169, .classLink RX1 37 RX9) from rfl)))
theorem w109 : .instantiable RX9 7 ∈ zTg := zin_of (wK4 _ (List.mem_of_getElem? (i := 13) (show wL4[13]? = some (170, .instantiable RX9 7) from rfl)))
theorem w110 : .initialized RX9 ∈ zTg := zin_of (wK4 _ (List.mem_of_getElem? (i := 14) (show wL4[14]? = some (126, .initialized RX9) from rfl)))
theorem w111 : .methodLink RX1 39 yX9_init ∈ zTg := zin_of (wK4 _ (List.mem_of_getElem? (i := 15) (show wL4[15]? = some (171, .methodLink RX1 39 yX9_init) from rfl)))
theorem w112 : .instanceMethod yX9_init ∈ zTg := zin_of (wK4 _ (List.mem_of_getElem? (i := 16) (show wL4[16]? = some (172, .instanceMethod yX9_init) from rfl)))
theorem w113 : .fieldLink RX1 40 "DrizzleVote$Council" "weather" "LDrizzleVote$Weather;" ∈ zTg := zin_of (wK4 _ (List.mem_of_getElem? (i := 17) (show wL4[17]? = some (309, .fieldLink RX1 40 "DrizzleVote$Council" "weather" "LDrizzleVote$Weather;") from rfl)))
theorem w114 : .classLink RX1 44 RX6 ∈ zTg := zin_of (wK4 _ (List.mem_of_getElem? (i := 18) (show wL4[18]? = some (214, .classLink RX1 44 RX6) from rfl)))
theorem w115 : .instantiable RX6 7 ∈ zTg := zin_of (wK4 _ (List.mem_of_getElem? (i := 19) (show wL4[19]? = some (215, .instantiable RX6 7) from rfl)))
theorem w116 : .initialized RX6 ∈ zTg := zin_of (wK4 _ (List.mem_of_getElem? (i := 20) (show wL4[20]? = some (127, .initialized RX6) from rfl)))
theorem w117 : .methodLink RX1 46 yX6_init ∈ zTg := zin_of (wK4 _ (List.mem_of_getElem? (i := 21) (show wL4[21]? = some (216, .methodLink RX1 46 yX6_init) from rfl)))
theorem w118 : .instanceMethod yX6_init ∈ zTg := zin_of (wK4 _ (List.mem_of_getElem? (i := 22) (show wL4[22]? = some (217, .instanceMethod yX6_init) from rfl)))
theorem w119 : .fieldLink RX1 47 "DrizzleVote$Council" "motions" "LDrizzleVote$Motions;" ∈ zTg := zin_of (wK4 _ (List.mem_of_getElem? (i := 23) (show wL4[23]? = some (313, .fieldLink RX1 47 "DrizzleVote$Council" "motions" "LDrizzleVote$Motions;") from rfl)))
def wL5 : List (Nat × Cond) := [(260, .classLink RX1 51 RX5), (261, .instantiable RX5 2), (128, .initialized RX5), (262, .methodLink RX1 53 yX5_init), (263, .instanceMethod yX5_init), (317, .fieldLink RX1 54 "DrizzleVote$Council" "rows" "LDrizzleVote$Log;"), (319, .fieldLink RX1 60 "DrizzleVote$Council" "facts" "[I"), (274, .fieldLink RX1 63 "DrizzleVote$Council" "texts" "I"), (276, .fieldLink RX1 66 "DrizzleVote$Council" "members" "I"), (771, .methodLink RX1 69 arraycopyName), (740, .native arraycopyName), (739, .static arraycopyName), (137, .initialized "java/lang/System"), (288, .fieldLink RX1 75 "DrizzleVote$Council" "hats" "I"), (291, .fieldLink RX1 78 "DrizzleVote$Council" "outs" "I"), (307, .fieldLink RX1 81 "DrizzleVote$Council" "laws" "LDrizzleVote$Law;"), (772, .methodLink RX1 85 yX9_takeWeather), (773, .instanceMethod yX9_takeWeather), (774, .selects RX9 yX9_takeWeather yX9_takeWeather), (776, .methodLink RX1 89 yX6_takeMotions), (777, .instanceMethod yX6_takeMotions), (778, .selects RX6 yX6_takeMotions yX6_takeMotions), (781, .methodLink RX1 93 yX5_takeRows), (782, .instanceMethod yX5_takeRows)]
set_option maxRecDepth 100000 in
theorem wK5 : ∀ q ∈ wL5, lw_tbl[q.1]? = some q.2 ∧ goodWord q.2 = true := by decide +kernel
theorem w120 : .classLink RX1 51 RX5 ∈ zTg := zin_of (wK5 _ (List.mem_of_getElem? (i := 0) (show wL5[0]? = some (260, .classLink RX1 51 RX5) from rfl)))
theorem w121 : .instantiable RX5 2 ∈ zTg := zin_of (wK5 _ (List.mem_of_getElem? (i := 1) (show wL5[1]? = some (261, .instantiable RX5 2) from rfl)))
theorem w122 : .initialized RX5 ∈ zTg := zin_of (wK5 _ (List.mem_of_getElem? (i := 2) (show wL5[2]? = some (128, .initialized RX5) from rfl)))
theorem w123 : .methodLink RX1 53 yX5_init ∈ zTg := zin_of (wK5 _ (List.mem_of_getElem? (i := 3) (show wL5[3]? = some (262, .methodLink RX1 53 yX5_init) from rfl)))
theorem w124 : .instanceMethod yX5_init ∈ zTg := zin_of (wK5 _ (List.mem_of_getElem? (i := 4) (show wL5[4]? = some (263, .instanceMethod yX5_init) from rfl)))
theorem w125 : .fieldLink RX1 54 "DrizzleVote$Council" "rows" "LDrizzleVote$Log;" ∈ zTg := zin_of (wK5 _ (List.mem_of_getElem? (i := 5) (show wL5[5]? = some (317, .fieldLink RX1 54 "DrizzleVote$Council" "rows" "LDrizzleVote$Log;") from rfl)))
theorem w126 : .fieldLink RX1 60 "DrizzleVote$Council" "facts" "[I" ∈ zTg := zin_of (wK5 _ (List.mem_of_getElem? (i := 6) (show wL5[6]? = some (319, .fieldLink RX1 60 "DrizzleVote$Council" "facts" "[I") from rfl)))
theorem w127 : .fieldLink RX1 63 "DrizzleVote$Council" "texts" "I" ∈ zTg := zin_of (wK5 _ (List.mem_of_getElem? (i := 7) (show wL5[7]? = some (274, .fieldLink RX1 63 "DrizzleVote$Council" "texts" "I") from rfl)))
theorem w128 : .fieldLink RX1 66 "DrizzleVote$Council" "members" "I" ∈ zTg := zin_of (wK5 _ (List.mem_of_getElem? (i := 8) (show wL5[8]? = some (276, .fieldLink RX1 66 "DrizzleVote$Council" "members" "I") from rfl)))
theorem w129 : .methodLink RX1 69 arraycopyName ∈ zTg := zin_of (wK5 _ (List.mem_of_getElem? (i := 9) (show wL5[9]? = some (771, .methodLink RX1 69 arraycopyName) from rfl)))
theorem w130 : .native arraycopyName ∈ zTg := zin_of (wK5 _ (List.mem_of_getElem? (i := 10) (show wL5[10]? = some (740, .native arraycopyName) from rfl)))
theorem w131 : .static arraycopyName ∈ zTg := zin_of (wK5 _ (List.mem_of_getElem? (i := 11) (show wL5[11]? = some (739, .static arraycopyName) from rfl)))
theorem w132 : .initialized "java/lang/System" ∈ zTg := zin_of (wK5 _ (List.mem_of_getElem? (i := 12) (show wL5[12]? = some (137, .initialized "java/lang/System") from rfl)))
theorem w133 : .fieldLink RX1 75 "DrizzleVote$Council" "hats" "I" ∈ zTg := zin_of (wK5 _ (List.mem_of_getElem? (i := 13) (show wL5[13]? = some (288, .fieldLink RX1 75 "DrizzleVote$Council" "hats" "I") from rfl)))
theorem w134 : .fieldLink RX1 78 "DrizzleVote$Council" "outs" "I" ∈ zTg := zin_of (wK5 _ (List.mem_of_getElem? (i := 14) (show wL5[14]? = some (291, .fieldLink RX1 78 "DrizzleVote$Council" "outs" "I") from rfl)))
theorem w135 : .fieldLink RX1 81 "DrizzleVote$Council" "laws" "LDrizzleVote$Law;" ∈ zTg := zin_of (wK5 _ (List.mem_of_getElem? (i := 15) (show wL5[15]? = some (307, .fieldLink RX1 81 "DrizzleVote$Council" "laws" "LDrizzleVote$Law;") from rfl)))
theorem w136 : .methodLink RX1 85 yX9_takeWeather ∈ zTg := zin_of (wK5 _ (List.mem_of_getElem? (i := 16) (show wL5[16]? = some (772, .methodLink RX1 85 yX9_takeWeather) from rfl)))
theorem w137 : .instanceMethod yX9_takeWeather ∈ zTg := zin_of (wK5 _ (List.mem_of_getElem? (i := 17) (show wL5[17]? = some (773, .instanceMethod yX9_takeWeather) from rfl)))
theorem w138 : .selects RX9 yX9_takeWeather yX9_takeWeather ∈ zTg := zin_of (wK5 _ (List.mem_of_getElem? (i := 18) (show wL5[18]? = some (774, .selects RX9 yX9_takeWeather yX9_takeWeather) from rfl)))
theorem w139 : .methodLink RX1 89 yX6_takeMotions ∈ zTg := zin_of (wK5 _ (List.mem_of_getElem? (i := 19) (show wL5[19]? = some (776, .methodLink RX1 89 yX6_takeMotions) from rfl)))
theorem w140 : .instanceMethod yX6_takeMotions ∈ zTg := zin_of (wK5 _ (List.mem_of_getElem? (i := 20) (show wL5[20]? = some (777, .instanceMethod yX6_takeMotions) from rfl)))
theorem w141 : .selects RX6 yX6_takeMotions yX6_takeMotions ∈ zTg := zin_of (wK5 _ (List.mem_of_getElem? (i := 21) (show wL5[21]? = some (778, .selects RX6 yX6_takeMotions yX6_takeMotions) from rfl)))
theorem w142 : .methodLink RX1 93 yX5_takeRows ∈ zTg := zin_of (wK5 _ (List.mem_of_getElem? (i := 22) (show wL5[22]? = some (781, .methodLink RX1 93 yX5_takeRows) from rfl)))
theorem w143 : .instanceMethod yX5_takeRows ∈ zTg := zin_of (wK5 _ (List.mem_of_getElem? (i := 23) (show wL5[23]? = some (782, .instanceMethod yX5_takeRows) from rfl)))
def wL6 : List (Nat × Cond) := [(783, .selects RX5 yX5_takeRows yX5_takeRows), (919, .static yX11_withBit), (577, .static yX11_bitOf), (634, .methodLink RX1 105 yX1_seatsOf), (635, .instanceMethod yX1_seatsOf), (636, .selects RX1 yX1_seatsOf yX1_seatsOf), (599, .methodLink RX1 109 yX6_has), (600, .instanceMethod yX6_has), (601, .selects RX6 yX6_has yX6_has), (233, .fieldLink RX1 113 "DrizzleVote$Motions" "worths" "[I"), (227, .fieldLink RX1 116 "DrizzleVote$Motions" "movers" "[I"), (595, .methodLink RX1 119 yX1_fillFacts), (597, .instanceMethod yX1_fillFacts), (1, .selects RX1 yX1_fillFacts yX1_fillFacts), (603, .methodLink RX1 123 yX3_sumOf), (604, .instanceMethod yX3_sumOf), (605, .selects RX3 yX3_sumOf yX3_sumOf), (624, .methodLink RX1 127 yJ9_min_7cf53), (625, .static yJ9_min_7cf53), (138, .initialized RJ9), (626, .code yJ9_min_7cf53 cJ9_min_7cf53 2 (some .int)), (627, .methodLink RX1 132 yJ9_max_7cf53), (628, .static yJ9_max_7cf53), (629, .code yJ9_max_7cf53 cJ9_max_7cf53 2 (some .int))]
set_option maxRecDepth 100000 in
theorem wK6 : ∀ q ∈ wL6, lw_tbl[q.1]? = some q.2 ∧ goodWord q.2 = true := by decide +kernel
theorem w144 : .selects RX5 yX5_takeRows yX5_takeRows ∈ zTg := zin_of (wK6 _ (List.mem_of_getElem? (i := 0) (show wL6[0]? = some (783, .selects RX5 yX5_takeRows yX5_takeRows) from rfl)))
theorem w145 : .static yX11_withBit ∈ zTg := zin_of (wK6 _ (List.mem_of_getElem? (i := 1) (show wL6[1]? = some (919, .static yX11_withBit) from rfl)))
theorem w146 : .static yX11_bitOf ∈ zTg := zin_of (wK6 _ (List.mem_of_getElem? (i := 2) (show wL6[2]? = some (577, .static yX11_bitOf) from rfl)))
theorem w147 : .methodLink RX1 105 yX1_seatsOf ∈ zTg := zin_of (wK6 _ (List.mem_of_getElem? (i := 3) (show wL6[3]? = some (634, .methodLink RX1 105 yX1_seatsOf) from rfl)))
theorem w148 : .instanceMethod yX1_seatsOf ∈ zTg := zin_of (wK6 _ (List.mem_of_getElem? (i := 4) (show wL6[4]? = some (635, .instanceMethod yX1_seatsOf) from rfl)))
theorem w149 : .selects RX1 yX1_seatsOf yX1_seatsOf ∈ zTg := zin_of (wK6 _ (List.mem_of_getElem? (i := 5) (show wL6[5]? = some (636, .selects RX1 yX1_seatsOf yX1_seatsOf) from rfl)))
theorem w150 : .methodLink RX1 109 yX6_has ∈ zTg := zin_of (wK6 _ (List.mem_of_getElem? (i := 6) (show wL6[6]? = some (599, .methodLink RX1 109 yX6_has) from rfl)))
theorem w151 : .instanceMethod yX6_has ∈ zTg := zin_of (wK6 _ (List.mem_of_getElem? (i := 7) (show wL6[7]? = some (600, .instanceMethod yX6_has) from rfl)))
theorem w152 : .selects RX6 yX6_has yX6_has ∈ zTg := zin_of (wK6 _ (List.mem_of_getElem? (i := 8) (show wL6[8]? = some (601, .selects RX6 yX6_has yX6_has) from rfl)))
theorem w153 : .fieldLink RX1 113 "DrizzleVote$Motions" "worths" "[I" ∈ zTg := zin_of (wK6 _ (List.mem_of_getElem? (i := 9) (show wL6[9]? = some (233, .fieldLink RX1 113 "DrizzleVote$Motions" "worths" "[I") from rfl)))
theorem w154 : .fieldLink RX1 116 "DrizzleVote$Motions" "movers" "[I" ∈ zTg := zin_of (wK6 _ (List.mem_of_getElem? (i := 10) (show wL6[10]? = some (227, .fieldLink RX1 116 "DrizzleVote$Motions" "movers" "[I") from rfl)))
theorem w155 : .methodLink RX1 119 yX1_fillFacts ∈ zTg := zin_of (wK6 _ (List.mem_of_getElem? (i := 11) (show wL6[11]? = some (595, .methodLink RX1 119 yX1_fillFacts) from rfl)))
theorem w156 : .instanceMethod yX1_fillFacts ∈ zTg := zin_of (wK6 _ (List.mem_of_getElem? (i := 12) (show wL6[12]? = some (597, .instanceMethod yX1_fillFacts) from rfl)))
theorem w157 : .selects RX1 yX1_fillFacts yX1_fillFacts ∈ zTg := zin_of (wK6 _ (List.mem_of_getElem? (i := 13) (show wL6[13]? = some (1, .selects RX1 yX1_fillFacts yX1_fillFacts) from rfl)))
theorem w158 : .methodLink RX1 123 yX3_sumOf ∈ zTg := zin_of (wK6 _ (List.mem_of_getElem? (i := 14) (show wL6[14]? = some (603, .methodLink RX1 123 yX3_sumOf) from rfl)))
theorem w159 : .instanceMethod yX3_sumOf ∈ zTg := zin_of (wK6 _ (List.mem_of_getElem? (i := 15) (show wL6[15]? = some (604, .instanceMethod yX3_sumOf) from rfl)))
theorem w160 : .selects RX3 yX3_sumOf yX3_sumOf ∈ zTg := zin_of (wK6 _ (List.mem_of_getElem? (i := 16) (show wL6[16]? = some (605, .selects RX3 yX3_sumOf yX3_sumOf) from rfl)))
theorem w161 : .methodLink RX1 127 yJ9_min_7cf53 ∈ zTg := zin_of (wK6 _ (List.mem_of_getElem? (i := 17) (show wL6[17]? = some (624, .methodLink RX1 127 yJ9_min_7cf53) from rfl)))
theorem w162 : .static yJ9_min_7cf53 ∈ zTg := zin_of (wK6 _ (List.mem_of_getElem? (i := 18) (show wL6[18]? = some (625, .static yJ9_min_7cf53) from rfl)))
theorem w163 : .initialized RJ9 ∈ zTg := zin_of (wK6 _ (List.mem_of_getElem? (i := 19) (show wL6[19]? = some (138, .initialized RJ9) from rfl)))
theorem w164 : .code yJ9_min_7cf53 cJ9_min_7cf53 2 (some .int) ∈ zTg := zin_of (wK6 _ (List.mem_of_getElem? (i := 20) (show wL6[20]? = some (626, .code yJ9_min_7cf53 cJ9_min_7cf53 2 (some .int)) from rfl)))
theorem w165 : .methodLink RX1 132 yJ9_max_7cf53 ∈ zTg := zin_of (wK6 _ (List.mem_of_getElem? (i := 21) (show wL6[21]? = some (627, .methodLink RX1 132 yJ9_max_7cf53) from rfl)))
theorem w166 : .static yJ9_max_7cf53 ∈ zTg := zin_of (wK6 _ (List.mem_of_getElem? (i := 22) (show wL6[22]? = some (628, .static yJ9_max_7cf53) from rfl)))
theorem w167 : .code yJ9_max_7cf53 cJ9_max_7cf53 2 (some .int) ∈ zTg := zin_of (wK6 _ (List.mem_of_getElem? (i := 23) (show wL6[23]? = some (629, .code yJ9_max_7cf53 cJ9_max_7cf53 2 (some .int)) from rfl)))
def wL7 : List (Nat × Cond) := [(591, .methodLink RX1 135 yX3_hasKind), (592, .instanceMethod yX3_hasKind), (593, .selects RX3 yX3_hasKind yX3_hasKind), (587, .methodLink RX1 138 yX1_lapsesIn), (588, .instanceMethod yX1_lapsesIn), (589, .selects RX1 yX1_lapsesIn yX1_lapsesIn), (615, .static yJ6_bitCount_0f7a4), (614, .methodLink RX1 142 yJ6_bitCount_0f7a4), (620, .methodLink RX1 147 yX1_feels), (621, .instanceMethod yX1_feels), (622, .selects RX1 yX1_feels yX1_feels), (630, .methodLink RX1 151 yX1_byVotes), (631, .instanceMethod yX1_byVotes), (632, .selects RX1 yX1_byVotes yX1_byVotes), (237, .fieldLink RX1 155 "DrizzleVote$Motions" "fors" "[I"), (583, .methodLink RX1 158 yX1_outcome), (584, .instanceMethod yX1_outcome), (585, .selects RX1 yX1_outcome yX1_outcome), (224, .fieldLink RX1 161 "DrizzleVote$Motions" "size" "I"), (184, .fieldLink RX1 164 "DrizzleVote$Weather" "hour" "I"), (579, .methodLink RX1 167 yX1_outcomeIn), (580, .instanceMethod yX1_outcomeIn), (581, .selects RX1 yX1_outcomeIn yX1_outcomeIn), (195, .fieldLink RX1 171 "DrizzleVote$Weather" "has" "[I")]
set_option maxRecDepth 100000 in
theorem wK7 : ∀ q ∈ wL7, lw_tbl[q.1]? = some q.2 ∧ goodWord q.2 = true := by decide +kernel
theorem w168 : .methodLink RX1 135 yX3_hasKind ∈ zTg := zin_of (wK7 _ (List.mem_of_getElem? (i := 0) (show wL7[0]? = some (591, .methodLink RX1 135 yX3_hasKind) from rfl)))
theorem w169 : .instanceMethod yX3_hasKind ∈ zTg := zin_of (wK7 _ (List.mem_of_getElem? (i := 1) (show wL7[1]? = some (592, .instanceMethod yX3_hasKind) from rfl)))
theorem w170 : .selects RX3 yX3_hasKind yX3_hasKind ∈ zTg := zin_of (wK7 _ (List.mem_of_getElem? (i := 2) (show wL7[2]? = some (593, .selects RX3 yX3_hasKind yX3_hasKind) from rfl)))
theorem w171 : .methodLink RX1 138 yX1_lapsesIn ∈ zTg := zin_of (wK7 _ (List.mem_of_getElem? (i := 3) (show wL7[3]? = some (587, .methodLink RX1 138 yX1_lapsesIn) from rfl)))
theorem w172 : .instanceMethod yX1_lapsesIn ∈ zTg := zin_of (wK7 _ (List.mem_of_getElem? (i := 4) (show wL7[4]? = some (588, .instanceMethod yX1_lapsesIn) from rfl)))
theorem w173 : .selects RX1 yX1_lapsesIn yX1_lapsesIn ∈ zTg := zin_of (wK7 _ (List.mem_of_getElem? (i := 5) (show wL7[5]? = some (589, .selects RX1 yX1_lapsesIn yX1_lapsesIn) from rfl)))
theorem w174 : .static yJ6_bitCount_0f7a4 ∈ zTg := zin_of (wK7 _ (List.mem_of_getElem? (i := 6) (show wL7[6]? = some (615, .static yJ6_bitCount_0f7a4) from rfl)))
theorem w175 : .methodLink RX1 142 yJ6_bitCount_0f7a4 ∈ zTg := zin_of (wK7 _ (List.mem_of_getElem? (i := 7) (show wL7[7]? = some (614, .methodLink RX1 142 yJ6_bitCount_0f7a4) from rfl)))
theorem w176 : .methodLink RX1 147 yX1_feels ∈ zTg := zin_of (wK7 _ (List.mem_of_getElem? (i := 8) (show wL7[8]? = some (620, .methodLink RX1 147 yX1_feels) from rfl)))
theorem w177 : .instanceMethod yX1_feels ∈ zTg := zin_of (wK7 _ (List.mem_of_getElem? (i := 9) (show wL7[9]? = some (621, .instanceMethod yX1_feels) from rfl)))
theorem w178 : .selects RX1 yX1_feels yX1_feels ∈ zTg := zin_of (wK7 _ (List.mem_of_getElem? (i := 10) (show wL7[10]? = some (622, .selects RX1 yX1_feels yX1_feels) from rfl)))
theorem w179 : .methodLink RX1 151 yX1_byVotes ∈ zTg := zin_of (wK7 _ (List.mem_of_getElem? (i := 11) (show wL7[11]? = some (630, .methodLink RX1 151 yX1_byVotes) from rfl)))
theorem w180 : .instanceMethod yX1_byVotes ∈ zTg := zin_of (wK7 _ (List.mem_of_getElem? (i := 12) (show wL7[12]? = some (631, .instanceMethod yX1_byVotes) from rfl)))
theorem w181 : .selects RX1 yX1_byVotes yX1_byVotes ∈ zTg := zin_of (wK7 _ (List.mem_of_getElem? (i := 13) (show wL7[13]? = some (632, .selects RX1 yX1_byVotes yX1_byVotes) from rfl)))
theorem w182 : .fieldLink RX1 155 "DrizzleVote$Motions" "fors" "[I" ∈ zTg := zin_of (wK7 _ (List.mem_of_getElem? (i := 14) (show wL7[14]? = some (237, .fieldLink RX1 155 "DrizzleVote$Motions" "fors" "[I") from rfl)))
theorem w183 : .methodLink RX1 158 yX1_outcome ∈ zTg := zin_of (wK7 _ (List.mem_of_getElem? (i := 15) (show wL7[15]? = some (583, .methodLink RX1 158 yX1_outcome) from rfl)))
theorem w184 : .instanceMethod yX1_outcome ∈ zTg := zin_of (wK7 _ (List.mem_of_getElem? (i := 16) (show wL7[16]? = some (584, .instanceMethod yX1_outcome) from rfl)))
theorem w185 : .selects RX1 yX1_outcome yX1_outcome ∈ zTg := zin_of (wK7 _ (List.mem_of_getElem? (i := 17) (show wL7[17]? = some (585, .selects RX1 yX1_outcome yX1_outcome) from rfl)))
theorem w186 : .fieldLink RX1 161 "DrizzleVote$Motions" "size" "I" ∈ zTg := zin_of (wK7 _ (List.mem_of_getElem? (i := 18) (show wL7[18]? = some (224, .fieldLink RX1 161 "DrizzleVote$Motions" "size" "I") from rfl)))
theorem w187 : .fieldLink RX1 164 "DrizzleVote$Weather" "hour" "I" ∈ zTg := zin_of (wK7 _ (List.mem_of_getElem? (i := 19) (show wL7[19]? = some (184, .fieldLink RX1 164 "DrizzleVote$Weather" "hour" "I") from rfl)))
theorem w188 : .methodLink RX1 167 yX1_outcomeIn ∈ zTg := zin_of (wK7 _ (List.mem_of_getElem? (i := 20) (show wL7[20]? = some (579, .methodLink RX1 167 yX1_outcomeIn) from rfl)))
theorem w189 : .instanceMethod yX1_outcomeIn ∈ zTg := zin_of (wK7 _ (List.mem_of_getElem? (i := 21) (show wL7[21]? = some (580, .instanceMethod yX1_outcomeIn) from rfl)))
theorem w190 : .selects RX1 yX1_outcomeIn yX1_outcomeIn ∈ zTg := zin_of (wK7 _ (List.mem_of_getElem? (i := 22) (show wL7[22]? = some (581, .selects RX1 yX1_outcomeIn yX1_outcomeIn) from rfl)))
theorem w191 : .fieldLink RX1 171 "DrizzleVote$Weather" "has" "[I" ∈ zTg := zin_of (wK7 _ (List.mem_of_getElem? (i := 23) (show wL7[23]? = some (195, .fieldLink RX1 171 "DrizzleVote$Weather" "has" "[I") from rfl)))
def wL8 : List (Nat × Cond) := [(1292, .methodLink RX1 173 yX9_passSky), (1293, .instanceMethod yX9_passSky), (1294, .selects RX9 yX9_passSky yX9_passSky), (244, .fieldLink RX1 176 "DrizzleVote$Motions" "paper" "[I"), (240, .fieldLink RX1 179 "DrizzleVote$Motions" "states" "[I"), (178, .fieldLink RX1 182 "DrizzleVote$Weather" "sky" "I"), (187, .fieldLink RX1 185 "DrizzleVote$Weather" "day" "I"), (1297, .methodLink RX1 188 yX5_addRow), (1298, .instanceMethod yX5_addRow), (1299, .selects RX5 yX5_addRow yX5_addRow), (1301, .methodLink RX1 192 yX9_passHour), (1302, .instanceMethod yX9_passHour), (1303, .selects RX9 yX9_passHour yX9_passHour), (448, .methodLink RX2 3 Lib.objectInit), (449, .fieldLink RX2 9 "DrizzleVote$Cuffs" "allowed" "[I"), (451, .fieldLink RX2 15 "DrizzleVote$Cuffs" "ways" "[I"), (453, .fieldLink RX2 18 "DrizzleVote$Cuffs" "next" "[I"), (1494, .methodLink RX2 21 yJ7_fill_53178), (278, .fieldLink RX2 27 "DrizzleVote$Council" "members" "I"), (1495, .methodLink RX2 33 yX1_wettingSkies), (1496, .instanceMethod yX1_wettingSkies), (1497, .selects RX1 yX1_wettingSkies yX1_wettingSkies), (1505, .methodLink RX2 41 yX2_waysTo), (1507, .instanceMethod yX2_waysTo)]
set_option maxRecDepth 100000 in
theorem wK8 : ∀ q ∈ wL8, lw_tbl[q.1]? = some q.2 ∧ goodWord q.2 = true := by decide +kernel
theorem w192 : .methodLink RX1 173 yX9_passSky ∈ zTg := zin_of (wK8 _ (List.mem_of_getElem? (i := 0) (show wL8[0]? = some (1292, .methodLink RX1 173 yX9_passSky) from rfl)))
theorem w193 : .instanceMethod yX9_passSky ∈ zTg := zin_of (wK8 _ (List.mem_of_getElem? (i := 1) (show wL8[1]? = some (1293, .instanceMethod yX9_passSky) from rfl)))
theorem w194 : .selects RX9 yX9_passSky yX9_passSky ∈ zTg := zin_of (wK8 _ (List.mem_of_getElem? (i := 2) (show wL8[2]? = some (1294, .selects RX9 yX9_passSky yX9_passSky) from rfl)))
theorem w195 : .fieldLink RX1 176 "DrizzleVote$Motions" "paper" "[I" ∈ zTg := zin_of (wK8 _ (List.mem_of_getElem? (i := 3) (show wL8[3]? = some (244, .fieldLink RX1 176 "DrizzleVote$Motions" "paper" "[I") from rfl)))
theorem w196 : .fieldLink RX1 179 "DrizzleVote$Motions" "states" "[I" ∈ zTg := zin_of (wK8 _ (List.mem_of_getElem? (i := 4) (show wL8[4]? = some (240, .fieldLink RX1 179 "DrizzleVote$Motions" "states" "[I") from rfl)))
theorem w197 : .fieldLink RX1 182 "DrizzleVote$Weather" "sky" "I" ∈ zTg := zin_of (wK8 _ (List.mem_of_getElem? (i := 5) (show wL8[5]? = some (178, .fieldLink RX1 182 "DrizzleVote$Weather" "sky" "I") from rfl)))
theorem w198 : .fieldLink RX1 185 "DrizzleVote$Weather" "day" "I" ∈ zTg := zin_of (wK8 _ (List.mem_of_getElem? (i := 6) (show wL8[6]? = some (187, .fieldLink RX1 185 "DrizzleVote$Weather" "day" "I") from rfl)))
theorem w199 : .methodLink RX1 188 yX5_addRow ∈ zTg := zin_of (wK8 _ (List.mem_of_getElem? (i := 7) (show wL8[7]? = some (1297, .methodLink RX1 188 yX5_addRow) from rfl)))
theorem w200 : .instanceMethod yX5_addRow ∈ zTg := zin_of (wK8 _ (List.mem_of_getElem? (i := 8) (show wL8[8]? = some (1298, .instanceMethod yX5_addRow) from rfl)))
theorem w201 : .selects RX5 yX5_addRow yX5_addRow ∈ zTg := zin_of (wK8 _ (List.mem_of_getElem? (i := 9) (show wL8[9]? = some (1299, .selects RX5 yX5_addRow yX5_addRow) from rfl)))
theorem w202 : .methodLink RX1 192 yX9_passHour ∈ zTg := zin_of (wK8 _ (List.mem_of_getElem? (i := 10) (show wL8[10]? = some (1301, .methodLink RX1 192 yX9_passHour) from rfl)))
theorem w203 : .instanceMethod yX9_passHour ∈ zTg := zin_of (wK8 _ (List.mem_of_getElem? (i := 11) (show wL8[11]? = some (1302, .instanceMethod yX9_passHour) from rfl)))
theorem w204 : .selects RX9 yX9_passHour yX9_passHour ∈ zTg := zin_of (wK8 _ (List.mem_of_getElem? (i := 12) (show wL8[12]? = some (1303, .selects RX9 yX9_passHour yX9_passHour) from rfl)))
theorem w205 : .methodLink RX2 3 Lib.objectInit ∈ zTg := zin_of (wK8 _ (List.mem_of_getElem? (i := 13) (show wL8[13]? = some (448, .methodLink RX2 3 Lib.objectInit) from rfl)))
theorem w206 : .fieldLink RX2 9 "DrizzleVote$Cuffs" "allowed" "[I" ∈ zTg := zin_of (wK8 _ (List.mem_of_getElem? (i := 14) (show wL8[14]? = some (449, .fieldLink RX2 9 "DrizzleVote$Cuffs" "allowed" "[I") from rfl)))
theorem w207 : .fieldLink RX2 15 "DrizzleVote$Cuffs" "ways" "[I" ∈ zTg := zin_of (wK8 _ (List.mem_of_getElem? (i := 15) (show wL8[15]? = some (451, .fieldLink RX2 15 "DrizzleVote$Cuffs" "ways" "[I") from rfl)))
theorem w208 : .fieldLink RX2 18 "DrizzleVote$Cuffs" "next" "[I" ∈ zTg := zin_of (wK8 _ (List.mem_of_getElem? (i := 16) (show wL8[16]? = some (453, .fieldLink RX2 18 "DrizzleVote$Cuffs" "next" "[I") from rfl)))
theorem w209 : .methodLink RX2 21 yJ7_fill_53178 ∈ zTg := zin_of (wK8 _ (List.mem_of_getElem? (i := 17) (show wL8[17]? = some (1494, .methodLink RX2 21 yJ7_fill_53178) from rfl)))
theorem w210 : .fieldLink RX2 27 "DrizzleVote$Council" "members" "I" ∈ zTg := zin_of (wK8 _ (List.mem_of_getElem? (i := 18) (show wL8[18]? = some (278, .fieldLink RX2 27 "DrizzleVote$Council" "members" "I") from rfl)))
theorem w211 : .methodLink RX2 33 yX1_wettingSkies ∈ zTg := zin_of (wK8 _ (List.mem_of_getElem? (i := 19) (show wL8[19]? = some (1495, .methodLink RX2 33 yX1_wettingSkies) from rfl)))
theorem w212 : .instanceMethod yX1_wettingSkies ∈ zTg := zin_of (wK8 _ (List.mem_of_getElem? (i := 20) (show wL8[20]? = some (1496, .instanceMethod yX1_wettingSkies) from rfl)))
theorem w213 : .selects RX1 yX1_wettingSkies yX1_wettingSkies ∈ zTg := zin_of (wK8 _ (List.mem_of_getElem? (i := 21) (show wL8[21]? = some (1497, .selects RX1 yX1_wettingSkies yX1_wettingSkies) from rfl)))
theorem w214 : .methodLink RX2 41 yX2_waysTo ∈ zTg := zin_of (wK8 _ (List.mem_of_getElem? (i := 22) (show wL8[22]? = some (1505, .methodLink RX2 41 yX2_waysTo) from rfl)))
theorem w215 : .instanceMethod yX2_waysTo ∈ zTg := zin_of (wK8 _ (List.mem_of_getElem? (i := 23) (show wL8[23]? = some (1507, .instanceMethod yX2_waysTo) from rfl)))
def wL9 : List (Nat × Cond) := [(32, .selects RX2 yX2_waysTo yX2_waysTo), (1509, .methodLink RX2 45 arraycopyName), (410, .methodLink RX3 1 Lib.objectInit), (413, .fieldLink RX3 9 "DrizzleVote$Law" "kinds" "[I"), (414, .fieldLink RX3 13 "DrizzleVote$Law" "amounts" "[I"), (415, .fieldLink RX3 16 "DrizzleVote$Law" "stops" "[I"), (417, .fieldLink RX3 19 "DrizzleVote$Law" "steps" "[I"), (418, .fieldLink RX3 22 "DrizzleVote$Law" "stack" "[I"), (416, .fieldLink RX3 25 "DrizzleVote$Law" "length" "I"), (411, .fieldLink RX3 29 "DrizzleVote$Law" "lines" "I"), (607, .methodLink RX3 32 yX3_holds), (609, .instanceMethod yX3_holds), (2, .selects RX3 yX3_holds yX3_holds), (612, .static yX3_join), (611, .methodLink RX3 36 yX3_join), (402, .methodLink RX4 3 Lib.objectInit), (403, .classLink RX4 9 RX10), (404, .methodLink RX4 11 yX10_init), (434, .fieldLink RX4 12 "DrizzleVote$LawText" "words" "LDrizzleVote$Words;"), (405, .classLink RX4 18 RX3), (406, .instantiable RX3 7), (132, .initialized RX3), (407, .methodLink RX4 20 yX3_init), (408, .instanceMethod yX3_init)]
set_option maxRecDepth 100000 in
theorem wK9 : ∀ q ∈ wL9, lw_tbl[q.1]? = some q.2 ∧ goodWord q.2 = true := by decide +kernel
theorem w216 : .selects RX2 yX2_waysTo yX2_waysTo ∈ zTg := zin_of (wK9 _ (List.mem_of_getElem? (i := 0) (show wL9[0]? = some (32, .selects RX2 yX2_waysTo yX2_waysTo) from rfl)))
theorem w217 : .methodLink RX2 45 arraycopyName ∈ zTg := zin_of (wK9 _ (List.mem_of_getElem? (i := 1) (show wL9[1]? = some (1509, .methodLink RX2 45 arraycopyName) from rfl)))
theorem w218 : .methodLink RX3 1 Lib.objectInit ∈ zTg := zin_of (wK9 _ (List.mem_of_getElem? (i := 2) (show wL9[2]? = some (410, .methodLink RX3 1 Lib.objectInit) from rfl)))
theorem w219 : .fieldLink RX3 9 "DrizzleVote$Law" "kinds" "[I" ∈ zTg := zin_of (wK9 _ (List.mem_of_getElem? (i := 3) (show wL9[3]? = some (413, .fieldLink RX3 9 "DrizzleVote$Law" "kinds" "[I") from rfl)))
theorem w220 : .fieldLink RX3 13 "DrizzleVote$Law" "amounts" "[I" ∈ zTg := zin_of (wK9 _ (List.mem_of_getElem? (i := 4) (show wL9[4]? = some (414, .fieldLink RX3 13 "DrizzleVote$Law" "amounts" "[I") from rfl)))
theorem w221 : .fieldLink RX3 16 "DrizzleVote$Law" "stops" "[I" ∈ zTg := zin_of (wK9 _ (List.mem_of_getElem? (i := 5) (show wL9[5]? = some (415, .fieldLink RX3 16 "DrizzleVote$Law" "stops" "[I") from rfl)))
theorem w222 : .fieldLink RX3 19 "DrizzleVote$Law" "steps" "[I" ∈ zTg := zin_of (wK9 _ (List.mem_of_getElem? (i := 6) (show wL9[6]? = some (417, .fieldLink RX3 19 "DrizzleVote$Law" "steps" "[I") from rfl)))
theorem w223 : .fieldLink RX3 22 "DrizzleVote$Law" "stack" "[I" ∈ zTg := zin_of (wK9 _ (List.mem_of_getElem? (i := 7) (show wL9[7]? = some (418, .fieldLink RX3 22 "DrizzleVote$Law" "stack" "[I") from rfl)))
theorem w224 : .fieldLink RX3 25 "DrizzleVote$Law" "length" "I" ∈ zTg := zin_of (wK9 _ (List.mem_of_getElem? (i := 8) (show wL9[8]? = some (416, .fieldLink RX3 25 "DrizzleVote$Law" "length" "I") from rfl)))
theorem w225 : .fieldLink RX3 29 "DrizzleVote$Law" "lines" "I" ∈ zTg := zin_of (wK9 _ (List.mem_of_getElem? (i := 9) (show wL9[9]? = some (411, .fieldLink RX3 29 "DrizzleVote$Law" "lines" "I") from rfl)))
theorem w226 : .methodLink RX3 32 yX3_holds ∈ zTg := zin_of (wK9 _ (List.mem_of_getElem? (i := 10) (show wL9[10]? = some (607, .methodLink RX3 32 yX3_holds) from rfl)))
theorem w227 : .instanceMethod yX3_holds ∈ zTg := zin_of (wK9 _ (List.mem_of_getElem? (i := 11) (show wL9[11]? = some (609, .instanceMethod yX3_holds) from rfl)))
theorem w228 : .selects RX3 yX3_holds yX3_holds ∈ zTg := zin_of (wK9 _ (List.mem_of_getElem? (i := 12) (show wL9[12]? = some (2, .selects RX3 yX3_holds yX3_holds) from rfl)))
theorem w229 : .static yX3_join ∈ zTg := zin_of (wK9 _ (List.mem_of_getElem? (i := 13) (show wL9[13]? = some (612, .static yX3_join) from rfl)))
theorem w230 : .methodLink RX3 36 yX3_join ∈ zTg := zin_of (wK9 _ (List.mem_of_getElem? (i := 14) (show wL9[14]? = some (611, .methodLink RX3 36 yX3_join) from rfl)))
theorem w231 : .methodLink RX4 3 Lib.objectInit ∈ zTg := zin_of (wK9 _ (List.mem_of_getElem? (i := 15) (show wL9[15]? = some (402, .methodLink RX4 3 Lib.objectInit) from rfl)))
theorem w232 : .classLink RX4 9 RX10 ∈ zTg := zin_of (wK9 _ (List.mem_of_getElem? (i := 16) (show wL9[16]? = some (403, .classLink RX4 9 RX10) from rfl)))
theorem w233 : .methodLink RX4 11 yX10_init ∈ zTg := zin_of (wK9 _ (List.mem_of_getElem? (i := 17) (show wL9[17]? = some (404, .methodLink RX4 11 yX10_init) from rfl)))
theorem w234 : .fieldLink RX4 12 "DrizzleVote$LawText" "words" "LDrizzleVote$Words;" ∈ zTg := zin_of (wK9 _ (List.mem_of_getElem? (i := 18) (show wL9[18]? = some (434, .fieldLink RX4 12 "DrizzleVote$LawText" "words" "LDrizzleVote$Words;") from rfl)))
theorem w235 : .classLink RX4 18 RX3 ∈ zTg := zin_of (wK9 _ (List.mem_of_getElem? (i := 19) (show wL9[19]? = some (405, .classLink RX4 18 RX3) from rfl)))
theorem w236 : .instantiable RX3 7 ∈ zTg := zin_of (wK9 _ (List.mem_of_getElem? (i := 20) (show wL9[20]? = some (406, .instantiable RX3 7) from rfl)))
theorem w237 : .initialized RX3 ∈ zTg := zin_of (wK9 _ (List.mem_of_getElem? (i := 21) (show wL9[21]? = some (132, .initialized RX3) from rfl)))
theorem w238 : .methodLink RX4 20 yX3_init ∈ zTg := zin_of (wK9 _ (List.mem_of_getElem? (i := 22) (show wL9[22]? = some (407, .methodLink RX4 20 yX3_init) from rfl)))
theorem w239 : .instanceMethod yX3_init ∈ zTg := zin_of (wK9 _ (List.mem_of_getElem? (i := 23) (show wL9[23]? = some (408, .instanceMethod yX3_init) from rfl)))
def wL10 : List (Nat × Cond) := [(436, .fieldLink RX4 23 "DrizzleVote$LawText" "draft" "LDrizzleVote$Law;"), (1096, .methodLink RX4 27 yX10_open), (1097, .methodLink RX4 31 yX10_atEnd), (1098, .methodLink RX4 35 yX4_takeKind), (1100, .instanceMethod yX4_takeKind), (17, .selects RX4 yX4_takeKind yX4_takeKind), (1107, .methodLink RX4 39 yX10_takeNumber), (1103, .methodLink RX4 45 yX10_takeWord), (1109, .methodLink RX4 49 yX4_readCondition), (1111, .instanceMethod yX4_readCondition), (18, .selects RX4 yX4_readCondition yX4_readCondition), (1156, .methodLink RX4 53 yX3_addLine), (1157, .instanceMethod yX3_addLine), (1158, .selects RX3 yX3_addLine yX3_addLine), (1126, .methodLink RX4 57 yX10_needSign), (1120, .methodLink RX4 61 yX10_fail), (1106, .methodLink RX4 70 yX10_needWord), (1113, .methodLink RX4 73 yX4_readAtom), (1115, .instanceMethod yX4_readAtom), (19, .selects RX4 yX4_readAtom yX4_readAtom), (1121, .methodLink RX4 76 yX3_addStep), (1122, .instanceMethod yX3_addStep), (1123, .selects RX3 yX3_addStep yX3_addStep), (1118, .methodLink RX4 85 yX10_atWord)]
set_option maxRecDepth 100000 in
theorem wK10 : ∀ q ∈ wL10, lw_tbl[q.1]? = some q.2 ∧ goodWord q.2 = true := by decide +kernel
theorem w240 : .fieldLink RX4 23 "DrizzleVote$LawText" "draft" "LDrizzleVote$Law;" ∈ zTg := zin_of (wK10 _ (List.mem_of_getElem? (i := 0) (show wL10[0]? = some (436, .fieldLink RX4 23 "DrizzleVote$LawText" "draft" "LDrizzleVote$Law;") from rfl)))
theorem w241 : .methodLink RX4 27 yX10_open ∈ zTg := zin_of (wK10 _ (List.mem_of_getElem? (i := 1) (show wL10[1]? = some (1096, .methodLink RX4 27 yX10_open) from rfl)))
theorem w242 : .methodLink RX4 31 yX10_atEnd ∈ zTg := zin_of (wK10 _ (List.mem_of_getElem? (i := 2) (show wL10[2]? = some (1097, .methodLink RX4 31 yX10_atEnd) from rfl)))
theorem w243 : .methodLink RX4 35 yX4_takeKind ∈ zTg := zin_of (wK10 _ (List.mem_of_getElem? (i := 3) (show wL10[3]? = some (1098, .methodLink RX4 35 yX4_takeKind) from rfl)))
theorem w244 : .instanceMethod yX4_takeKind ∈ zTg := zin_of (wK10 _ (List.mem_of_getElem? (i := 4) (show wL10[4]? = some (1100, .instanceMethod yX4_takeKind) from rfl)))
theorem w245 : .selects RX4 yX4_takeKind yX4_takeKind ∈ zTg := zin_of (wK10 _ (List.mem_of_getElem? (i := 5) (show wL10[5]? = some (17, .selects RX4 yX4_takeKind yX4_takeKind) from rfl)))
theorem w246 : .methodLink RX4 39 yX10_takeNumber ∈ zTg := zin_of (wK10 _ (List.mem_of_getElem? (i := 6) (show wL10[6]? = some (1107, .methodLink RX4 39 yX10_takeNumber) from rfl)))
theorem w247 : .methodLink RX4 45 yX10_takeWord ∈ zTg := zin_of (wK10 _ (List.mem_of_getElem? (i := 7) (show wL10[7]? = some (1103, .methodLink RX4 45 yX10_takeWord) from rfl)))
theorem w248 : .methodLink RX4 49 yX4_readCondition ∈ zTg := zin_of (wK10 _ (List.mem_of_getElem? (i := 8) (show wL10[8]? = some (1109, .methodLink RX4 49 yX4_readCondition) from rfl)))
theorem w249 : .instanceMethod yX4_readCondition ∈ zTg := zin_of (wK10 _ (List.mem_of_getElem? (i := 9) (show wL10[9]? = some (1111, .instanceMethod yX4_readCondition) from rfl)))
theorem w250 : .selects RX4 yX4_readCondition yX4_readCondition ∈ zTg := zin_of (wK10 _ (List.mem_of_getElem? (i := 10) (show wL10[10]? = some (18, .selects RX4 yX4_readCondition yX4_readCondition) from rfl)))
theorem w251 : .methodLink RX4 53 yX3_addLine ∈ zTg := zin_of (wK10 _ (List.mem_of_getElem? (i := 11) (show wL10[11]? = some (1156, .methodLink RX4 53 yX3_addLine) from rfl)))
theorem w252 : .instanceMethod yX3_addLine ∈ zTg := zin_of (wK10 _ (List.mem_of_getElem? (i := 12) (show wL10[12]? = some (1157, .instanceMethod yX3_addLine) from rfl)))
theorem w253 : .selects RX3 yX3_addLine yX3_addLine ∈ zTg := zin_of (wK10 _ (List.mem_of_getElem? (i := 13) (show wL10[13]? = some (1158, .selects RX3 yX3_addLine yX3_addLine) from rfl)))
theorem w254 : .methodLink RX4 57 yX10_needSign ∈ zTg := zin_of (wK10 _ (List.mem_of_getElem? (i := 14) (show wL10[14]? = some (1126, .methodLink RX4 57 yX10_needSign) from rfl)))
theorem w255 : .methodLink RX4 61 yX10_fail ∈ zTg := zin_of (wK10 _ (List.mem_of_getElem? (i := 15) (show wL10[15]? = some (1120, .methodLink RX4 61 yX10_fail) from rfl)))
theorem w256 : .methodLink RX4 70 yX10_needWord ∈ zTg := zin_of (wK10 _ (List.mem_of_getElem? (i := 16) (show wL10[16]? = some (1106, .methodLink RX4 70 yX10_needWord) from rfl)))
theorem w257 : .methodLink RX4 73 yX4_readAtom ∈ zTg := zin_of (wK10 _ (List.mem_of_getElem? (i := 17) (show wL10[17]? = some (1113, .methodLink RX4 73 yX4_readAtom) from rfl)))
theorem w258 : .instanceMethod yX4_readAtom ∈ zTg := zin_of (wK10 _ (List.mem_of_getElem? (i := 18) (show wL10[18]? = some (1115, .instanceMethod yX4_readAtom) from rfl)))
theorem w259 : .selects RX4 yX4_readAtom yX4_readAtom ∈ zTg := zin_of (wK10 _ (List.mem_of_getElem? (i := 19) (show wL10[19]? = some (19, .selects RX4 yX4_readAtom yX4_readAtom) from rfl)))
theorem w260 : .methodLink RX4 76 yX3_addStep ∈ zTg := zin_of (wK10 _ (List.mem_of_getElem? (i := 20) (show wL10[20]? = some (1121, .methodLink RX4 76 yX3_addStep) from rfl)))
theorem w261 : .instanceMethod yX3_addStep ∈ zTg := zin_of (wK10 _ (List.mem_of_getElem? (i := 21) (show wL10[21]? = some (1122, .instanceMethod yX3_addStep) from rfl)))
theorem w262 : .selects RX3 yX3_addStep yX3_addStep ∈ zTg := zin_of (wK10 _ (List.mem_of_getElem? (i := 22) (show wL10[22]? = some (1123, .selects RX3 yX3_addStep yX3_addStep) from rfl)))
theorem w263 : .methodLink RX4 85 yX10_atWord ∈ zTg := zin_of (wK10 _ (List.mem_of_getElem? (i := 23) (show wL10[23]? = some (1118, .methodLink RX4 85 yX10_atWord) from rfl)))
def wL11 : List (Nat × Cond) := [(1119, .methodLink RX4 88 yX10_atSign), (996, .instanceMethod yX10_atSign), (997, .selects RX10 yX10_atSign yX10_atSign), (1125, .methodLink RX4 91 yX10_takeSign), (992, .instanceMethod yX10_takeSign), (993, .selects RX10 yX10_takeSign yX10_takeSign), (1128, .methodLink RX4 96 yX4_takeFact), (1130, .instanceMethod yX4_takeFact), (20, .selects RX4 yX4_takeFact yX4_takeFact), (1134, .methodLink RX4 104 yX4_readComparison), (1136, .instanceMethod yX4_readComparison), (21, .selects RX4 yX4_readComparison yX4_readComparison), (1138, .methodLink RX4 107 yX4_readPart), (1140, .instanceMethod yX4_readPart), (22, .selects RX4 yX4_readPart yX4_readPart), (1142, .methodLink RX4 110 yX10_atDigits), (1143, .instanceMethod yX10_atDigits), (1144, .selects RX10 yX10_atDigits yX10_atDigits), (1153, .methodLink RX4 127 yX10_advance), (265, .methodLink RX5 3 Lib.objectInit), (268, .fieldLink RX5 11 "DrizzleVote$Log" "values" "[I"), (266, .fieldLink RX5 15 "DrizzleVote$Log" "size" "I"), (785, .methodLink RX5 19 arraycopyName), (219, .methodLink RX6 3 Lib.objectInit)]
set_option maxRecDepth 100000 in
theorem wK11 : ∀ q ∈ wL11, lw_tbl[q.1]? = some q.2 ∧ goodWord q.2 = true := by decide +kernel
theorem w264 : .methodLink RX4 88 yX10_atSign ∈ zTg := zin_of (wK11 _ (List.mem_of_getElem? (i := 0) (show wL11[0]? = some (1119, .methodLink RX4 88 yX10_atSign) from rfl)))
theorem w265 : .instanceMethod yX10_atSign ∈ zTg := zin_of (wK11 _ (List.mem_of_getElem? (i := 1) (show wL11[1]? = some (996, .instanceMethod yX10_atSign) from rfl)))
theorem w266 : .selects RX10 yX10_atSign yX10_atSign ∈ zTg := zin_of (wK11 _ (List.mem_of_getElem? (i := 2) (show wL11[2]? = some (997, .selects RX10 yX10_atSign yX10_atSign) from rfl)))
theorem w267 : .methodLink RX4 91 yX10_takeSign ∈ zTg := zin_of (wK11 _ (List.mem_of_getElem? (i := 3) (show wL11[3]? = some (1125, .methodLink RX4 91 yX10_takeSign) from rfl)))
theorem w268 : .instanceMethod yX10_takeSign ∈ zTg := zin_of (wK11 _ (List.mem_of_getElem? (i := 4) (show wL11[4]? = some (992, .instanceMethod yX10_takeSign) from rfl)))
theorem w269 : .selects RX10 yX10_takeSign yX10_takeSign ∈ zTg := zin_of (wK11 _ (List.mem_of_getElem? (i := 5) (show wL11[5]? = some (993, .selects RX10 yX10_takeSign yX10_takeSign) from rfl)))
theorem w270 : .methodLink RX4 96 yX4_takeFact ∈ zTg := zin_of (wK11 _ (List.mem_of_getElem? (i := 6) (show wL11[6]? = some (1128, .methodLink RX4 96 yX4_takeFact) from rfl)))
theorem w271 : .instanceMethod yX4_takeFact ∈ zTg := zin_of (wK11 _ (List.mem_of_getElem? (i := 7) (show wL11[7]? = some (1130, .instanceMethod yX4_takeFact) from rfl)))
theorem w272 : .selects RX4 yX4_takeFact yX4_takeFact ∈ zTg := zin_of (wK11 _ (List.mem_of_getElem? (i := 8) (show wL11[8]? = some (20, .selects RX4 yX4_takeFact yX4_takeFact) from rfl)))
theorem w273 : .methodLink RX4 104 yX4_readComparison ∈ zTg := zin_of (wK11 _ (List.mem_of_getElem? (i := 9) (show wL11[9]? = some (1134, .methodLink RX4 104 yX4_readComparison) from rfl)))
theorem w274 : .instanceMethod yX4_readComparison ∈ zTg := zin_of (wK11 _ (List.mem_of_getElem? (i := 10) (show wL11[10]? = some (1136, .instanceMethod yX4_readComparison) from rfl)))
theorem w275 : .selects RX4 yX4_readComparison yX4_readComparison ∈ zTg := zin_of (wK11 _ (List.mem_of_getElem? (i := 11) (show wL11[11]? = some (21, .selects RX4 yX4_readComparison yX4_readComparison) from rfl)))
theorem w276 : .methodLink RX4 107 yX4_readPart ∈ zTg := zin_of (wK11 _ (List.mem_of_getElem? (i := 12) (show wL11[12]? = some (1138, .methodLink RX4 107 yX4_readPart) from rfl)))
theorem w277 : .instanceMethod yX4_readPart ∈ zTg := zin_of (wK11 _ (List.mem_of_getElem? (i := 13) (show wL11[13]? = some (1140, .instanceMethod yX4_readPart) from rfl)))
theorem w278 : .selects RX4 yX4_readPart yX4_readPart ∈ zTg := zin_of (wK11 _ (List.mem_of_getElem? (i := 14) (show wL11[14]? = some (22, .selects RX4 yX4_readPart yX4_readPart) from rfl)))
theorem w279 : .methodLink RX4 110 yX10_atDigits ∈ zTg := zin_of (wK11 _ (List.mem_of_getElem? (i := 15) (show wL11[15]? = some (1142, .methodLink RX4 110 yX10_atDigits) from rfl)))
theorem w280 : .instanceMethod yX10_atDigits ∈ zTg := zin_of (wK11 _ (List.mem_of_getElem? (i := 16) (show wL11[16]? = some (1143, .instanceMethod yX10_atDigits) from rfl)))
theorem w281 : .selects RX10 yX10_atDigits yX10_atDigits ∈ zTg := zin_of (wK11 _ (List.mem_of_getElem? (i := 17) (show wL11[17]? = some (1144, .selects RX10 yX10_atDigits yX10_atDigits) from rfl)))
theorem w282 : .methodLink RX4 127 yX10_advance ∈ zTg := zin_of (wK11 _ (List.mem_of_getElem? (i := 18) (show wL11[18]? = some (1153, .methodLink RX4 127 yX10_advance) from rfl)))
theorem w283 : .methodLink RX5 3 Lib.objectInit ∈ zTg := zin_of (wK11 _ (List.mem_of_getElem? (i := 19) (show wL11[19]? = some (265, .methodLink RX5 3 Lib.objectInit) from rfl)))
theorem w284 : .fieldLink RX5 11 "DrizzleVote$Log" "values" "[I" ∈ zTg := zin_of (wK11 _ (List.mem_of_getElem? (i := 20) (show wL11[20]? = some (268, .fieldLink RX5 11 "DrizzleVote$Log" "values" "[I") from rfl)))
theorem w285 : .fieldLink RX5 15 "DrizzleVote$Log" "size" "I" ∈ zTg := zin_of (wK11 _ (List.mem_of_getElem? (i := 21) (show wL11[21]? = some (266, .fieldLink RX5 15 "DrizzleVote$Log" "size" "I") from rfl)))
theorem w286 : .methodLink RX5 19 arraycopyName ∈ zTg := zin_of (wK11 _ (List.mem_of_getElem? (i := 22) (show wL11[22]? = some (785, .methodLink RX5 19 arraycopyName) from rfl)))
theorem w287 : .methodLink RX6 3 Lib.objectInit ∈ zTg := zin_of (wK11 _ (List.mem_of_getElem? (i := 23) (show wL11[23]? = some (219, .methodLink RX6 3 Lib.objectInit) from rfl)))
def wL12 : List (Nat × Cond) := [(226, .fieldLink RX6 9 "DrizzleVote$Motions" "movers" "[I"), (229, .fieldLink RX6 15 "DrizzleVote$Motions" "takes" "[I"), (231, .fieldLink RX6 18 "DrizzleVote$Motions" "worths" "[I"), (235, .fieldLink RX6 21 "DrizzleVote$Motions" "fors" "[I"), (238, .fieldLink RX6 24 "DrizzleVote$Motions" "states" "[I"), (241, .fieldLink RX6 27 "DrizzleVote$Motions" "paper" "[I"), (220, .methodLink RX6 30 yJ7_fill_53178), (221, .fieldLink RX6 36 "DrizzleVote$Motions" "size" "I"), (780, .methodLink RX6 40 arraycopyName), (1338, .methodLink RX6 46 yX6_hourOf), (705, .methodLink RX6 54 yX6_thoseLiked), (706, .instanceMethod yX6_thoseLiked), (707, .selects RX6 yX6_thoseLiked yX6_thoseLiked), (709, .methodLink RX6 57 yJ6_bitCount_0f7a4), (487, .methodLink RX7 3 Lib.objectInit), (488, .fieldLink RX7 9 "DrizzleVote$Planner" "most" "[I"), (490, .fieldLink RX7 15 "DrizzleVote$Planner" "gains" "[I"), (314, .fieldLink RX7 18 "DrizzleVote$Council" "motions" "LDrizzleVote$Motions;"), (1440, .methodLink RX7 24 yX6_inState), (569, .instanceMethod yX6_inState), (570, .selects RX6 yX6_inState yX6_inState), (491, .fieldLink RX7 30 "DrizzleVote$Planner" "waiting" "I"), (310, .fieldLink RX7 34 "DrizzleVote$Council" "weather" "LDrizzleVote$Weather;"), (181, .fieldLink RX7 38 "DrizzleVote$Weather" "hour" "I")]
set_option maxRecDepth 100000 in
theorem wK12 : ∀ q ∈ wL12, lw_tbl[q.1]? = some q.2 ∧ goodWord q.2 = true := by decide +kernel
theorem w288 : .fieldLink RX6 9 "DrizzleVote$Motions" "movers" "[I" ∈ zTg := zin_of (wK12 _ (List.mem_of_getElem? (i := 0) (show wL12[0]? = some (226, .fieldLink RX6 9 "DrizzleVote$Motions" "movers" "[I") from rfl)))
theorem w289 : .fieldLink RX6 15 "DrizzleVote$Motions" "takes" "[I" ∈ zTg := zin_of (wK12 _ (List.mem_of_getElem? (i := 1) (show wL12[1]? = some (229, .fieldLink RX6 15 "DrizzleVote$Motions" "takes" "[I") from rfl)))
theorem w290 : .fieldLink RX6 18 "DrizzleVote$Motions" "worths" "[I" ∈ zTg := zin_of (wK12 _ (List.mem_of_getElem? (i := 2) (show wL12[2]? = some (231, .fieldLink RX6 18 "DrizzleVote$Motions" "worths" "[I") from rfl)))
theorem w291 : .fieldLink RX6 21 "DrizzleVote$Motions" "fors" "[I" ∈ zTg := zin_of (wK12 _ (List.mem_of_getElem? (i := 3) (show wL12[3]? = some (235, .fieldLink RX6 21 "DrizzleVote$Motions" "fors" "[I") from rfl)))
theorem w292 : .fieldLink RX6 24 "DrizzleVote$Motions" "states" "[I" ∈ zTg := zin_of (wK12 _ (List.mem_of_getElem? (i := 4) (show wL12[4]? = some (238, .fieldLink RX6 24 "DrizzleVote$Motions" "states" "[I") from rfl)))
theorem w293 : .fieldLink RX6 27 "DrizzleVote$Motions" "paper" "[I" ∈ zTg := zin_of (wK12 _ (List.mem_of_getElem? (i := 5) (show wL12[5]? = some (241, .fieldLink RX6 27 "DrizzleVote$Motions" "paper" "[I") from rfl)))
theorem w294 : .methodLink RX6 30 yJ7_fill_53178 ∈ zTg := zin_of (wK12 _ (List.mem_of_getElem? (i := 6) (show wL12[6]? = some (220, .methodLink RX6 30 yJ7_fill_53178) from rfl)))
theorem w295 : .fieldLink RX6 36 "DrizzleVote$Motions" "size" "I" ∈ zTg := zin_of (wK12 _ (List.mem_of_getElem? (i := 7) (show wL12[7]? = some (221, .fieldLink RX6 36 "DrizzleVote$Motions" "size" "I") from rfl)))
theorem w296 : .methodLink RX6 40 arraycopyName ∈ zTg := zin_of (wK12 _ (List.mem_of_getElem? (i := 8) (show wL12[8]? = some (780, .methodLink RX6 40 arraycopyName) from rfl)))
theorem w297 : .methodLink RX6 46 yX6_hourOf ∈ zTg := zin_of (wK12 _ (List.mem_of_getElem? (i := 9) (show wL12[9]? = some (1338, .methodLink RX6 46 yX6_hourOf) from rfl)))
theorem w298 : .methodLink RX6 54 yX6_thoseLiked ∈ zTg := zin_of (wK12 _ (List.mem_of_getElem? (i := 10) (show wL12[10]? = some (705, .methodLink RX6 54 yX6_thoseLiked) from rfl)))
theorem w299 : .instanceMethod yX6_thoseLiked ∈ zTg := zin_of (wK12 _ (List.mem_of_getElem? (i := 11) (show wL12[11]? = some (706, .instanceMethod yX6_thoseLiked) from rfl)))
theorem w300 : .selects RX6 yX6_thoseLiked yX6_thoseLiked ∈ zTg := zin_of (wK12 _ (List.mem_of_getElem? (i := 12) (show wL12[12]? = some (707, .selects RX6 yX6_thoseLiked yX6_thoseLiked) from rfl)))
theorem w301 : .methodLink RX6 57 yJ6_bitCount_0f7a4 ∈ zTg := zin_of (wK12 _ (List.mem_of_getElem? (i := 13) (show wL12[13]? = some (709, .methodLink RX6 57 yJ6_bitCount_0f7a4) from rfl)))
theorem w302 : .methodLink RX7 3 Lib.objectInit ∈ zTg := zin_of (wK12 _ (List.mem_of_getElem? (i := 14) (show wL12[14]? = some (487, .methodLink RX7 3 Lib.objectInit) from rfl)))
theorem w303 : .fieldLink RX7 9 "DrizzleVote$Planner" "most" "[I" ∈ zTg := zin_of (wK12 _ (List.mem_of_getElem? (i := 15) (show wL12[15]? = some (488, .fieldLink RX7 9 "DrizzleVote$Planner" "most" "[I") from rfl)))
theorem w304 : .fieldLink RX7 15 "DrizzleVote$Planner" "gains" "[I" ∈ zTg := zin_of (wK12 _ (List.mem_of_getElem? (i := 16) (show wL12[16]? = some (490, .fieldLink RX7 15 "DrizzleVote$Planner" "gains" "[I") from rfl)))
theorem w305 : .fieldLink RX7 18 "DrizzleVote$Council" "motions" "LDrizzleVote$Motions;" ∈ zTg := zin_of (wK12 _ (List.mem_of_getElem? (i := 17) (show wL12[17]? = some (314, .fieldLink RX7 18 "DrizzleVote$Council" "motions" "LDrizzleVote$Motions;") from rfl)))
theorem w306 : .methodLink RX7 24 yX6_inState ∈ zTg := zin_of (wK12 _ (List.mem_of_getElem? (i := 18) (show wL12[18]? = some (1440, .methodLink RX7 24 yX6_inState) from rfl)))
theorem w307 : .instanceMethod yX6_inState ∈ zTg := zin_of (wK12 _ (List.mem_of_getElem? (i := 19) (show wL12[19]? = some (569, .instanceMethod yX6_inState) from rfl)))
theorem w308 : .selects RX6 yX6_inState yX6_inState ∈ zTg := zin_of (wK12 _ (List.mem_of_getElem? (i := 20) (show wL12[20]? = some (570, .selects RX6 yX6_inState yX6_inState) from rfl)))
theorem w309 : .fieldLink RX7 30 "DrizzleVote$Planner" "waiting" "I" ∈ zTg := zin_of (wK12 _ (List.mem_of_getElem? (i := 21) (show wL12[21]? = some (491, .fieldLink RX7 30 "DrizzleVote$Planner" "waiting" "I") from rfl)))
theorem w310 : .fieldLink RX7 34 "DrizzleVote$Council" "weather" "LDrizzleVote$Weather;" ∈ zTg := zin_of (wK12 _ (List.mem_of_getElem? (i := 22) (show wL12[22]? = some (310, .fieldLink RX7 34 "DrizzleVote$Council" "weather" "LDrizzleVote$Weather;") from rfl)))
theorem w311 : .fieldLink RX7 38 "DrizzleVote$Weather" "hour" "I" ∈ zTg := zin_of (wK12 _ (List.mem_of_getElem? (i := 23) (show wL12[23]? = some (181, .fieldLink RX7 38 "DrizzleVote$Weather" "hour" "I") from rfl)))
def wL13 : List (Nat × Cond) := [(492, .fieldLink RX7 43 "DrizzleVote$Planner" "hoursLeft" "I"), (1441, .methodLink RX7 46 yX9_startChances), (723, .instanceMethod yX9_startChances), (724, .selects RX9 yX9_startChances yX9_startChances), (1442, .methodLink RX7 49 yX9_spreadHour), (727, .instanceMethod yX9_spreadHour), (728, .selects RX9 yX9_spreadHour yX9_spreadHour), (222, .fieldLink RX7 52 "DrizzleVote$Motions" "size" "I"), (1444, .methodLink RX7 59 yX1_carriedThen), (1412, .instanceMethod yX1_carriedThen), (1413, .selects RX1 yX1_carriedThen yX1_carriedThen), (232, .fieldLink RX7 62 "DrizzleVote$Motions" "worths" "[I"), (1445, .methodLink RX7 65 yJ7_fill_53178), (1446, .methodLink RX7 71 yJ6_bitCount_0f7a4), (1447, .methodLink RX7 76 yX7_mostFrom), (1449, .instanceMethod yX7_mostFrom), (27, .selects RX7 yX7_mostFrom yX7_mostFrom), (1451, .methodLink RX7 79 yX7_isFree), (1453, .instanceMethod yX7_isFree), (28, .selects RX7 yX7_isFree yX7_isFree), (1455, .methodLink RX7 83 yX7_withMotion), (1457, .instanceMethod yX7_withMotion), (29, .selects RX7 yX7_withMotion yX7_withMotion), (1459, .methodLink RX7 87 yJ9_max_7cf53)]
set_option maxRecDepth 100000 in
theorem wK13 : ∀ q ∈ wL13, lw_tbl[q.1]? = some q.2 ∧ goodWord q.2 = true := by decide +kernel
theorem w312 : .fieldLink RX7 43 "DrizzleVote$Planner" "hoursLeft" "I" ∈ zTg := zin_of (wK13 _ (List.mem_of_getElem? (i := 0) (show wL13[0]? = some (492, .fieldLink RX7 43 "DrizzleVote$Planner" "hoursLeft" "I") from rfl)))
theorem w313 : .methodLink RX7 46 yX9_startChances ∈ zTg := zin_of (wK13 _ (List.mem_of_getElem? (i := 1) (show wL13[1]? = some (1441, .methodLink RX7 46 yX9_startChances) from rfl)))
theorem w314 : .instanceMethod yX9_startChances ∈ zTg := zin_of (wK13 _ (List.mem_of_getElem? (i := 2) (show wL13[2]? = some (723, .instanceMethod yX9_startChances) from rfl)))
theorem w315 : .selects RX9 yX9_startChances yX9_startChances ∈ zTg := zin_of (wK13 _ (List.mem_of_getElem? (i := 3) (show wL13[3]? = some (724, .selects RX9 yX9_startChances yX9_startChances) from rfl)))
theorem w316 : .methodLink RX7 49 yX9_spreadHour ∈ zTg := zin_of (wK13 _ (List.mem_of_getElem? (i := 4) (show wL13[4]? = some (1442, .methodLink RX7 49 yX9_spreadHour) from rfl)))
theorem w317 : .instanceMethod yX9_spreadHour ∈ zTg := zin_of (wK13 _ (List.mem_of_getElem? (i := 5) (show wL13[5]? = some (727, .instanceMethod yX9_spreadHour) from rfl)))
theorem w318 : .selects RX9 yX9_spreadHour yX9_spreadHour ∈ zTg := zin_of (wK13 _ (List.mem_of_getElem? (i := 6) (show wL13[6]? = some (728, .selects RX9 yX9_spreadHour yX9_spreadHour) from rfl)))
theorem w319 : .fieldLink RX7 52 "DrizzleVote$Motions" "size" "I" ∈ zTg := zin_of (wK13 _ (List.mem_of_getElem? (i := 7) (show wL13[7]? = some (222, .fieldLink RX7 52 "DrizzleVote$Motions" "size" "I") from rfl)))
theorem w320 : .methodLink RX7 59 yX1_carriedThen ∈ zTg := zin_of (wK13 _ (List.mem_of_getElem? (i := 8) (show wL13[8]? = some (1444, .methodLink RX7 59 yX1_carriedThen) from rfl)))
theorem w321 : .instanceMethod yX1_carriedThen ∈ zTg := zin_of (wK13 _ (List.mem_of_getElem? (i := 9) (show wL13[9]? = some (1412, .instanceMethod yX1_carriedThen) from rfl)))
theorem w322 : .selects RX1 yX1_carriedThen yX1_carriedThen ∈ zTg := zin_of (wK13 _ (List.mem_of_getElem? (i := 10) (show wL13[10]? = some (1413, .selects RX1 yX1_carriedThen yX1_carriedThen) from rfl)))
theorem w323 : .fieldLink RX7 62 "DrizzleVote$Motions" "worths" "[I" ∈ zTg := zin_of (wK13 _ (List.mem_of_getElem? (i := 11) (show wL13[11]? = some (232, .fieldLink RX7 62 "DrizzleVote$Motions" "worths" "[I") from rfl)))
theorem w324 : .methodLink RX7 65 yJ7_fill_53178 ∈ zTg := zin_of (wK13 _ (List.mem_of_getElem? (i := 12) (show wL13[12]? = some (1445, .methodLink RX7 65 yJ7_fill_53178) from rfl)))
theorem w325 : .methodLink RX7 71 yJ6_bitCount_0f7a4 ∈ zTg := zin_of (wK13 _ (List.mem_of_getElem? (i := 13) (show wL13[13]? = some (1446, .methodLink RX7 71 yJ6_bitCount_0f7a4) from rfl)))
theorem w326 : .methodLink RX7 76 yX7_mostFrom ∈ zTg := zin_of (wK13 _ (List.mem_of_getElem? (i := 14) (show wL13[14]? = some (1447, .methodLink RX7 76 yX7_mostFrom) from rfl)))
theorem w327 : .instanceMethod yX7_mostFrom ∈ zTg := zin_of (wK13 _ (List.mem_of_getElem? (i := 15) (show wL13[15]? = some (1449, .instanceMethod yX7_mostFrom) from rfl)))
theorem w328 : .selects RX7 yX7_mostFrom yX7_mostFrom ∈ zTg := zin_of (wK13 _ (List.mem_of_getElem? (i := 16) (show wL13[16]? = some (27, .selects RX7 yX7_mostFrom yX7_mostFrom) from rfl)))
theorem w329 : .methodLink RX7 79 yX7_isFree ∈ zTg := zin_of (wK13 _ (List.mem_of_getElem? (i := 17) (show wL13[17]? = some (1451, .methodLink RX7 79 yX7_isFree) from rfl)))
theorem w330 : .instanceMethod yX7_isFree ∈ zTg := zin_of (wK13 _ (List.mem_of_getElem? (i := 18) (show wL13[18]? = some (1453, .instanceMethod yX7_isFree) from rfl)))
theorem w331 : .selects RX7 yX7_isFree yX7_isFree ∈ zTg := zin_of (wK13 _ (List.mem_of_getElem? (i := 19) (show wL13[19]? = some (28, .selects RX7 yX7_isFree yX7_isFree) from rfl)))
theorem w332 : .methodLink RX7 83 yX7_withMotion ∈ zTg := zin_of (wK13 _ (List.mem_of_getElem? (i := 20) (show wL13[20]? = some (1455, .methodLink RX7 83 yX7_withMotion) from rfl)))
theorem w333 : .instanceMethod yX7_withMotion ∈ zTg := zin_of (wK13 _ (List.mem_of_getElem? (i := 21) (show wL13[21]? = some (1457, .instanceMethod yX7_withMotion) from rfl)))
theorem w334 : .selects RX7 yX7_withMotion yX7_withMotion ∈ zTg := zin_of (wK13 _ (List.mem_of_getElem? (i := 22) (show wL13[22]? = some (29, .selects RX7 yX7_withMotion yX7_withMotion) from rfl)))
theorem w335 : .methodLink RX7 87 yJ9_max_7cf53 ∈ zTg := zin_of (wK13 _ (List.mem_of_getElem? (i := 23) (show wL13[23]? = some (1459, .methodLink RX7 87 yJ9_max_7cf53) from rfl)))
def wL14 : List (Nat × Cond) := [(1464, .methodLink RX7 92 yX7_firstBest), (1466, .instanceMethod yX7_firstBest), (30, .selects RX7 yX7_firstBest yX7_firstBest), (280, .fieldLink RX7 95 "DrizzleVote$Council" "members" "I"), (1549, .methodLink RX7 98 yX7_withPlace), (1551, .instanceMethod yX7_withPlace), (33, .selects RX7 yX7_withPlace yX7_withPlace), (294, .fieldLink RX7 102 "DrizzleVote$Council" "exposures" "[I"), (287, .fieldLink RX7 105 "DrizzleVote$Council" "seats" "[I"), (1557, .methodLink RX7 108 yX7_firstPlace), (1559, .instanceMethod yX7_firstPlace), (34, .selects RX7 yX7_firstPlace yX7_firstPlace), (466, .methodLink RX8 3 Lib.objectInit), (469, .fieldLink RX8 9 "DrizzleVote$Sides" "swingsOf" "[I"), (472, .fieldLink RX8 15 "DrizzleVote$Sides" "seatsOf" "[I"), (290, .fieldLink RX8 18 "DrizzleVote$Council" "outs" "I"), (467, .fieldLink RX8 24 "DrizzleVote$Sides" "present" "I"), (665, .methodLink RX8 27 yX1_seatsOf), (304, .fieldLink RX8 30 "DrizzleVote$Council" "wetSeats" "I"), (471, .fieldLink RX8 33 "DrizzleVote$Sides" "all" "I"), (277, .fieldLink RX8 36 "DrizzleVote$Council" "members" "I"), (285, .fieldLink RX8 39 "DrizzleVote$Council" "seats" "[I"), (670, .methodLink RX8 46 yX8_seatsIn), (672, .instanceMethod yX8_seatsIn)]
set_option maxRecDepth 100000 in
theorem wK14 : ∀ q ∈ wL14, lw_tbl[q.1]? = some q.2 ∧ goodWord q.2 = true := by decide +kernel
theorem w336 : .methodLink RX7 92 yX7_firstBest ∈ zTg := zin_of (wK14 _ (List.mem_of_getElem? (i := 0) (show wL14[0]? = some (1464, .methodLink RX7 92 yX7_firstBest) from rfl)))
theorem w337 : .instanceMethod yX7_firstBest ∈ zTg := zin_of (wK14 _ (List.mem_of_getElem? (i := 1) (show wL14[1]? = some (1466, .instanceMethod yX7_firstBest) from rfl)))
theorem w338 : .selects RX7 yX7_firstBest yX7_firstBest ∈ zTg := zin_of (wK14 _ (List.mem_of_getElem? (i := 2) (show wL14[2]? = some (30, .selects RX7 yX7_firstBest yX7_firstBest) from rfl)))
theorem w339 : .fieldLink RX7 95 "DrizzleVote$Council" "members" "I" ∈ zTg := zin_of (wK14 _ (List.mem_of_getElem? (i := 3) (show wL14[3]? = some (280, .fieldLink RX7 95 "DrizzleVote$Council" "members" "I") from rfl)))
theorem w340 : .methodLink RX7 98 yX7_withPlace ∈ zTg := zin_of (wK14 _ (List.mem_of_getElem? (i := 4) (show wL14[4]? = some (1549, .methodLink RX7 98 yX7_withPlace) from rfl)))
theorem w341 : .instanceMethod yX7_withPlace ∈ zTg := zin_of (wK14 _ (List.mem_of_getElem? (i := 5) (show wL14[5]? = some (1551, .instanceMethod yX7_withPlace) from rfl)))
theorem w342 : .selects RX7 yX7_withPlace yX7_withPlace ∈ zTg := zin_of (wK14 _ (List.mem_of_getElem? (i := 6) (show wL14[6]? = some (33, .selects RX7 yX7_withPlace yX7_withPlace) from rfl)))
theorem w343 : .fieldLink RX7 102 "DrizzleVote$Council" "exposures" "[I" ∈ zTg := zin_of (wK14 _ (List.mem_of_getElem? (i := 7) (show wL14[7]? = some (294, .fieldLink RX7 102 "DrizzleVote$Council" "exposures" "[I") from rfl)))
theorem w344 : .fieldLink RX7 105 "DrizzleVote$Council" "seats" "[I" ∈ zTg := zin_of (wK14 _ (List.mem_of_getElem? (i := 8) (show wL14[8]? = some (287, .fieldLink RX7 105 "DrizzleVote$Council" "seats" "[I") from rfl)))
theorem w345 : .methodLink RX7 108 yX7_firstPlace ∈ zTg := zin_of (wK14 _ (List.mem_of_getElem? (i := 9) (show wL14[9]? = some (1557, .methodLink RX7 108 yX7_firstPlace) from rfl)))
theorem w346 : .instanceMethod yX7_firstPlace ∈ zTg := zin_of (wK14 _ (List.mem_of_getElem? (i := 10) (show wL14[10]? = some (1559, .instanceMethod yX7_firstPlace) from rfl)))
theorem w347 : .selects RX7 yX7_firstPlace yX7_firstPlace ∈ zTg := zin_of (wK14 _ (List.mem_of_getElem? (i := 11) (show wL14[11]? = some (34, .selects RX7 yX7_firstPlace yX7_firstPlace) from rfl)))
theorem w348 : .methodLink RX8 3 Lib.objectInit ∈ zTg := zin_of (wK14 _ (List.mem_of_getElem? (i := 12) (show wL14[12]? = some (466, .methodLink RX8 3 Lib.objectInit) from rfl)))
theorem w349 : .fieldLink RX8 9 "DrizzleVote$Sides" "swingsOf" "[I" ∈ zTg := zin_of (wK14 _ (List.mem_of_getElem? (i := 13) (show wL14[13]? = some (469, .fieldLink RX8 9 "DrizzleVote$Sides" "swingsOf" "[I") from rfl)))
theorem w350 : .fieldLink RX8 15 "DrizzleVote$Sides" "seatsOf" "[I" ∈ zTg := zin_of (wK14 _ (List.mem_of_getElem? (i := 14) (show wL14[14]? = some (472, .fieldLink RX8 15 "DrizzleVote$Sides" "seatsOf" "[I") from rfl)))
theorem w351 : .fieldLink RX8 18 "DrizzleVote$Council" "outs" "I" ∈ zTg := zin_of (wK14 _ (List.mem_of_getElem? (i := 15) (show wL14[15]? = some (290, .fieldLink RX8 18 "DrizzleVote$Council" "outs" "I") from rfl)))
theorem w352 : .fieldLink RX8 24 "DrizzleVote$Sides" "present" "I" ∈ zTg := zin_of (wK14 _ (List.mem_of_getElem? (i := 16) (show wL14[16]? = some (467, .fieldLink RX8 24 "DrizzleVote$Sides" "present" "I") from rfl)))
theorem w353 : .methodLink RX8 27 yX1_seatsOf ∈ zTg := zin_of (wK14 _ (List.mem_of_getElem? (i := 17) (show wL14[17]? = some (665, .methodLink RX8 27 yX1_seatsOf) from rfl)))
theorem w354 : .fieldLink RX8 30 "DrizzleVote$Council" "wetSeats" "I" ∈ zTg := zin_of (wK14 _ (List.mem_of_getElem? (i := 18) (show wL14[18]? = some (304, .fieldLink RX8 30 "DrizzleVote$Council" "wetSeats" "I") from rfl)))
theorem w355 : .fieldLink RX8 33 "DrizzleVote$Sides" "all" "I" ∈ zTg := zin_of (wK14 _ (List.mem_of_getElem? (i := 19) (show wL14[19]? = some (471, .fieldLink RX8 33 "DrizzleVote$Sides" "all" "I") from rfl)))
theorem w356 : .fieldLink RX8 36 "DrizzleVote$Council" "members" "I" ∈ zTg := zin_of (wK14 _ (List.mem_of_getElem? (i := 20) (show wL14[20]? = some (277, .fieldLink RX8 36 "DrizzleVote$Council" "members" "I") from rfl)))
theorem w357 : .fieldLink RX8 39 "DrizzleVote$Council" "seats" "[I" ∈ zTg := zin_of (wK14 _ (List.mem_of_getElem? (i := 21) (show wL14[21]? = some (285, .fieldLink RX8 39 "DrizzleVote$Council" "seats" "[I") from rfl)))
theorem w358 : .methodLink RX8 46 yX8_seatsIn ∈ zTg := zin_of (wK14 _ (List.mem_of_getElem? (i := 22) (show wL14[22]? = some (670, .methodLink RX8 46 yX8_seatsIn) from rfl)))
theorem w359 : .instanceMethod yX8_seatsIn ∈ zTg := zin_of (wK14 _ (List.mem_of_getElem? (i := 23) (show wL14[23]? = some (672, .instanceMethod yX8_seatsIn) from rfl)))
def wL15 : List (Nat × Cond) := [(3, .selects RX8 yX8_seatsIn yX8_seatsIn), (691, .methodLink RX8 49 yJ7_fill_53178), (692, .methodLink RX8 55 yX8_isWinning), (667, .instanceMethod yX8_isWinning), (668, .selects RX8 yX8_isWinning yX8_isWinning), (693, .methodLink RX8 59 yX8_addSwings), (695, .instanceMethod yX8_addSwings), (4, .selects RX8 yX8_addSwings yX8_addSwings), (174, .methodLink RX9 3 Lib.objectInit), (176, .fieldLink RX9 9 "DrizzleVote$Weather" "sky" "I"), (189, .fieldLink RX9 15 "DrizzleVote$Weather" "seed" "I"), (191, .fieldLink RX9 18 "DrizzleVote$Weather" "weights" "[I"), (175, .methodLink RX9 22 yJ7_fill_53178), (194, .fieldLink RX9 28 "DrizzleVote$Weather" "has" "[I"), (197, .fieldLink RX9 31 "DrizzleVote$Weather" "gets" "[I"), (180, .fieldLink RX9 34 "DrizzleVote$Weather" "hour" "I"), (185, .fieldLink RX9 37 "DrizzleVote$Weather" "day" "I"), (738, .methodLink RX9 40 arraycopyName), (1296, .constant RX9 46 (Int32.ofInt 1103515245)), (734, .methodLink RX9 47 yX9_sumBehind), (735, .instanceMethod yX9_sumBehind), (736, .selects RX9 yX9_sumBehind yX9_sumBehind), (1305, .methodLink RX9 51 yJ9_min_7cf53), (730, .methodLink RX9 57 yX9_give)]
set_option maxRecDepth 100000 in
theorem wK15 : ∀ q ∈ wL15, lw_tbl[q.1]? = some q.2 ∧ goodWord q.2 = true := by decide +kernel
theorem w360 : .selects RX8 yX8_seatsIn yX8_seatsIn ∈ zTg := zin_of (wK15 _ (List.mem_of_getElem? (i := 0) (show wL15[0]? = some (3, .selects RX8 yX8_seatsIn yX8_seatsIn) from rfl)))
theorem w361 : .methodLink RX8 49 yJ7_fill_53178 ∈ zTg := zin_of (wK15 _ (List.mem_of_getElem? (i := 1) (show wL15[1]? = some (691, .methodLink RX8 49 yJ7_fill_53178) from rfl)))
theorem w362 : .methodLink RX8 55 yX8_isWinning ∈ zTg := zin_of (wK15 _ (List.mem_of_getElem? (i := 2) (show wL15[2]? = some (692, .methodLink RX8 55 yX8_isWinning) from rfl)))
theorem w363 : .instanceMethod yX8_isWinning ∈ zTg := zin_of (wK15 _ (List.mem_of_getElem? (i := 3) (show wL15[3]? = some (667, .instanceMethod yX8_isWinning) from rfl)))
theorem w364 : .selects RX8 yX8_isWinning yX8_isWinning ∈ zTg := zin_of (wK15 _ (List.mem_of_getElem? (i := 4) (show wL15[4]? = some (668, .selects RX8 yX8_isWinning yX8_isWinning) from rfl)))
theorem w365 : .methodLink RX8 59 yX8_addSwings ∈ zTg := zin_of (wK15 _ (List.mem_of_getElem? (i := 5) (show wL15[5]? = some (693, .methodLink RX8 59 yX8_addSwings) from rfl)))
theorem w366 : .instanceMethod yX8_addSwings ∈ zTg := zin_of (wK15 _ (List.mem_of_getElem? (i := 6) (show wL15[6]? = some (695, .instanceMethod yX8_addSwings) from rfl)))
theorem w367 : .selects RX8 yX8_addSwings yX8_addSwings ∈ zTg := zin_of (wK15 _ (List.mem_of_getElem? (i := 7) (show wL15[7]? = some (4, .selects RX8 yX8_addSwings yX8_addSwings) from rfl)))
theorem w368 : .methodLink RX9 3 Lib.objectInit ∈ zTg := zin_of (wK15 _ (List.mem_of_getElem? (i := 8) (show wL15[8]? = some (174, .methodLink RX9 3 Lib.objectInit) from rfl)))
theorem w369 : .fieldLink RX9 9 "DrizzleVote$Weather" "sky" "I" ∈ zTg := zin_of (wK15 _ (List.mem_of_getElem? (i := 9) (show wL15[9]? = some (176, .fieldLink RX9 9 "DrizzleVote$Weather" "sky" "I") from rfl)))
theorem w370 : .fieldLink RX9 15 "DrizzleVote$Weather" "seed" "I" ∈ zTg := zin_of (wK15 _ (List.mem_of_getElem? (i := 10) (show wL15[10]? = some (189, .fieldLink RX9 15 "DrizzleVote$Weather" "seed" "I") from rfl)))
theorem w371 : .fieldLink RX9 18 "DrizzleVote$Weather" "weights" "[I" ∈ zTg := zin_of (wK15 _ (List.mem_of_getElem? (i := 11) (show wL15[11]? = some (191, .fieldLink RX9 18 "DrizzleVote$Weather" "weights" "[I") from rfl)))
theorem w372 : .methodLink RX9 22 yJ7_fill_53178 ∈ zTg := zin_of (wK15 _ (List.mem_of_getElem? (i := 12) (show wL15[12]? = some (175, .methodLink RX9 22 yJ7_fill_53178) from rfl)))
theorem w373 : .fieldLink RX9 28 "DrizzleVote$Weather" "has" "[I" ∈ zTg := zin_of (wK15 _ (List.mem_of_getElem? (i := 13) (show wL15[13]? = some (194, .fieldLink RX9 28 "DrizzleVote$Weather" "has" "[I") from rfl)))
theorem w374 : .fieldLink RX9 31 "DrizzleVote$Weather" "gets" "[I" ∈ zTg := zin_of (wK15 _ (List.mem_of_getElem? (i := 14) (show wL15[14]? = some (197, .fieldLink RX9 31 "DrizzleVote$Weather" "gets" "[I") from rfl)))
theorem w375 : .fieldLink RX9 34 "DrizzleVote$Weather" "hour" "I" ∈ zTg := zin_of (wK15 _ (List.mem_of_getElem? (i := 15) (show wL15[15]? = some (180, .fieldLink RX9 34 "DrizzleVote$Weather" "hour" "I") from rfl)))
theorem w376 : .fieldLink RX9 37 "DrizzleVote$Weather" "day" "I" ∈ zTg := zin_of (wK15 _ (List.mem_of_getElem? (i := 16) (show wL15[16]? = some (185, .fieldLink RX9 37 "DrizzleVote$Weather" "day" "I") from rfl)))
theorem w377 : .methodLink RX9 40 arraycopyName ∈ zTg := zin_of (wK15 _ (List.mem_of_getElem? (i := 17) (show wL15[17]? = some (738, .methodLink RX9 40 arraycopyName) from rfl)))
theorem w378 : .constant RX9 46 (Int32.ofInt 1103515245) ∈ zTg := zin_of (wK15 _ (List.mem_of_getElem? (i := 18) (show wL15[18]? = some (1296, .constant RX9 46 (Int32.ofInt 1103515245)) from rfl)))
theorem w379 : .methodLink RX9 47 yX9_sumBehind ∈ zTg := zin_of (wK15 _ (List.mem_of_getElem? (i := 19) (show wL15[19]? = some (734, .methodLink RX9 47 yX9_sumBehind) from rfl)))
theorem w380 : .instanceMethod yX9_sumBehind ∈ zTg := zin_of (wK15 _ (List.mem_of_getElem? (i := 20) (show wL15[20]? = some (735, .instanceMethod yX9_sumBehind) from rfl)))
theorem w381 : .selects RX9 yX9_sumBehind yX9_sumBehind ∈ zTg := zin_of (wK15 _ (List.mem_of_getElem? (i := 21) (show wL15[21]? = some (736, .selects RX9 yX9_sumBehind yX9_sumBehind) from rfl)))
theorem w382 : .methodLink RX9 51 yJ9_min_7cf53 ∈ zTg := zin_of (wK15 _ (List.mem_of_getElem? (i := 22) (show wL15[22]? = some (1305, .methodLink RX9 51 yJ9_min_7cf53) from rfl)))
theorem w383 : .methodLink RX9 57 yX9_give ∈ zTg := zin_of (wK15 _ (List.mem_of_getElem? (i := 23) (show wL15[23]? = some (730, .methodLink RX9 57 yX9_give) from rfl)))
def wL16 : List (Nat × Cond) := [(732, .instanceMethod yX9_give), (5, .selects RX9 yX9_give yX9_give), (722, .methodLink RX9 61 yX9_startChances), (726, .methodLink RX9 64 yX9_spreadHour), (363, .methodLink RX10 3 Lib.objectInit), (364, .fieldLink RX10 9 "DrizzleVote$Words" "wrong" "I"), (367, .fieldLink RX10 15 "DrizzleVote$Words" "text" "[I"), (820, .methodLink RX10 19 yJ9_min_7cf53), (821, .methodLink RX10 25 yJ9_max_7cf53), (368, .fieldLink RX10 28 "DrizzleVote$Words" "length" "I"), (371, .fieldLink RX10 31 "DrizzleVote$Words" "stop" "I"), (822, .methodLink RX10 34 yX10_advance), (369, .fieldLink RX10 37 "DrizzleVote$Words" "begin" "I"), (372, .fieldLink RX10 40 "DrizzleVote$Words" "kind" "I"), (839, .methodLink RX10 43 yJ0_length_8abf5), (840, .instanceMethod yJ0_length_8abf5), (841, .selects RJ0 yJ0_length_8abf5 yJ0_length_8abf5), (849, .methodLink RX10 48 yJ0_charAt_5068e), (850, .instanceMethod yJ0_charAt_5068e), (851, .selects RJ0 yJ0_charAt_5068e yJ0_charAt_5068e), (901, .methodLink RX10 52 yX10_atWord), (897, .methodLink RX10 56 yX10_takeWord), (902, .methodLink RX10 59 yX10_fail), (995, .methodLink RX10 63 yX10_atSign)]
set_option maxRecDepth 100000 in
theorem wK16 : ∀ q ∈ wL16, lw_tbl[q.1]? = some q.2 ∧ goodWord q.2 = true := by decide +kernel
theorem w384 : .instanceMethod yX9_give ∈ zTg := zin_of (wK16 _ (List.mem_of_getElem? (i := 0) (show wL16[0]? = some (732, .instanceMethod yX9_give) from rfl)))
theorem w385 : .selects RX9 yX9_give yX9_give ∈ zTg := zin_of (wK16 _ (List.mem_of_getElem? (i := 1) (show wL16[1]? = some (5, .selects RX9 yX9_give yX9_give) from rfl)))
theorem w386 : .methodLink RX9 61 yX9_startChances ∈ zTg := zin_of (wK16 _ (List.mem_of_getElem? (i := 2) (show wL16[2]? = some (722, .methodLink RX9 61 yX9_startChances) from rfl)))
theorem w387 : .methodLink RX9 64 yX9_spreadHour ∈ zTg := zin_of (wK16 _ (List.mem_of_getElem? (i := 3) (show wL16[3]? = some (726, .methodLink RX9 64 yX9_spreadHour) from rfl)))
theorem w388 : .methodLink RX10 3 Lib.objectInit ∈ zTg := zin_of (wK16 _ (List.mem_of_getElem? (i := 4) (show wL16[4]? = some (363, .methodLink RX10 3 Lib.objectInit) from rfl)))
theorem w389 : .fieldLink RX10 9 "DrizzleVote$Words" "wrong" "I" ∈ zTg := zin_of (wK16 _ (List.mem_of_getElem? (i := 5) (show wL16[5]? = some (364, .fieldLink RX10 9 "DrizzleVote$Words" "wrong" "I") from rfl)))
theorem w390 : .fieldLink RX10 15 "DrizzleVote$Words" "text" "[I" ∈ zTg := zin_of (wK16 _ (List.mem_of_getElem? (i := 6) (show wL16[6]? = some (367, .fieldLink RX10 15 "DrizzleVote$Words" "text" "[I") from rfl)))
theorem w391 : .methodLink RX10 19 yJ9_min_7cf53 ∈ zTg := zin_of (wK16 _ (List.mem_of_getElem? (i := 7) (show wL16[7]? = some (820, .methodLink RX10 19 yJ9_min_7cf53) from rfl)))
theorem w392 : .methodLink RX10 25 yJ9_max_7cf53 ∈ zTg := zin_of (wK16 _ (List.mem_of_getElem? (i := 8) (show wL16[8]? = some (821, .methodLink RX10 25 yJ9_max_7cf53) from rfl)))
theorem w393 : .fieldLink RX10 28 "DrizzleVote$Words" "length" "I" ∈ zTg := zin_of (wK16 _ (List.mem_of_getElem? (i := 9) (show wL16[9]? = some (368, .fieldLink RX10 28 "DrizzleVote$Words" "length" "I") from rfl)))
theorem w394 : .fieldLink RX10 31 "DrizzleVote$Words" "stop" "I" ∈ zTg := zin_of (wK16 _ (List.mem_of_getElem? (i := 10) (show wL16[10]? = some (371, .fieldLink RX10 31 "DrizzleVote$Words" "stop" "I") from rfl)))
theorem w395 : .methodLink RX10 34 yX10_advance ∈ zTg := zin_of (wK16 _ (List.mem_of_getElem? (i := 11) (show wL16[11]? = some (822, .methodLink RX10 34 yX10_advance) from rfl)))
theorem w396 : .fieldLink RX10 37 "DrizzleVote$Words" "begin" "I" ∈ zTg := zin_of (wK16 _ (List.mem_of_getElem? (i := 12) (show wL16[12]? = some (369, .fieldLink RX10 37 "DrizzleVote$Words" "begin" "I") from rfl)))
theorem w397 : .fieldLink RX10 40 "DrizzleVote$Words" "kind" "I" ∈ zTg := zin_of (wK16 _ (List.mem_of_getElem? (i := 13) (show wL16[13]? = some (372, .fieldLink RX10 40 "DrizzleVote$Words" "kind" "I") from rfl)))
theorem w398 : .methodLink RX10 43 yJ0_length_8abf5 ∈ zTg := zin_of (wK16 _ (List.mem_of_getElem? (i := 14) (show wL16[14]? = some (839, .methodLink RX10 43 yJ0_length_8abf5) from rfl)))
theorem w399 : .instanceMethod yJ0_length_8abf5 ∈ zTg := zin_of (wK16 _ (List.mem_of_getElem? (i := 15) (show wL16[15]? = some (840, .instanceMethod yJ0_length_8abf5) from rfl)))
theorem w400 : .selects RJ0 yJ0_length_8abf5 yJ0_length_8abf5 ∈ zTg := zin_of (wK16 _ (List.mem_of_getElem? (i := 16) (show wL16[16]? = some (841, .selects RJ0 yJ0_length_8abf5 yJ0_length_8abf5) from rfl)))
theorem w401 : .methodLink RX10 48 yJ0_charAt_5068e ∈ zTg := zin_of (wK16 _ (List.mem_of_getElem? (i := 17) (show wL16[17]? = some (849, .methodLink RX10 48 yJ0_charAt_5068e) from rfl)))
theorem w402 : .instanceMethod yJ0_charAt_5068e ∈ zTg := zin_of (wK16 _ (List.mem_of_getElem? (i := 18) (show wL16[18]? = some (850, .instanceMethod yJ0_charAt_5068e) from rfl)))
theorem w403 : .selects RJ0 yJ0_charAt_5068e yJ0_charAt_5068e ∈ zTg := zin_of (wK16 _ (List.mem_of_getElem? (i := 19) (show wL16[19]? = some (851, .selects RJ0 yJ0_charAt_5068e yJ0_charAt_5068e) from rfl)))
theorem w404 : .methodLink RX10 52 yX10_atWord ∈ zTg := zin_of (wK16 _ (List.mem_of_getElem? (i := 20) (show wL16[20]? = some (901, .methodLink RX10 52 yX10_atWord) from rfl)))
theorem w405 : .methodLink RX10 56 yX10_takeWord ∈ zTg := zin_of (wK16 _ (List.mem_of_getElem? (i := 21) (show wL16[21]? = some (897, .methodLink RX10 56 yX10_takeWord) from rfl)))
theorem w406 : .methodLink RX10 59 yX10_fail ∈ zTg := zin_of (wK16 _ (List.mem_of_getElem? (i := 22) (show wL16[22]? = some (902, .methodLink RX10 59 yX10_fail) from rfl)))
theorem w407 : .methodLink RX10 63 yX10_atSign ∈ zTg := zin_of (wK16 _ (List.mem_of_getElem? (i := 23) (show wL16[23]? = some (995, .methodLink RX10 63 yX10_atSign) from rfl)))
def wL17 : List (Nat × Cond) := [(991, .methodLink RX10 67 yX10_takeSign), (935, .methodLink RX10 70 yX10_figure), (157, .methodLink RX11 1 Lib.objectInit), (502, .fieldLink RX11 9 "DrizzleVote" "tape" "[I"), (504, .fieldLink RX11 13 "DrizzleVote" "wrongByte" "I"), (160, .classLink RX11 17 RX1), (162, .methodLink RX11 19 yX1_init), (505, .fieldLink RX11 20 "DrizzleVote" "now" "LDrizzleVote$Council;"), (506, .fieldLink RX11 24 "DrizzleVote" "tried" "LDrizzleVote$Council;"), (507, .fieldLink RX11 27 "DrizzleVote" "kept" "LDrizzleVote$Council;"), (509, .fieldLink RX11 30 "DrizzleVote" "past" "[LDrizzleVote$Council;"), (352, .classLink RX11 34 RX0), (353, .instantiable RX0 2), (129, .initialized RX0), (354, .methodLink RX11 36 yX0_init), (355, .instanceMethod yX0_init), (512, .fieldLink RX11 37 "DrizzleVote" "coastText" "LDrizzleVote$CoastText;"), (397, .classLink RX11 41 RX4), (398, .instantiable RX4 2), (131, .initialized RX4), (399, .methodLink RX11 43 yX4_init), (400, .instanceMethod yX4_init), (513, .fieldLink RX11 44 "DrizzleVote" "lawText" "LDrizzleVote$LawText;"), (443, .classLink RX11 48 RX2)]
set_option maxRecDepth 100000 in
theorem wK17 : ∀ q ∈ wL17, lw_tbl[q.1]? = some q.2 ∧ goodWord q.2 = true := by decide +kernel
theorem w408 : .methodLink RX10 67 yX10_takeSign ∈ zTg := zin_of (wK17 _ (List.mem_of_getElem? (i := 0) (show wL17[0]? = some (991, .methodLink RX10 67 yX10_takeSign) from rfl)))
theorem w409 : .methodLink RX10 70 yX10_figure ∈ zTg := zin_of (wK17 _ (List.mem_of_getElem? (i := 1) (show wL17[1]? = some (935, .methodLink RX10 70 yX10_figure) from rfl)))
theorem w410 : .methodLink RX11 1 Lib.objectInit ∈ zTg := zin_of (wK17 _ (List.mem_of_getElem? (i := 2) (show wL17[2]? = some (157, .methodLink RX11 1 Lib.objectInit) from rfl)))
theorem w411 : .fieldLink RX11 9 "DrizzleVote" "tape" "[I" ∈ zTg := zin_of (wK17 _ (List.mem_of_getElem? (i := 3) (show wL17[3]? = some (502, .fieldLink RX11 9 "DrizzleVote" "tape" "[I") from rfl)))
theorem w412 : .fieldLink RX11 13 "DrizzleVote" "wrongByte" "I" ∈ zTg := zin_of (wK17 _ (List.mem_of_getElem? (i := 4) (show wL17[4]? = some (504, .fieldLink RX11 13 "DrizzleVote" "wrongByte" "I") from rfl)))
theorem w413 : .classLink RX11 17 RX1 ∈ zTg := zin_of (wK17 _ (List.mem_of_getElem? (i := 5) (show wL17[5]? = some (160, .classLink RX11 17 RX1) from rfl)))
theorem w414 : .methodLink RX11 19 yX1_init ∈ zTg := zin_of (wK17 _ (List.mem_of_getElem? (i := 6) (show wL17[6]? = some (162, .methodLink RX11 19 yX1_init) from rfl)))
theorem w415 : .fieldLink RX11 20 "DrizzleVote" "now" "LDrizzleVote$Council;" ∈ zTg := zin_of (wK17 _ (List.mem_of_getElem? (i := 7) (show wL17[7]? = some (505, .fieldLink RX11 20 "DrizzleVote" "now" "LDrizzleVote$Council;") from rfl)))
theorem w416 : .fieldLink RX11 24 "DrizzleVote" "tried" "LDrizzleVote$Council;" ∈ zTg := zin_of (wK17 _ (List.mem_of_getElem? (i := 8) (show wL17[8]? = some (506, .fieldLink RX11 24 "DrizzleVote" "tried" "LDrizzleVote$Council;") from rfl)))
theorem w417 : .fieldLink RX11 27 "DrizzleVote" "kept" "LDrizzleVote$Council;" ∈ zTg := zin_of (wK17 _ (List.mem_of_getElem? (i := 9) (show wL17[9]? = some (507, .fieldLink RX11 27 "DrizzleVote" "kept" "LDrizzleVote$Council;") from rfl)))
theorem w418 : .fieldLink RX11 30 "DrizzleVote" "past" "[LDrizzleVote$Council;" ∈ zTg := zin_of (wK17 _ (List.mem_of_getElem? (i := 10) (show wL17[10]? = some (509, .fieldLink RX11 30 "DrizzleVote" "past" "[LDrizzleVote$Council;") from rfl)))
theorem w419 : .classLink RX11 34 RX0 ∈ zTg := zin_of (wK17 _ (List.mem_of_getElem? (i := 11) (show wL17[11]? = some (352, .classLink RX11 34 RX0) from rfl)))
theorem w420 : .instantiable RX0 2 ∈ zTg := zin_of (wK17 _ (List.mem_of_getElem? (i := 12) (show wL17[12]? = some (353, .instantiable RX0 2) from rfl)))
theorem w421 : .initialized RX0 ∈ zTg := zin_of (wK17 _ (List.mem_of_getElem? (i := 13) (show wL17[13]? = some (129, .initialized RX0) from rfl)))
theorem w422 : .methodLink RX11 36 yX0_init ∈ zTg := zin_of (wK17 _ (List.mem_of_getElem? (i := 14) (show wL17[14]? = some (354, .methodLink RX11 36 yX0_init) from rfl)))
theorem w423 : .instanceMethod yX0_init ∈ zTg := zin_of (wK17 _ (List.mem_of_getElem? (i := 15) (show wL17[15]? = some (355, .instanceMethod yX0_init) from rfl)))
theorem w424 : .fieldLink RX11 37 "DrizzleVote" "coastText" "LDrizzleVote$CoastText;" ∈ zTg := zin_of (wK17 _ (List.mem_of_getElem? (i := 16) (show wL17[16]? = some (512, .fieldLink RX11 37 "DrizzleVote" "coastText" "LDrizzleVote$CoastText;") from rfl)))
theorem w425 : .classLink RX11 41 RX4 ∈ zTg := zin_of (wK17 _ (List.mem_of_getElem? (i := 17) (show wL17[17]? = some (397, .classLink RX11 41 RX4) from rfl)))
theorem w426 : .instantiable RX4 2 ∈ zTg := zin_of (wK17 _ (List.mem_of_getElem? (i := 18) (show wL17[18]? = some (398, .instantiable RX4 2) from rfl)))
theorem w427 : .initialized RX4 ∈ zTg := zin_of (wK17 _ (List.mem_of_getElem? (i := 19) (show wL17[19]? = some (131, .initialized RX4) from rfl)))
theorem w428 : .methodLink RX11 43 yX4_init ∈ zTg := zin_of (wK17 _ (List.mem_of_getElem? (i := 20) (show wL17[20]? = some (399, .methodLink RX11 43 yX4_init) from rfl)))
theorem w429 : .instanceMethod yX4_init ∈ zTg := zin_of (wK17 _ (List.mem_of_getElem? (i := 21) (show wL17[21]? = some (400, .instanceMethod yX4_init) from rfl)))
theorem w430 : .fieldLink RX11 44 "DrizzleVote" "lawText" "LDrizzleVote$LawText;" ∈ zTg := zin_of (wK17 _ (List.mem_of_getElem? (i := 22) (show wL17[22]? = some (513, .fieldLink RX11 44 "DrizzleVote" "lawText" "LDrizzleVote$LawText;") from rfl)))
theorem w431 : .classLink RX11 48 RX2 ∈ zTg := zin_of (wK17 _ (List.mem_of_getElem? (i := 23) (show wL17[23]? = some (443, .classLink RX11 48 RX2) from rfl)))
def wL18 : List (Nat × Cond) := [(444, .instantiable RX2 3), (133, .initialized RX2), (445, .methodLink RX11 50 yX2_init), (446, .instanceMethod yX2_init), (514, .fieldLink RX11 51 "DrizzleVote" "told" "LDrizzleVote$Cuffs;"), (461, .classLink RX11 55 RX8), (462, .instantiable RX8 4), (134, .initialized RX8), (463, .methodLink RX11 57 yX8_init), (464, .instanceMethod yX8_init), (515, .fieldLink RX11 58 "DrizzleVote" "sides" "LDrizzleVote$Sides;"), (482, .classLink RX11 62 RX7), (483, .instantiable RX7 4), (135, .initialized RX7), (484, .methodLink RX11 64 yX7_init), (485, .instanceMethod yX7_init), (516, .fieldLink RX11 65 "DrizzleVote" "planner" "LDrizzleVote$Planner;"), (503, .fieldLink RX11 69 "DrizzleVote" "taped" "I"), (552, .methodLink RX11 72 yX11_putNumber), (554, .instanceMethod yX11_putNumber), (0, .selects RX11 yX11_putNumber yX11_putNumber), (811, .methodLink RX11 76 yX0_readText), (812, .instanceMethod yX0_readText), (813, .selects RX0 yX0_readText yX0_readText)]
set_option maxRecDepth 100000 in
theorem wK18 : ∀ q ∈ wL18, lw_tbl[q.1]? = some q.2 ∧ goodWord q.2 = true := by decide +kernel
theorem w432 : .instantiable RX2 3 ∈ zTg := zin_of (wK18 _ (List.mem_of_getElem? (i := 0) (show wL18[0]? = some (444, .instantiable RX2 3) from rfl)))
theorem w433 : .initialized RX2 ∈ zTg := zin_of (wK18 _ (List.mem_of_getElem? (i := 1) (show wL18[1]? = some (133, .initialized RX2) from rfl)))
theorem w434 : .methodLink RX11 50 yX2_init ∈ zTg := zin_of (wK18 _ (List.mem_of_getElem? (i := 2) (show wL18[2]? = some (445, .methodLink RX11 50 yX2_init) from rfl)))
theorem w435 : .instanceMethod yX2_init ∈ zTg := zin_of (wK18 _ (List.mem_of_getElem? (i := 3) (show wL18[3]? = some (446, .instanceMethod yX2_init) from rfl)))
theorem w436 : .fieldLink RX11 51 "DrizzleVote" "told" "LDrizzleVote$Cuffs;" ∈ zTg := zin_of (wK18 _ (List.mem_of_getElem? (i := 4) (show wL18[4]? = some (514, .fieldLink RX11 51 "DrizzleVote" "told" "LDrizzleVote$Cuffs;") from rfl)))
theorem w437 : .classLink RX11 55 RX8 ∈ zTg := zin_of (wK18 _ (List.mem_of_getElem? (i := 5) (show wL18[5]? = some (461, .classLink RX11 55 RX8) from rfl)))
theorem w438 : .instantiable RX8 4 ∈ zTg := zin_of (wK18 _ (List.mem_of_getElem? (i := 6) (show wL18[6]? = some (462, .instantiable RX8 4) from rfl)))
theorem w439 : .initialized RX8 ∈ zTg := zin_of (wK18 _ (List.mem_of_getElem? (i := 7) (show wL18[7]? = some (134, .initialized RX8) from rfl)))
theorem w440 : .methodLink RX11 57 yX8_init ∈ zTg := zin_of (wK18 _ (List.mem_of_getElem? (i := 8) (show wL18[8]? = some (463, .methodLink RX11 57 yX8_init) from rfl)))
theorem w441 : .instanceMethod yX8_init ∈ zTg := zin_of (wK18 _ (List.mem_of_getElem? (i := 9) (show wL18[9]? = some (464, .instanceMethod yX8_init) from rfl)))
theorem w442 : .fieldLink RX11 58 "DrizzleVote" "sides" "LDrizzleVote$Sides;" ∈ zTg := zin_of (wK18 _ (List.mem_of_getElem? (i := 10) (show wL18[10]? = some (515, .fieldLink RX11 58 "DrizzleVote" "sides" "LDrizzleVote$Sides;") from rfl)))
theorem w443 : .classLink RX11 62 RX7 ∈ zTg := zin_of (wK18 _ (List.mem_of_getElem? (i := 11) (show wL18[11]? = some (482, .classLink RX11 62 RX7) from rfl)))
theorem w444 : .instantiable RX7 4 ∈ zTg := zin_of (wK18 _ (List.mem_of_getElem? (i := 12) (show wL18[12]? = some (483, .instantiable RX7 4) from rfl)))
theorem w445 : .initialized RX7 ∈ zTg := zin_of (wK18 _ (List.mem_of_getElem? (i := 13) (show wL18[13]? = some (135, .initialized RX7) from rfl)))
theorem w446 : .methodLink RX11 64 yX7_init ∈ zTg := zin_of (wK18 _ (List.mem_of_getElem? (i := 14) (show wL18[14]? = some (484, .methodLink RX11 64 yX7_init) from rfl)))
theorem w447 : .instanceMethod yX7_init ∈ zTg := zin_of (wK18 _ (List.mem_of_getElem? (i := 15) (show wL18[15]? = some (485, .instanceMethod yX7_init) from rfl)))
theorem w448 : .fieldLink RX11 65 "DrizzleVote" "planner" "LDrizzleVote$Planner;" ∈ zTg := zin_of (wK18 _ (List.mem_of_getElem? (i := 16) (show wL18[16]? = some (516, .fieldLink RX11 65 "DrizzleVote" "planner" "LDrizzleVote$Planner;") from rfl)))
theorem w449 : .fieldLink RX11 69 "DrizzleVote" "taped" "I" ∈ zTg := zin_of (wK18 _ (List.mem_of_getElem? (i := 17) (show wL18[17]? = some (503, .fieldLink RX11 69 "DrizzleVote" "taped" "I") from rfl)))
theorem w450 : .methodLink RX11 72 yX11_putNumber ∈ zTg := zin_of (wK18 _ (List.mem_of_getElem? (i := 18) (show wL18[18]? = some (552, .methodLink RX11 72 yX11_putNumber) from rfl)))
theorem w451 : .instanceMethod yX11_putNumber ∈ zTg := zin_of (wK18 _ (List.mem_of_getElem? (i := 19) (show wL18[19]? = some (554, .instanceMethod yX11_putNumber) from rfl)))
theorem w452 : .selects RX11 yX11_putNumber yX11_putNumber ∈ zTg := zin_of (wK18 _ (List.mem_of_getElem? (i := 20) (show wL18[20]? = some (0, .selects RX11 yX11_putNumber yX11_putNumber) from rfl)))
theorem w453 : .methodLink RX11 76 yX0_readText ∈ zTg := zin_of (wK18 _ (List.mem_of_getElem? (i := 21) (show wL18[21]? = some (811, .methodLink RX11 76 yX0_readText) from rfl)))
theorem w454 : .instanceMethod yX0_readText ∈ zTg := zin_of (wK18 _ (List.mem_of_getElem? (i := 22) (show wL18[22]? = some (812, .instanceMethod yX0_readText) from rfl)))
theorem w455 : .selects RX0 yX0_readText yX0_readText ∈ zTg := zin_of (wK18 _ (List.mem_of_getElem? (i := 23) (show wL18[23]? = some (813, .selects RX0 yX0_readText yX0_readText) from rfl)))
def wL19 : List (Nat × Cond) := [(389, .fieldLink RX11 80 "DrizzleVote$CoastText" "words" "LDrizzleVote$Words;"), (365, .fieldLink RX11 84 "DrizzleVote$Words" "wrong" "I"), (275, .fieldLink RX11 96 "DrizzleVote$Council" "texts" "I"), (391, .fieldLink RX11 104 "DrizzleVote$CoastText" "draft" "LDrizzleVote$Council;"), (767, .methodLink RX11 107 yX1_takeAll), (794, .methodLink RX11 111 yX11_forgetActs), (796, .instanceMethod yX11_forgetActs), (6, .selects RX11 yX11_forgetActs yX11_forgetActs), (1092, .methodLink RX11 114 yX4_readText), (1093, .instanceMethod yX4_readText), (1094, .selects RX4 yX4_readText yX4_readText), (435, .fieldLink RX11 117 "DrizzleVote$LawText" "words" "LDrizzleVote$Words;"), (437, .fieldLink RX11 120 "DrizzleVote$LawText" "draft" "LDrizzleVote$Law;"), (308, .fieldLink RX11 123 "DrizzleVote$Council" "laws" "LDrizzleVote$Law;"), (412, .fieldLink RX11 126 "DrizzleVote$Law" "lines" "I"), (1170, .methodLink RX11 131 yX11_needMember), (1172, .instanceMethod yX11_needMember), (23, .selects RX11 yX11_needMember yX11_needMember), (283, .fieldLink RX11 134 "DrizzleVote$Council" "places" "[I"), (286, .fieldLink RX11 137 "DrizzleVote$Council" "seats" "[I"), (289, .fieldLink RX11 140 "DrizzleVote$Council" "hats" "I"), (643, .methodLink RX11 143 yX11_bitOf), (292, .fieldLink RX11 147 "DrizzleVote$Council" "outs" "I"), (1190, .methodLink RX11 150 yX1_shareOf)]
set_option maxRecDepth 100000 in
theorem wK19 : ∀ q ∈ wL19, lw_tbl[q.1]? = some q.2 ∧ goodWord q.2 = true := by decide +kernel
theorem w456 : .fieldLink RX11 80 "DrizzleVote$CoastText" "words" "LDrizzleVote$Words;" ∈ zTg := zin_of (wK19 _ (List.mem_of_getElem? (i := 0) (show wL19[0]? = some (389, .fieldLink RX11 80 "DrizzleVote$CoastText" "words" "LDrizzleVote$Words;") from rfl)))
theorem w457 : .fieldLink RX11 84 "DrizzleVote$Words" "wrong" "I" ∈ zTg := zin_of (wK19 _ (List.mem_of_getElem? (i := 1) (show wL19[1]? = some (365, .fieldLink RX11 84 "DrizzleVote$Words" "wrong" "I") from rfl)))
theorem w458 : .fieldLink RX11 96 "DrizzleVote$Council" "texts" "I" ∈ zTg := zin_of (wK19 _ (List.mem_of_getElem? (i := 2) (show wL19[2]? = some (275, .fieldLink RX11 96 "DrizzleVote$Council" "texts" "I") from rfl)))
theorem w459 : .fieldLink RX11 104 "DrizzleVote$CoastText" "draft" "LDrizzleVote$Council;" ∈ zTg := zin_of (wK19 _ (List.mem_of_getElem? (i := 3) (show wL19[3]? = some (391, .fieldLink RX11 104 "DrizzleVote$CoastText" "draft" "LDrizzleVote$Council;") from rfl)))
theorem w460 : .methodLink RX11 107 yX1_takeAll ∈ zTg := zin_of (wK19 _ (List.mem_of_getElem? (i := 4) (show wL19[4]? = some (767, .methodLink RX11 107 yX1_takeAll) from rfl)))
theorem w461 : .methodLink RX11 111 yX11_forgetActs ∈ zTg := zin_of (wK19 _ (List.mem_of_getElem? (i := 5) (show wL19[5]? = some (794, .methodLink RX11 111 yX11_forgetActs) from rfl)))
theorem w462 : .instanceMethod yX11_forgetActs ∈ zTg := zin_of (wK19 _ (List.mem_of_getElem? (i := 6) (show wL19[6]? = some (796, .instanceMethod yX11_forgetActs) from rfl)))
theorem w463 : .selects RX11 yX11_forgetActs yX11_forgetActs ∈ zTg := zin_of (wK19 _ (List.mem_of_getElem? (i := 7) (show wL19[7]? = some (6, .selects RX11 yX11_forgetActs yX11_forgetActs) from rfl)))
theorem w464 : .methodLink RX11 114 yX4_readText ∈ zTg := zin_of (wK19 _ (List.mem_of_getElem? (i := 8) (show wL19[8]? = some (1092, .methodLink RX11 114 yX4_readText) from rfl)))
theorem w465 : .instanceMethod yX4_readText ∈ zTg := zin_of (wK19 _ (List.mem_of_getElem? (i := 9) (show wL19[9]? = some (1093, .instanceMethod yX4_readText) from rfl)))
theorem w466 : .selects RX4 yX4_readText yX4_readText ∈ zTg := zin_of (wK19 _ (List.mem_of_getElem? (i := 10) (show wL19[10]? = some (1094, .selects RX4 yX4_readText yX4_readText) from rfl)))
theorem w467 : .fieldLink RX11 117 "DrizzleVote$LawText" "words" "LDrizzleVote$Words;" ∈ zTg := zin_of (wK19 _ (List.mem_of_getElem? (i := 11) (show wL19[11]? = some (435, .fieldLink RX11 117 "DrizzleVote$LawText" "words" "LDrizzleVote$Words;") from rfl)))
theorem w468 : .fieldLink RX11 120 "DrizzleVote$LawText" "draft" "LDrizzleVote$Law;" ∈ zTg := zin_of (wK19 _ (List.mem_of_getElem? (i := 12) (show wL19[12]? = some (437, .fieldLink RX11 120 "DrizzleVote$LawText" "draft" "LDrizzleVote$Law;") from rfl)))
theorem w469 : .fieldLink RX11 123 "DrizzleVote$Council" "laws" "LDrizzleVote$Law;" ∈ zTg := zin_of (wK19 _ (List.mem_of_getElem? (i := 13) (show wL19[13]? = some (308, .fieldLink RX11 123 "DrizzleVote$Council" "laws" "LDrizzleVote$Law;") from rfl)))
theorem w470 : .fieldLink RX11 126 "DrizzleVote$Law" "lines" "I" ∈ zTg := zin_of (wK19 _ (List.mem_of_getElem? (i := 14) (show wL19[14]? = some (412, .fieldLink RX11 126 "DrizzleVote$Law" "lines" "I") from rfl)))
theorem w471 : .methodLink RX11 131 yX11_needMember ∈ zTg := zin_of (wK19 _ (List.mem_of_getElem? (i := 15) (show wL19[15]? = some (1170, .methodLink RX11 131 yX11_needMember) from rfl)))
theorem w472 : .instanceMethod yX11_needMember ∈ zTg := zin_of (wK19 _ (List.mem_of_getElem? (i := 16) (show wL19[16]? = some (1172, .instanceMethod yX11_needMember) from rfl)))
theorem w473 : .selects RX11 yX11_needMember yX11_needMember ∈ zTg := zin_of (wK19 _ (List.mem_of_getElem? (i := 17) (show wL19[17]? = some (23, .selects RX11 yX11_needMember yX11_needMember) from rfl)))
theorem w474 : .fieldLink RX11 134 "DrizzleVote$Council" "places" "[I" ∈ zTg := zin_of (wK19 _ (List.mem_of_getElem? (i := 18) (show wL19[18]? = some (283, .fieldLink RX11 134 "DrizzleVote$Council" "places" "[I") from rfl)))
theorem w475 : .fieldLink RX11 137 "DrizzleVote$Council" "seats" "[I" ∈ zTg := zin_of (wK19 _ (List.mem_of_getElem? (i := 19) (show wL19[19]? = some (286, .fieldLink RX11 137 "DrizzleVote$Council" "seats" "[I") from rfl)))
theorem w476 : .fieldLink RX11 140 "DrizzleVote$Council" "hats" "I" ∈ zTg := zin_of (wK19 _ (List.mem_of_getElem? (i := 20) (show wL19[20]? = some (289, .fieldLink RX11 140 "DrizzleVote$Council" "hats" "I") from rfl)))
theorem w477 : .methodLink RX11 143 yX11_bitOf ∈ zTg := zin_of (wK19 _ (List.mem_of_getElem? (i := 21) (show wL19[21]? = some (643, .methodLink RX11 143 yX11_bitOf) from rfl)))
theorem w478 : .fieldLink RX11 147 "DrizzleVote$Council" "outs" "I" ∈ zTg := zin_of (wK19 _ (List.mem_of_getElem? (i := 22) (show wL19[22]? = some (292, .fieldLink RX11 147 "DrizzleVote$Council" "outs" "I") from rfl)))
theorem w479 : .methodLink RX11 150 yX1_shareOf ∈ zTg := zin_of (wK19 _ (List.mem_of_getElem? (i := 23) (show wL19[23]? = some (1190, .methodLink RX11 150 yX1_shareOf) from rfl)))
def wL20 : List (Nat × Cond) := [(1191, .instanceMethod yX1_shareOf), (1192, .selects RX1 yX1_shareOf yX1_shareOf), (316, .fieldLink RX11 154 "DrizzleVote$Council" "motions" "LDrizzleVote$Motions;"), (1194, .methodLink RX11 158 yX6_thoseLiked), (1218, .methodLink RX11 168 yX11_needMotion), (1220, .instanceMethod yX11_needMotion), (24, .selects RX11 yX11_needMotion yX11_needMotion), (228, .fieldLink RX11 171 "DrizzleVote$Motions" "movers" "[I"), (230, .fieldLink RX11 174 "DrizzleVote$Motions" "takes" "[I"), (234, .fieldLink RX11 177 "DrizzleVote$Motions" "worths" "[I"), (236, .fieldLink RX11 180 "DrizzleVote$Motions" "fors" "[I"), (239, .fieldLink RX11 183 "DrizzleVote$Motions" "states" "[I"), (1223, .methodLink RX11 186 yX6_hourOf), (1233, .static yX11_needSky), (1232, .methodLink RX11 191 yX11_needSky), (312, .fieldLink RX11 194 "DrizzleVote$Council" "weather" "LDrizzleVote$Weather;"), (193, .fieldLink RX11 198 "DrizzleVote$Weather" "weights" "[I"), (1244, .static yX11_needPlace), (1243, .methodLink RX11 203 yX11_needPlace), (296, .fieldLink RX11 206 "DrizzleVote$Council" "exposures" "[I"), (1255, .static yX11_needHour), (1254, .methodLink RX11 209 yX11_needHour), (243, .fieldLink RX11 212 "DrizzleVote$Motions" "paper" "[I"), (183, .fieldLink RX11 215 "DrizzleVote$Weather" "hour" "I")]
set_option maxRecDepth 100000 in
theorem wK20 : ∀ q ∈ wL20, lw_tbl[q.1]? = some q.2 ∧ goodWord q.2 = true := by decide +kernel
theorem w480 : .instanceMethod yX1_shareOf ∈ zTg := zin_of (wK20 _ (List.mem_of_getElem? (i := 0) (show wL20[0]? = some (1191, .instanceMethod yX1_shareOf) from rfl)))
theorem w481 : .selects RX1 yX1_shareOf yX1_shareOf ∈ zTg := zin_of (wK20 _ (List.mem_of_getElem? (i := 1) (show wL20[1]? = some (1192, .selects RX1 yX1_shareOf yX1_shareOf) from rfl)))
theorem w482 : .fieldLink RX11 154 "DrizzleVote$Council" "motions" "LDrizzleVote$Motions;" ∈ zTg := zin_of (wK20 _ (List.mem_of_getElem? (i := 2) (show wL20[2]? = some (316, .fieldLink RX11 154 "DrizzleVote$Council" "motions" "LDrizzleVote$Motions;") from rfl)))
theorem w483 : .methodLink RX11 158 yX6_thoseLiked ∈ zTg := zin_of (wK20 _ (List.mem_of_getElem? (i := 3) (show wL20[3]? = some (1194, .methodLink RX11 158 yX6_thoseLiked) from rfl)))
theorem w484 : .methodLink RX11 168 yX11_needMotion ∈ zTg := zin_of (wK20 _ (List.mem_of_getElem? (i := 4) (show wL20[4]? = some (1218, .methodLink RX11 168 yX11_needMotion) from rfl)))
theorem w485 : .instanceMethod yX11_needMotion ∈ zTg := zin_of (wK20 _ (List.mem_of_getElem? (i := 5) (show wL20[5]? = some (1220, .instanceMethod yX11_needMotion) from rfl)))
theorem w486 : .selects RX11 yX11_needMotion yX11_needMotion ∈ zTg := zin_of (wK20 _ (List.mem_of_getElem? (i := 6) (show wL20[6]? = some (24, .selects RX11 yX11_needMotion yX11_needMotion) from rfl)))
theorem w487 : .fieldLink RX11 171 "DrizzleVote$Motions" "movers" "[I" ∈ zTg := zin_of (wK20 _ (List.mem_of_getElem? (i := 7) (show wL20[7]? = some (228, .fieldLink RX11 171 "DrizzleVote$Motions" "movers" "[I") from rfl)))
theorem w488 : .fieldLink RX11 174 "DrizzleVote$Motions" "takes" "[I" ∈ zTg := zin_of (wK20 _ (List.mem_of_getElem? (i := 8) (show wL20[8]? = some (230, .fieldLink RX11 174 "DrizzleVote$Motions" "takes" "[I") from rfl)))
theorem w489 : .fieldLink RX11 177 "DrizzleVote$Motions" "worths" "[I" ∈ zTg := zin_of (wK20 _ (List.mem_of_getElem? (i := 9) (show wL20[9]? = some (234, .fieldLink RX11 177 "DrizzleVote$Motions" "worths" "[I") from rfl)))
theorem w490 : .fieldLink RX11 180 "DrizzleVote$Motions" "fors" "[I" ∈ zTg := zin_of (wK20 _ (List.mem_of_getElem? (i := 10) (show wL20[10]? = some (236, .fieldLink RX11 180 "DrizzleVote$Motions" "fors" "[I") from rfl)))
theorem w491 : .fieldLink RX11 183 "DrizzleVote$Motions" "states" "[I" ∈ zTg := zin_of (wK20 _ (List.mem_of_getElem? (i := 11) (show wL20[11]? = some (239, .fieldLink RX11 183 "DrizzleVote$Motions" "states" "[I") from rfl)))
theorem w492 : .methodLink RX11 186 yX6_hourOf ∈ zTg := zin_of (wK20 _ (List.mem_of_getElem? (i := 12) (show wL20[12]? = some (1223, .methodLink RX11 186 yX6_hourOf) from rfl)))
theorem w493 : .static yX11_needSky ∈ zTg := zin_of (wK20 _ (List.mem_of_getElem? (i := 13) (show wL20[13]? = some (1233, .static yX11_needSky) from rfl)))
theorem w494 : .methodLink RX11 191 yX11_needSky ∈ zTg := zin_of (wK20 _ (List.mem_of_getElem? (i := 14) (show wL20[14]? = some (1232, .methodLink RX11 191 yX11_needSky) from rfl)))
theorem w495 : .fieldLink RX11 194 "DrizzleVote$Council" "weather" "LDrizzleVote$Weather;" ∈ zTg := zin_of (wK20 _ (List.mem_of_getElem? (i := 15) (show wL20[15]? = some (312, .fieldLink RX11 194 "DrizzleVote$Council" "weather" "LDrizzleVote$Weather;") from rfl)))
theorem w496 : .fieldLink RX11 198 "DrizzleVote$Weather" "weights" "[I" ∈ zTg := zin_of (wK20 _ (List.mem_of_getElem? (i := 16) (show wL20[16]? = some (193, .fieldLink RX11 198 "DrizzleVote$Weather" "weights" "[I") from rfl)))
theorem w497 : .static yX11_needPlace ∈ zTg := zin_of (wK20 _ (List.mem_of_getElem? (i := 17) (show wL20[17]? = some (1244, .static yX11_needPlace) from rfl)))
theorem w498 : .methodLink RX11 203 yX11_needPlace ∈ zTg := zin_of (wK20 _ (List.mem_of_getElem? (i := 18) (show wL20[18]? = some (1243, .methodLink RX11 203 yX11_needPlace) from rfl)))
theorem w499 : .fieldLink RX11 206 "DrizzleVote$Council" "exposures" "[I" ∈ zTg := zin_of (wK20 _ (List.mem_of_getElem? (i := 19) (show wL20[19]? = some (296, .fieldLink RX11 206 "DrizzleVote$Council" "exposures" "[I") from rfl)))
theorem w500 : .static yX11_needHour ∈ zTg := zin_of (wK20 _ (List.mem_of_getElem? (i := 20) (show wL20[20]? = some (1255, .static yX11_needHour) from rfl)))
theorem w501 : .methodLink RX11 209 yX11_needHour ∈ zTg := zin_of (wK20 _ (List.mem_of_getElem? (i := 21) (show wL20[21]? = some (1254, .methodLink RX11 209 yX11_needHour) from rfl)))
theorem w502 : .fieldLink RX11 212 "DrizzleVote$Motions" "paper" "[I" ∈ zTg := zin_of (wK20 _ (List.mem_of_getElem? (i := 22) (show wL20[22]? = some (243, .fieldLink RX11 212 "DrizzleVote$Motions" "paper" "[I") from rfl)))
theorem w503 : .fieldLink RX11 215 "DrizzleVote$Weather" "hour" "I" ∈ zTg := zin_of (wK20 _ (List.mem_of_getElem? (i := 23) (show wL20[23]? = some (183, .fieldLink RX11 215 "DrizzleVote$Weather" "hour" "I") from rfl)))
def wL21 : List (Nat × Cond) := [(750, .methodLink RX11 218 yX1_feels), (1272, .methodLink RX11 222 yX1_outcomeIn), (1281, .static yX11_needNumber), (1280, .methodLink RX11 226 yX11_needNumber), (1284, .methodLink RX11 230 yX11_rememberNow), (1286, .instanceMethod yX11_rememberNow), (25, .selects RX11 yX11_rememberNow yX11_rememberNow), (1288, .methodLink RX11 233 yX1_runHour), (1289, .instanceMethod yX1_runHour), (1290, .selects RX1 yX1_runHour yX1_runHour), (1314, .methodLink RX11 237 yX11_needWaiting), (1316, .instanceMethod yX11_needWaiting), (26, .selects RX11 yX11_needWaiting yX11_needWaiting), (1334, .methodLink RX11 240 yX6_putOnPaper), (1335, .instanceMethod yX6_putOnPaper), (1336, .selects RX6 yX6_putOnPaper yX6_putOnPaper), (1354, .methodLink RX11 249 yX11_withBit), (1398, .methodLink RX11 255 yX9_startChances), (1399, .methodLink RX11 258 yX9_spreadHour), (196, .fieldLink RX11 261 "DrizzleVote$Weather" "has" "[I"), (1407, .methodLink RX11 264 yX9_hourThen), (1408, .instanceMethod yX9_hourThen), (1409, .selects RX9 yX9_hourThen yX9_hourThen), (1411, .methodLink RX11 267 yX1_carriedThen)]
set_option maxRecDepth 100000 in
theorem wK21 : ∀ q ∈ wL21, lw_tbl[q.1]? = some q.2 ∧ goodWord q.2 = true := by decide +kernel
theorem w504 : .methodLink RX11 218 yX1_feels ∈ zTg := zin_of (wK21 _ (List.mem_of_getElem? (i := 0) (show wL21[0]? = some (750, .methodLink RX11 218 yX1_feels) from rfl)))
theorem w505 : .methodLink RX11 222 yX1_outcomeIn ∈ zTg := zin_of (wK21 _ (List.mem_of_getElem? (i := 1) (show wL21[1]? = some (1272, .methodLink RX11 222 yX1_outcomeIn) from rfl)))
theorem w506 : .static yX11_needNumber ∈ zTg := zin_of (wK21 _ (List.mem_of_getElem? (i := 2) (show wL21[2]? = some (1281, .static yX11_needNumber) from rfl)))
theorem w507 : .methodLink RX11 226 yX11_needNumber ∈ zTg := zin_of (wK21 _ (List.mem_of_getElem? (i := 3) (show wL21[3]? = some (1280, .methodLink RX11 226 yX11_needNumber) from rfl)))
theorem w508 : .methodLink RX11 230 yX11_rememberNow ∈ zTg := zin_of (wK21 _ (List.mem_of_getElem? (i := 4) (show wL21[4]? = some (1284, .methodLink RX11 230 yX11_rememberNow) from rfl)))
theorem w509 : .instanceMethod yX11_rememberNow ∈ zTg := zin_of (wK21 _ (List.mem_of_getElem? (i := 5) (show wL21[5]? = some (1286, .instanceMethod yX11_rememberNow) from rfl)))
theorem w510 : .selects RX11 yX11_rememberNow yX11_rememberNow ∈ zTg := zin_of (wK21 _ (List.mem_of_getElem? (i := 6) (show wL21[6]? = some (25, .selects RX11 yX11_rememberNow yX11_rememberNow) from rfl)))
theorem w511 : .methodLink RX11 233 yX1_runHour ∈ zTg := zin_of (wK21 _ (List.mem_of_getElem? (i := 7) (show wL21[7]? = some (1288, .methodLink RX11 233 yX1_runHour) from rfl)))
theorem w512 : .instanceMethod yX1_runHour ∈ zTg := zin_of (wK21 _ (List.mem_of_getElem? (i := 8) (show wL21[8]? = some (1289, .instanceMethod yX1_runHour) from rfl)))
theorem w513 : .selects RX1 yX1_runHour yX1_runHour ∈ zTg := zin_of (wK21 _ (List.mem_of_getElem? (i := 9) (show wL21[9]? = some (1290, .selects RX1 yX1_runHour yX1_runHour) from rfl)))
theorem w514 : .methodLink RX11 237 yX11_needWaiting ∈ zTg := zin_of (wK21 _ (List.mem_of_getElem? (i := 10) (show wL21[10]? = some (1314, .methodLink RX11 237 yX11_needWaiting) from rfl)))
theorem w515 : .instanceMethod yX11_needWaiting ∈ zTg := zin_of (wK21 _ (List.mem_of_getElem? (i := 11) (show wL21[11]? = some (1316, .instanceMethod yX11_needWaiting) from rfl)))
theorem w516 : .selects RX11 yX11_needWaiting yX11_needWaiting ∈ zTg := zin_of (wK21 _ (List.mem_of_getElem? (i := 12) (show wL21[12]? = some (26, .selects RX11 yX11_needWaiting yX11_needWaiting) from rfl)))
theorem w517 : .methodLink RX11 240 yX6_putOnPaper ∈ zTg := zin_of (wK21 _ (List.mem_of_getElem? (i := 13) (show wL21[13]? = some (1334, .methodLink RX11 240 yX6_putOnPaper) from rfl)))
theorem w518 : .instanceMethod yX6_putOnPaper ∈ zTg := zin_of (wK21 _ (List.mem_of_getElem? (i := 14) (show wL21[14]? = some (1335, .instanceMethod yX6_putOnPaper) from rfl)))
theorem w519 : .selects RX6 yX6_putOnPaper yX6_putOnPaper ∈ zTg := zin_of (wK21 _ (List.mem_of_getElem? (i := 15) (show wL21[15]? = some (1336, .selects RX6 yX6_putOnPaper yX6_putOnPaper) from rfl)))
theorem w520 : .methodLink RX11 249 yX11_withBit ∈ zTg := zin_of (wK21 _ (List.mem_of_getElem? (i := 16) (show wL21[16]? = some (1354, .methodLink RX11 249 yX11_withBit) from rfl)))
theorem w521 : .methodLink RX11 255 yX9_startChances ∈ zTg := zin_of (wK21 _ (List.mem_of_getElem? (i := 17) (show wL21[17]? = some (1398, .methodLink RX11 255 yX9_startChances) from rfl)))
theorem w522 : .methodLink RX11 258 yX9_spreadHour ∈ zTg := zin_of (wK21 _ (List.mem_of_getElem? (i := 18) (show wL21[18]? = some (1399, .methodLink RX11 258 yX9_spreadHour) from rfl)))
theorem w523 : .fieldLink RX11 261 "DrizzleVote$Weather" "has" "[I" ∈ zTg := zin_of (wK21 _ (List.mem_of_getElem? (i := 19) (show wL21[19]? = some (196, .fieldLink RX11 261 "DrizzleVote$Weather" "has" "[I") from rfl)))
theorem w524 : .methodLink RX11 264 yX9_hourThen ∈ zTg := zin_of (wK21 _ (List.mem_of_getElem? (i := 20) (show wL21[20]? = some (1407, .methodLink RX11 264 yX9_hourThen) from rfl)))
theorem w525 : .instanceMethod yX9_hourThen ∈ zTg := zin_of (wK21 _ (List.mem_of_getElem? (i := 21) (show wL21[21]? = some (1408, .instanceMethod yX9_hourThen) from rfl)))
theorem w526 : .selects RX9 yX9_hourThen yX9_hourThen ∈ zTg := zin_of (wK21 _ (List.mem_of_getElem? (i := 22) (show wL21[22]? = some (1409, .selects RX9 yX9_hourThen yX9_hourThen) from rfl)))
theorem w527 : .methodLink RX11 267 yX1_carriedThen ∈ zTg := zin_of (wK21 _ (List.mem_of_getElem? (i := 23) (show wL21[23]? = some (1411, .methodLink RX11 267 yX1_carriedThen) from rfl)))
def wL22 : List (Nat × Cond) := [(568, .methodLink RX11 270 yX6_inState), (572, .methodLink RX11 273 yX1_carriedOf), (573, .instanceMethod yX1_carriedOf), (574, .selects RX1 yX1_carriedOf yX1_carriedOf), (638, .methodLink RX11 276 yJ6_bitCount_0f7a4), (1436, .methodLink RX11 281 yX7_planDay), (1437, .instanceMethod yX7_planDay), (1438, .selects RX7 yX7_planDay yX7_planDay), (489, .fieldLink RX11 284 "DrizzleVote$Planner" "most" "[I"), (1460, .methodLink RX11 287 yX7_motionAt), (1461, .instanceMethod yX7_motionAt), (1462, .selects RX7 yX7_motionAt yX7_motionAt), (1475, .methodLink RX11 290 yX6_sumOver), (1476, .instanceMethod yX6_sumOver), (1477, .selects RX6 yX6_sumOver yX6_sumOver), (225, .fieldLink RX11 294 "DrizzleVote$Motions" "size" "I"), (644, .methodLink RX11 297 yX6_hastierThan), (645, .instanceMethod yX6_hastierThan), (646, .selects RX6 yX6_hastierThan yX6_hastierThan), (1486, .methodLink RX11 300 yX11_readCuffs), (1488, .instanceMethod yX11_readCuffs), (31, .selects RX11 yX11_readCuffs yX11_readCuffs), (1500, .methodLink RX11 303 yX2_countWays), (1501, .instanceMethod yX2_countWays)]
set_option maxRecDepth 100000 in
theorem wK22 : ∀ q ∈ wL22, lw_tbl[q.1]? = some q.2 ∧ goodWord q.2 = true := by decide +kernel
theorem w528 : .methodLink RX11 270 yX6_inState ∈ zTg := zin_of (wK22 _ (List.mem_of_getElem? (i := 0) (show wL22[0]? = some (568, .methodLink RX11 270 yX6_inState) from rfl)))
theorem w529 : .methodLink RX11 273 yX1_carriedOf ∈ zTg := zin_of (wK22 _ (List.mem_of_getElem? (i := 1) (show wL22[1]? = some (572, .methodLink RX11 273 yX1_carriedOf) from rfl)))
theorem w530 : .instanceMethod yX1_carriedOf ∈ zTg := zin_of (wK22 _ (List.mem_of_getElem? (i := 2) (show wL22[2]? = some (573, .instanceMethod yX1_carriedOf) from rfl)))
theorem w531 : .selects RX1 yX1_carriedOf yX1_carriedOf ∈ zTg := zin_of (wK22 _ (List.mem_of_getElem? (i := 3) (show wL22[3]? = some (574, .selects RX1 yX1_carriedOf yX1_carriedOf) from rfl)))
theorem w532 : .methodLink RX11 276 yJ6_bitCount_0f7a4 ∈ zTg := zin_of (wK22 _ (List.mem_of_getElem? (i := 4) (show wL22[4]? = some (638, .methodLink RX11 276 yJ6_bitCount_0f7a4) from rfl)))
theorem w533 : .methodLink RX11 281 yX7_planDay ∈ zTg := zin_of (wK22 _ (List.mem_of_getElem? (i := 5) (show wL22[5]? = some (1436, .methodLink RX11 281 yX7_planDay) from rfl)))
theorem w534 : .instanceMethod yX7_planDay ∈ zTg := zin_of (wK22 _ (List.mem_of_getElem? (i := 6) (show wL22[6]? = some (1437, .instanceMethod yX7_planDay) from rfl)))
theorem w535 : .selects RX7 yX7_planDay yX7_planDay ∈ zTg := zin_of (wK22 _ (List.mem_of_getElem? (i := 7) (show wL22[7]? = some (1438, .selects RX7 yX7_planDay yX7_planDay) from rfl)))
theorem w536 : .fieldLink RX11 284 "DrizzleVote$Planner" "most" "[I" ∈ zTg := zin_of (wK22 _ (List.mem_of_getElem? (i := 8) (show wL22[8]? = some (489, .fieldLink RX11 284 "DrizzleVote$Planner" "most" "[I") from rfl)))
theorem w537 : .methodLink RX11 287 yX7_motionAt ∈ zTg := zin_of (wK22 _ (List.mem_of_getElem? (i := 9) (show wL22[9]? = some (1460, .methodLink RX11 287 yX7_motionAt) from rfl)))
theorem w538 : .instanceMethod yX7_motionAt ∈ zTg := zin_of (wK22 _ (List.mem_of_getElem? (i := 10) (show wL22[10]? = some (1461, .instanceMethod yX7_motionAt) from rfl)))
theorem w539 : .selects RX7 yX7_motionAt yX7_motionAt ∈ zTg := zin_of (wK22 _ (List.mem_of_getElem? (i := 11) (show wL22[11]? = some (1462, .selects RX7 yX7_motionAt yX7_motionAt) from rfl)))
theorem w540 : .methodLink RX11 290 yX6_sumOver ∈ zTg := zin_of (wK22 _ (List.mem_of_getElem? (i := 12) (show wL22[12]? = some (1475, .methodLink RX11 290 yX6_sumOver) from rfl)))
theorem w541 : .instanceMethod yX6_sumOver ∈ zTg := zin_of (wK22 _ (List.mem_of_getElem? (i := 13) (show wL22[13]? = some (1476, .instanceMethod yX6_sumOver) from rfl)))
theorem w542 : .selects RX6 yX6_sumOver yX6_sumOver ∈ zTg := zin_of (wK22 _ (List.mem_of_getElem? (i := 14) (show wL22[14]? = some (1477, .selects RX6 yX6_sumOver yX6_sumOver) from rfl)))
theorem w543 : .fieldLink RX11 294 "DrizzleVote$Motions" "size" "I" ∈ zTg := zin_of (wK22 _ (List.mem_of_getElem? (i := 15) (show wL22[15]? = some (225, .fieldLink RX11 294 "DrizzleVote$Motions" "size" "I") from rfl)))
theorem w544 : .methodLink RX11 297 yX6_hastierThan ∈ zTg := zin_of (wK22 _ (List.mem_of_getElem? (i := 16) (show wL22[16]? = some (644, .methodLink RX11 297 yX6_hastierThan) from rfl)))
theorem w545 : .instanceMethod yX6_hastierThan ∈ zTg := zin_of (wK22 _ (List.mem_of_getElem? (i := 17) (show wL22[17]? = some (645, .instanceMethod yX6_hastierThan) from rfl)))
theorem w546 : .selects RX6 yX6_hastierThan yX6_hastierThan ∈ zTg := zin_of (wK22 _ (List.mem_of_getElem? (i := 18) (show wL22[18]? = some (646, .selects RX6 yX6_hastierThan yX6_hastierThan) from rfl)))
theorem w547 : .methodLink RX11 300 yX11_readCuffs ∈ zTg := zin_of (wK22 _ (List.mem_of_getElem? (i := 19) (show wL22[19]? = some (1486, .methodLink RX11 300 yX11_readCuffs) from rfl)))
theorem w548 : .instanceMethod yX11_readCuffs ∈ zTg := zin_of (wK22 _ (List.mem_of_getElem? (i := 20) (show wL22[20]? = some (1488, .instanceMethod yX11_readCuffs) from rfl)))
theorem w549 : .selects RX11 yX11_readCuffs yX11_readCuffs ∈ zTg := zin_of (wK22 _ (List.mem_of_getElem? (i := 21) (show wL22[21]? = some (31, .selects RX11 yX11_readCuffs yX11_readCuffs) from rfl)))
theorem w550 : .methodLink RX11 303 yX2_countWays ∈ zTg := zin_of (wK22 _ (List.mem_of_getElem? (i := 22) (show wL22[22]? = some (1500, .methodLink RX11 303 yX2_countWays) from rfl)))
theorem w551 : .instanceMethod yX2_countWays ∈ zTg := zin_of (wK22 _ (List.mem_of_getElem? (i := 23) (show wL22[23]? = some (1501, .instanceMethod yX2_countWays) from rfl)))
def wL23 : List (Nat × Cond) := [(1502, .selects RX2 yX2_countWays yX2_countWays), (1510, .methodLink RX11 307 yJ9_min_7cf53), (1511, .methodLink RX11 312 yX2_skiesNow), (1512, .instanceMethod yX2_skiesNow), (1513, .selects RX2 yX2_skiesNow yX2_skiesNow), (452, .fieldLink RX11 315 "DrizzleVote$Cuffs" "ways" "[I"), (450, .fieldLink RX11 318 "DrizzleVote$Cuffs" "allowed" "[I"), (281, .fieldLink RX11 321 "DrizzleVote$Council" "members" "I"), (1536, .methodLink RX11 324 yX1_wettingSkies), (1537, .methodLink RX11 327 yJ9_max_7cf53), (1490, .methodLink RX11 330 yX2_readRows), (1491, .instanceMethod yX2_readRows), (1492, .selects RX2 yX2_readRows yX2_readRows), (653, .methodLink RX11 335 yX1_seenBy), (654, .instanceMethod yX1_seenBy), (655, .selects RX1 yX1_seenBy yX1_seenBy), (1545, .methodLink RX11 338 yX7_planPosts), (1546, .instanceMethod yX7_planPosts), (1547, .selects RX7 yX7_planPosts yX7_planPosts), (1553, .methodLink RX11 341 yX7_placeOf), (1554, .instanceMethod yX7_placeOf), (1555, .selects RX7 yX7_placeOf yX7_placeOf), (661, .methodLink RX11 345 yX8_weigh), (662, .instanceMethod yX8_weigh)]
set_option maxRecDepth 100000 in
theorem wK23 : ∀ q ∈ wL23, lw_tbl[q.1]? = some q.2 ∧ goodWord q.2 = true := by decide +kernel
theorem w552 : .selects RX2 yX2_countWays yX2_countWays ∈ zTg := zin_of (wK23 _ (List.mem_of_getElem? (i := 0) (show wL23[0]? = some (1502, .selects RX2 yX2_countWays yX2_countWays) from rfl)))
theorem w553 : .methodLink RX11 307 yJ9_min_7cf53 ∈ zTg := zin_of (wK23 _ (List.mem_of_getElem? (i := 1) (show wL23[1]? = some (1510, .methodLink RX11 307 yJ9_min_7cf53) from rfl)))
theorem w554 : .methodLink RX11 312 yX2_skiesNow ∈ zTg := zin_of (wK23 _ (List.mem_of_getElem? (i := 2) (show wL23[2]? = some (1511, .methodLink RX11 312 yX2_skiesNow) from rfl)))
theorem w555 : .instanceMethod yX2_skiesNow ∈ zTg := zin_of (wK23 _ (List.mem_of_getElem? (i := 3) (show wL23[3]? = some (1512, .instanceMethod yX2_skiesNow) from rfl)))
theorem w556 : .selects RX2 yX2_skiesNow yX2_skiesNow ∈ zTg := zin_of (wK23 _ (List.mem_of_getElem? (i := 4) (show wL23[4]? = some (1513, .selects RX2 yX2_skiesNow yX2_skiesNow) from rfl)))
theorem w557 : .fieldLink RX11 315 "DrizzleVote$Cuffs" "ways" "[I" ∈ zTg := zin_of (wK23 _ (List.mem_of_getElem? (i := 5) (show wL23[5]? = some (452, .fieldLink RX11 315 "DrizzleVote$Cuffs" "ways" "[I") from rfl)))
theorem w558 : .fieldLink RX11 318 "DrizzleVote$Cuffs" "allowed" "[I" ∈ zTg := zin_of (wK23 _ (List.mem_of_getElem? (i := 6) (show wL23[6]? = some (450, .fieldLink RX11 318 "DrizzleVote$Cuffs" "allowed" "[I") from rfl)))
theorem w559 : .fieldLink RX11 321 "DrizzleVote$Council" "members" "I" ∈ zTg := zin_of (wK23 _ (List.mem_of_getElem? (i := 7) (show wL23[7]? = some (281, .fieldLink RX11 321 "DrizzleVote$Council" "members" "I") from rfl)))
theorem w560 : .methodLink RX11 324 yX1_wettingSkies ∈ zTg := zin_of (wK23 _ (List.mem_of_getElem? (i := 8) (show wL23[8]? = some (1536, .methodLink RX11 324 yX1_wettingSkies) from rfl)))
theorem w561 : .methodLink RX11 327 yJ9_max_7cf53 ∈ zTg := zin_of (wK23 _ (List.mem_of_getElem? (i := 9) (show wL23[9]? = some (1537, .methodLink RX11 327 yJ9_max_7cf53) from rfl)))
theorem w562 : .methodLink RX11 330 yX2_readRows ∈ zTg := zin_of (wK23 _ (List.mem_of_getElem? (i := 10) (show wL23[10]? = some (1490, .methodLink RX11 330 yX2_readRows) from rfl)))
theorem w563 : .instanceMethod yX2_readRows ∈ zTg := zin_of (wK23 _ (List.mem_of_getElem? (i := 11) (show wL23[11]? = some (1491, .instanceMethod yX2_readRows) from rfl)))
theorem w564 : .selects RX2 yX2_readRows yX2_readRows ∈ zTg := zin_of (wK23 _ (List.mem_of_getElem? (i := 12) (show wL23[12]? = some (1492, .selects RX2 yX2_readRows yX2_readRows) from rfl)))
theorem w565 : .methodLink RX11 335 yX1_seenBy ∈ zTg := zin_of (wK23 _ (List.mem_of_getElem? (i := 13) (show wL23[13]? = some (653, .methodLink RX11 335 yX1_seenBy) from rfl)))
theorem w566 : .instanceMethod yX1_seenBy ∈ zTg := zin_of (wK23 _ (List.mem_of_getElem? (i := 14) (show wL23[14]? = some (654, .instanceMethod yX1_seenBy) from rfl)))
theorem w567 : .selects RX1 yX1_seenBy yX1_seenBy ∈ zTg := zin_of (wK23 _ (List.mem_of_getElem? (i := 15) (show wL23[15]? = some (655, .selects RX1 yX1_seenBy yX1_seenBy) from rfl)))
theorem w568 : .methodLink RX11 338 yX7_planPosts ∈ zTg := zin_of (wK23 _ (List.mem_of_getElem? (i := 16) (show wL23[16]? = some (1545, .methodLink RX11 338 yX7_planPosts) from rfl)))
theorem w569 : .instanceMethod yX7_planPosts ∈ zTg := zin_of (wK23 _ (List.mem_of_getElem? (i := 17) (show wL23[17]? = some (1546, .instanceMethod yX7_planPosts) from rfl)))
theorem w570 : .selects RX7 yX7_planPosts yX7_planPosts ∈ zTg := zin_of (wK23 _ (List.mem_of_getElem? (i := 18) (show wL23[18]? = some (1547, .selects RX7 yX7_planPosts yX7_planPosts) from rfl)))
theorem w571 : .methodLink RX11 341 yX7_placeOf ∈ zTg := zin_of (wK23 _ (List.mem_of_getElem? (i := 19) (show wL23[19]? = some (1553, .methodLink RX11 341 yX7_placeOf) from rfl)))
theorem w572 : .instanceMethod yX7_placeOf ∈ zTg := zin_of (wK23 _ (List.mem_of_getElem? (i := 20) (show wL23[20]? = some (1554, .instanceMethod yX7_placeOf) from rfl)))
theorem w573 : .selects RX7 yX7_placeOf yX7_placeOf ∈ zTg := zin_of (wK23 _ (List.mem_of_getElem? (i := 21) (show wL23[21]? = some (1555, .selects RX7 yX7_placeOf yX7_placeOf) from rfl)))
theorem w574 : .methodLink RX11 345 yX8_weigh ∈ zTg := zin_of (wK23 _ (List.mem_of_getElem? (i := 22) (show wL23[22]? = some (661, .methodLink RX11 345 yX8_weigh) from rfl)))
theorem w575 : .instanceMethod yX8_weigh ∈ zTg := zin_of (wK23 _ (List.mem_of_getElem? (i := 23) (show wL23[23]? = some (662, .instanceMethod yX8_weigh) from rfl)))
def wL24 : List (Nat × Cond) := [(663, .selects RX8 yX8_weigh yX8_weigh), (468, .fieldLink RX11 348 "DrizzleVote$Sides" "present" "I"), (666, .methodLink RX11 351 yX8_isWinning), (1568, .methodLink RX11 355 yX11_needVoter), (1570, .instanceMethod yX11_needVoter), (35, .selects RX11 yX11_needVoter yX11_needVoter), (687, .methodLink RX11 358 yX8_countSwings), (688, .instanceMethod yX8_countSwings), (689, .selects RX8 yX8_countSwings yX8_countSwings), (470, .fieldLink RX11 361 "DrizzleVote$Sides" "swingsOf" "[I"), (679, .methodLink RX11 364 yX8_isMinimal), (680, .instanceMethod yX8_isMinimal), (681, .selects RX8 yX8_isMinimal yX8_isMinimal), (1586, .methodLink RX11 367 yX1_lapsesIn), (299, .fieldLink RX11 371 "DrizzleVote$Council" "quorum" "I"), (302, .fieldLink RX11 374 "DrizzleVote$Council" "aye" "I"), (1587, .methodLink RX11 377 yX1_byVotes), (1596, .static yX11_needTwo), (1595, .methodLink RX11 381 yX11_needTwo), (1599, .methodLink RX11 384 yX6_likedByOneOnly), (1600, .instanceMethod yX6_likedByOneOnly), (1601, .selects RX6 yX6_likedByOneOnly yX6_likedByOneOnly), (1603, .methodLink RX11 387 yX1_carriedBacked), (1604, .instanceMethod yX1_carriedBacked)]
set_option maxRecDepth 100000 in
theorem wK24 : ∀ q ∈ wL24, lw_tbl[q.1]? = some q.2 ∧ goodWord q.2 = true := by decide +kernel
theorem w576 : .selects RX8 yX8_weigh yX8_weigh ∈ zTg := zin_of (wK24 _ (List.mem_of_getElem? (i := 0) (show wL24[0]? = some (663, .selects RX8 yX8_weigh yX8_weigh) from rfl)))
theorem w577 : .fieldLink RX11 348 "DrizzleVote$Sides" "present" "I" ∈ zTg := zin_of (wK24 _ (List.mem_of_getElem? (i := 1) (show wL24[1]? = some (468, .fieldLink RX11 348 "DrizzleVote$Sides" "present" "I") from rfl)))
theorem w578 : .methodLink RX11 351 yX8_isWinning ∈ zTg := zin_of (wK24 _ (List.mem_of_getElem? (i := 2) (show wL24[2]? = some (666, .methodLink RX11 351 yX8_isWinning) from rfl)))
theorem w579 : .methodLink RX11 355 yX11_needVoter ∈ zTg := zin_of (wK24 _ (List.mem_of_getElem? (i := 3) (show wL24[3]? = some (1568, .methodLink RX11 355 yX11_needVoter) from rfl)))
theorem w580 : .instanceMethod yX11_needVoter ∈ zTg := zin_of (wK24 _ (List.mem_of_getElem? (i := 4) (show wL24[4]? = some (1570, .instanceMethod yX11_needVoter) from rfl)))
theorem w581 : .selects RX11 yX11_needVoter yX11_needVoter ∈ zTg := zin_of (wK24 _ (List.mem_of_getElem? (i := 5) (show wL24[5]? = some (35, .selects RX11 yX11_needVoter yX11_needVoter) from rfl)))
theorem w582 : .methodLink RX11 358 yX8_countSwings ∈ zTg := zin_of (wK24 _ (List.mem_of_getElem? (i := 6) (show wL24[6]? = some (687, .methodLink RX11 358 yX8_countSwings) from rfl)))
theorem w583 : .instanceMethod yX8_countSwings ∈ zTg := zin_of (wK24 _ (List.mem_of_getElem? (i := 7) (show wL24[7]? = some (688, .instanceMethod yX8_countSwings) from rfl)))
theorem w584 : .selects RX8 yX8_countSwings yX8_countSwings ∈ zTg := zin_of (wK24 _ (List.mem_of_getElem? (i := 8) (show wL24[8]? = some (689, .selects RX8 yX8_countSwings yX8_countSwings) from rfl)))
theorem w585 : .fieldLink RX11 361 "DrizzleVote$Sides" "swingsOf" "[I" ∈ zTg := zin_of (wK24 _ (List.mem_of_getElem? (i := 9) (show wL24[9]? = some (470, .fieldLink RX11 361 "DrizzleVote$Sides" "swingsOf" "[I") from rfl)))
theorem w586 : .methodLink RX11 364 yX8_isMinimal ∈ zTg := zin_of (wK24 _ (List.mem_of_getElem? (i := 10) (show wL24[10]? = some (679, .methodLink RX11 364 yX8_isMinimal) from rfl)))
theorem w587 : .instanceMethod yX8_isMinimal ∈ zTg := zin_of (wK24 _ (List.mem_of_getElem? (i := 11) (show wL24[11]? = some (680, .instanceMethod yX8_isMinimal) from rfl)))
theorem w588 : .selects RX8 yX8_isMinimal yX8_isMinimal ∈ zTg := zin_of (wK24 _ (List.mem_of_getElem? (i := 12) (show wL24[12]? = some (681, .selects RX8 yX8_isMinimal yX8_isMinimal) from rfl)))
theorem w589 : .methodLink RX11 367 yX1_lapsesIn ∈ zTg := zin_of (wK24 _ (List.mem_of_getElem? (i := 13) (show wL24[13]? = some (1586, .methodLink RX11 367 yX1_lapsesIn) from rfl)))
theorem w590 : .fieldLink RX11 371 "DrizzleVote$Council" "quorum" "I" ∈ zTg := zin_of (wK24 _ (List.mem_of_getElem? (i := 14) (show wL24[14]? = some (299, .fieldLink RX11 371 "DrizzleVote$Council" "quorum" "I") from rfl)))
theorem w591 : .fieldLink RX11 374 "DrizzleVote$Council" "aye" "I" ∈ zTg := zin_of (wK24 _ (List.mem_of_getElem? (i := 15) (show wL24[15]? = some (302, .fieldLink RX11 374 "DrizzleVote$Council" "aye" "I") from rfl)))
theorem w592 : .methodLink RX11 377 yX1_byVotes ∈ zTg := zin_of (wK24 _ (List.mem_of_getElem? (i := 16) (show wL24[16]? = some (1587, .methodLink RX11 377 yX1_byVotes) from rfl)))
theorem w593 : .static yX11_needTwo ∈ zTg := zin_of (wK24 _ (List.mem_of_getElem? (i := 17) (show wL24[17]? = some (1596, .static yX11_needTwo) from rfl)))
theorem w594 : .methodLink RX11 381 yX11_needTwo ∈ zTg := zin_of (wK24 _ (List.mem_of_getElem? (i := 18) (show wL24[18]? = some (1595, .methodLink RX11 381 yX11_needTwo) from rfl)))
theorem w595 : .methodLink RX11 384 yX6_likedByOneOnly ∈ zTg := zin_of (wK24 _ (List.mem_of_getElem? (i := 19) (show wL24[19]? = some (1599, .methodLink RX11 384 yX6_likedByOneOnly) from rfl)))
theorem w596 : .instanceMethod yX6_likedByOneOnly ∈ zTg := zin_of (wK24 _ (List.mem_of_getElem? (i := 20) (show wL24[20]? = some (1600, .instanceMethod yX6_likedByOneOnly) from rfl)))
theorem w597 : .selects RX6 yX6_likedByOneOnly yX6_likedByOneOnly ∈ zTg := zin_of (wK24 _ (List.mem_of_getElem? (i := 21) (show wL24[21]? = some (1601, .selects RX6 yX6_likedByOneOnly yX6_likedByOneOnly) from rfl)))
theorem w598 : .methodLink RX11 387 yX1_carriedBacked ∈ zTg := zin_of (wK24 _ (List.mem_of_getElem? (i := 22) (show wL24[22]? = some (1603, .methodLink RX11 387 yX1_carriedBacked) from rfl)))
theorem w599 : .instanceMethod yX1_carriedBacked ∈ zTg := zin_of (wK24 _ (List.mem_of_getElem? (i := 23) (show wL24[23]? = some (1604, .instanceMethod yX1_carriedBacked) from rfl)))
def wL25 : List (Nat × Cond) := [(1605, .selects RX1 yX1_carriedBacked yX1_carriedBacked), (701, .methodLink RX11 390 yX6_sameMinds), (702, .instanceMethod yX6_sameMinds), (703, .selects RX6 yX6_sameMinds yX6_sameMinds), (718, .methodLink RX11 393 yX9_dryBehind), (719, .instanceMethod yX9_dryBehind), (720, .selects RX9 yX9_dryBehind yX9_dryBehind), (1635, .methodLink RX11 396 yX11_gainOfMoving), (1637, .instanceMethod yX11_gainOfMoving), (36, .selects RX11 yX11_gainOfMoving yX11_gainOfMoving), (179, .fieldLink RX11 399 "DrizzleVote$Weather" "sky" "I"), (1639, .methodLink RX11 402 yX1_outcome), (745, .methodLink RX11 405 yX6_has), (190, .fieldLink RX11 407 "DrizzleVote$Weather" "seed" "I"), (1647, .methodLink RX11 410 yX11_tryHours), (1649, .instanceMethod yX11_tryHours), (37, .selects RX11 yX11_tryHours yX11_tryHours), (318, .fieldLink RX11 413 "DrizzleVote$Council" "rows" "LDrizzleVote$Log;"), (267, .fieldLink RX11 417 "DrizzleVote$Log" "size" "I"), (1665, .methodLink RX11 420 yX5_valueOf), (1666, .instanceMethod yX5_valueOf), (1667, .selects RX5 yX5_valueOf yX5_valueOf), (511, .fieldLink RX11 425 "DrizzleVote" "remembered" "I"), (510, .fieldLink RX11 428 "DrizzleVote" "oldest" "I")]
set_option maxRecDepth 100000 in
theorem wK25 : ∀ q ∈ wL25, lw_tbl[q.1]? = some q.2 ∧ goodWord q.2 = true := by decide +kernel
theorem w600 : .selects RX1 yX1_carriedBacked yX1_carriedBacked ∈ zTg := zin_of (wK25 _ (List.mem_of_getElem? (i := 0) (show wL25[0]? = some (1605, .selects RX1 yX1_carriedBacked yX1_carriedBacked) from rfl)))
theorem w601 : .methodLink RX11 390 yX6_sameMinds ∈ zTg := zin_of (wK25 _ (List.mem_of_getElem? (i := 1) (show wL25[1]? = some (701, .methodLink RX11 390 yX6_sameMinds) from rfl)))
theorem w602 : .instanceMethod yX6_sameMinds ∈ zTg := zin_of (wK25 _ (List.mem_of_getElem? (i := 2) (show wL25[2]? = some (702, .instanceMethod yX6_sameMinds) from rfl)))
theorem w603 : .selects RX6 yX6_sameMinds yX6_sameMinds ∈ zTg := zin_of (wK25 _ (List.mem_of_getElem? (i := 3) (show wL25[3]? = some (703, .selects RX6 yX6_sameMinds yX6_sameMinds) from rfl)))
theorem w604 : .methodLink RX11 393 yX9_dryBehind ∈ zTg := zin_of (wK25 _ (List.mem_of_getElem? (i := 4) (show wL25[4]? = some (718, .methodLink RX11 393 yX9_dryBehind) from rfl)))
theorem w605 : .instanceMethod yX9_dryBehind ∈ zTg := zin_of (wK25 _ (List.mem_of_getElem? (i := 5) (show wL25[5]? = some (719, .instanceMethod yX9_dryBehind) from rfl)))
theorem w606 : .selects RX9 yX9_dryBehind yX9_dryBehind ∈ zTg := zin_of (wK25 _ (List.mem_of_getElem? (i := 6) (show wL25[6]? = some (720, .selects RX9 yX9_dryBehind yX9_dryBehind) from rfl)))
theorem w607 : .methodLink RX11 396 yX11_gainOfMoving ∈ zTg := zin_of (wK25 _ (List.mem_of_getElem? (i := 7) (show wL25[7]? = some (1635, .methodLink RX11 396 yX11_gainOfMoving) from rfl)))
theorem w608 : .instanceMethod yX11_gainOfMoving ∈ zTg := zin_of (wK25 _ (List.mem_of_getElem? (i := 8) (show wL25[8]? = some (1637, .instanceMethod yX11_gainOfMoving) from rfl)))
theorem w609 : .selects RX11 yX11_gainOfMoving yX11_gainOfMoving ∈ zTg := zin_of (wK25 _ (List.mem_of_getElem? (i := 9) (show wL25[9]? = some (36, .selects RX11 yX11_gainOfMoving yX11_gainOfMoving) from rfl)))
theorem w610 : .fieldLink RX11 399 "DrizzleVote$Weather" "sky" "I" ∈ zTg := zin_of (wK25 _ (List.mem_of_getElem? (i := 10) (show wL25[10]? = some (179, .fieldLink RX11 399 "DrizzleVote$Weather" "sky" "I") from rfl)))
theorem w611 : .methodLink RX11 402 yX1_outcome ∈ zTg := zin_of (wK25 _ (List.mem_of_getElem? (i := 11) (show wL25[11]? = some (1639, .methodLink RX11 402 yX1_outcome) from rfl)))
theorem w612 : .methodLink RX11 405 yX6_has ∈ zTg := zin_of (wK25 _ (List.mem_of_getElem? (i := 12) (show wL25[12]? = some (745, .methodLink RX11 405 yX6_has) from rfl)))
theorem w613 : .fieldLink RX11 407 "DrizzleVote$Weather" "seed" "I" ∈ zTg := zin_of (wK25 _ (List.mem_of_getElem? (i := 13) (show wL25[13]? = some (190, .fieldLink RX11 407 "DrizzleVote$Weather" "seed" "I") from rfl)))
theorem w614 : .methodLink RX11 410 yX11_tryHours ∈ zTg := zin_of (wK25 _ (List.mem_of_getElem? (i := 14) (show wL25[14]? = some (1647, .methodLink RX11 410 yX11_tryHours) from rfl)))
theorem w615 : .instanceMethod yX11_tryHours ∈ zTg := zin_of (wK25 _ (List.mem_of_getElem? (i := 15) (show wL25[15]? = some (1649, .instanceMethod yX11_tryHours) from rfl)))
theorem w616 : .selects RX11 yX11_tryHours yX11_tryHours ∈ zTg := zin_of (wK25 _ (List.mem_of_getElem? (i := 16) (show wL25[16]? = some (37, .selects RX11 yX11_tryHours yX11_tryHours) from rfl)))
theorem w617 : .fieldLink RX11 413 "DrizzleVote$Council" "rows" "LDrizzleVote$Log;" ∈ zTg := zin_of (wK25 _ (List.mem_of_getElem? (i := 17) (show wL25[17]? = some (318, .fieldLink RX11 413 "DrizzleVote$Council" "rows" "LDrizzleVote$Log;") from rfl)))
theorem w618 : .fieldLink RX11 417 "DrizzleVote$Log" "size" "I" ∈ zTg := zin_of (wK25 _ (List.mem_of_getElem? (i := 18) (show wL25[18]? = some (267, .fieldLink RX11 417 "DrizzleVote$Log" "size" "I") from rfl)))
theorem w619 : .methodLink RX11 420 yX5_valueOf ∈ zTg := zin_of (wK25 _ (List.mem_of_getElem? (i := 19) (show wL25[19]? = some (1665, .methodLink RX11 420 yX5_valueOf) from rfl)))
theorem w620 : .instanceMethod yX5_valueOf ∈ zTg := zin_of (wK25 _ (List.mem_of_getElem? (i := 20) (show wL25[20]? = some (1666, .instanceMethod yX5_valueOf) from rfl)))
theorem w621 : .selects RX5 yX5_valueOf yX5_valueOf ∈ zTg := zin_of (wK25 _ (List.mem_of_getElem? (i := 21) (show wL25[21]? = some (1667, .selects RX5 yX5_valueOf yX5_valueOf) from rfl)))
theorem w622 : .fieldLink RX11 425 "DrizzleVote" "remembered" "I" ∈ zTg := zin_of (wK25 _ (List.mem_of_getElem? (i := 22) (show wL25[22]? = some (511, .fieldLink RX11 425 "DrizzleVote" "remembered" "I") from rfl)))
theorem w623 : .fieldLink RX11 428 "DrizzleVote" "oldest" "I" ∈ zTg := zin_of (wK25 _ (List.mem_of_getElem? (i := 23) (show wL25[23]? = some (510, .fieldLink RX11 428 "DrizzleVote" "oldest" "I") from rfl)))
def wL26 : List (Nat × Cond) := [(508, .fieldLink RX11 431 "DrizzleVote" "isKept" "Z"), (188, .fieldLink RX11 435 "DrizzleVote$Weather" "day" "I"), (306, .fieldLink RX11 438 "DrizzleVote$Council" "wetSeats" "I"), (356, .code yX0_init cX0_init 1 none), (814, .code yX0_readText cX0_readText 5 (some .boolean)), (833, .code yX0_readLine cX0_readLine 1 (some .boolean)), (981, .code yX0_readSetting cX0_readSetting 1 (some .boolean)), (890, .code yX0_readMember cX0_readMember 5 (some .boolean)), (926, .code yX0_readMotion cX0_readMotion 5 (some .boolean)), (942, .code yX0_takeSet cX0_takeSet 3 (some .int)), (956, .code yX0_takeSky cX0_takeSky 1 (some .int)), (952, .code yX0_readSky cX0_readSky 4 (some .boolean)), (967, .code yX0_readPlace cX0_readPlace 2 (some .boolean)), (973, .code yX0_readPaper cX0_readPaper 5 (some .boolean)), (164, .code yX1_init cX1_init 1 none), (770, .code yX1_takeAll cX1_takeAll 2 none), (917, .code yX1_addMember cX1_addMember 5 none), (637, .code yX1_seatsOf cX1_seatsOf 4 (some .int)), (1193, .code yX1_shareOf cX1_shareOf 3 (some .int)), (656, .code yX1_seenBy cX1_seenBy 4 (some .int)), (598, .code yX1_fillFacts cX1_fillFacts 6 none), (623, .code yX1_feels cX1_feels 9 (some .int)), (590, .code yX1_lapsesIn cX1_lapsesIn 4 (some .boolean)), (633, .code yX1_byVotes cX1_byVotes 7 (some .int))]
set_option maxRecDepth 100000 in
theorem wK26 : ∀ q ∈ wL26, lw_tbl[q.1]? = some q.2 ∧ goodWord q.2 = true := by decide +kernel
theorem w624 : .fieldLink RX11 431 "DrizzleVote" "isKept" "Z" ∈ zTg := zin_of (wK26 _ (List.mem_of_getElem? (i := 0) (show wL26[0]? = some (508, .fieldLink RX11 431 "DrizzleVote" "isKept" "Z") from rfl)))
theorem w625 : .fieldLink RX11 435 "DrizzleVote$Weather" "day" "I" ∈ zTg := zin_of (wK26 _ (List.mem_of_getElem? (i := 1) (show wL26[1]? = some (188, .fieldLink RX11 435 "DrizzleVote$Weather" "day" "I") from rfl)))
theorem w626 : .fieldLink RX11 438 "DrizzleVote$Council" "wetSeats" "I" ∈ zTg := zin_of (wK26 _ (List.mem_of_getElem? (i := 2) (show wL26[2]? = some (306, .fieldLink RX11 438 "DrizzleVote$Council" "wetSeats" "I") from rfl)))
theorem w627 : .code yX0_init cX0_init 1 none ∈ zTg := zin_of (wK26 _ (List.mem_of_getElem? (i := 3) (show wL26[3]? = some (356, .code yX0_init cX0_init 1 none) from rfl)))
theorem w628 : .code yX0_readText cX0_readText 5 (some .boolean) ∈ zTg := zin_of (wK26 _ (List.mem_of_getElem? (i := 4) (show wL26[4]? = some (814, .code yX0_readText cX0_readText 5 (some .boolean)) from rfl)))
theorem w629 : .code yX0_readLine cX0_readLine 1 (some .boolean) ∈ zTg := zin_of (wK26 _ (List.mem_of_getElem? (i := 5) (show wL26[5]? = some (833, .code yX0_readLine cX0_readLine 1 (some .boolean)) from rfl)))
theorem w630 : .code yX0_readSetting cX0_readSetting 1 (some .boolean) ∈ zTg := zin_of (wK26 _ (List.mem_of_getElem? (i := 6) (show wL26[6]? = some (981, .code yX0_readSetting cX0_readSetting 1 (some .boolean)) from rfl)))
theorem w631 : .code yX0_readMember cX0_readMember 5 (some .boolean) ∈ zTg := zin_of (wK26 _ (List.mem_of_getElem? (i := 7) (show wL26[7]? = some (890, .code yX0_readMember cX0_readMember 5 (some .boolean)) from rfl)))
theorem w632 : .code yX0_readMotion cX0_readMotion 5 (some .boolean) ∈ zTg := zin_of (wK26 _ (List.mem_of_getElem? (i := 8) (show wL26[8]? = some (926, .code yX0_readMotion cX0_readMotion 5 (some .boolean)) from rfl)))
theorem w633 : .code yX0_takeSet cX0_takeSet 3 (some .int) ∈ zTg := zin_of (wK26 _ (List.mem_of_getElem? (i := 9) (show wL26[9]? = some (942, .code yX0_takeSet cX0_takeSet 3 (some .int)) from rfl)))
theorem w634 : .code yX0_takeSky cX0_takeSky 1 (some .int) ∈ zTg := zin_of (wK26 _ (List.mem_of_getElem? (i := 10) (show wL26[10]? = some (956, .code yX0_takeSky cX0_takeSky 1 (some .int)) from rfl)))
theorem w635 : .code yX0_readSky cX0_readSky 4 (some .boolean) ∈ zTg := zin_of (wK26 _ (List.mem_of_getElem? (i := 11) (show wL26[11]? = some (952, .code yX0_readSky cX0_readSky 4 (some .boolean)) from rfl)))
theorem w636 : .code yX0_readPlace cX0_readPlace 2 (some .boolean) ∈ zTg := zin_of (wK26 _ (List.mem_of_getElem? (i := 12) (show wL26[12]? = some (967, .code yX0_readPlace cX0_readPlace 2 (some .boolean)) from rfl)))
theorem w637 : .code yX0_readPaper cX0_readPaper 5 (some .boolean) ∈ zTg := zin_of (wK26 _ (List.mem_of_getElem? (i := 13) (show wL26[13]? = some (973, .code yX0_readPaper cX0_readPaper 5 (some .boolean)) from rfl)))
theorem w638 : .code yX1_init cX1_init 1 none ∈ zTg := zin_of (wK26 _ (List.mem_of_getElem? (i := 14) (show wL26[14]? = some (164, .code yX1_init cX1_init 1 none) from rfl)))
theorem w639 : .code yX1_takeAll cX1_takeAll 2 none ∈ zTg := zin_of (wK26 _ (List.mem_of_getElem? (i := 15) (show wL26[15]? = some (770, .code yX1_takeAll cX1_takeAll 2 none) from rfl)))
theorem w640 : .code yX1_addMember cX1_addMember 5 none ∈ zTg := zin_of (wK26 _ (List.mem_of_getElem? (i := 16) (show wL26[16]? = some (917, .code yX1_addMember cX1_addMember 5 none) from rfl)))
theorem w641 : .code yX1_seatsOf cX1_seatsOf 4 (some .int) ∈ zTg := zin_of (wK26 _ (List.mem_of_getElem? (i := 17) (show wL26[17]? = some (637, .code yX1_seatsOf cX1_seatsOf 4 (some .int)) from rfl)))
theorem w642 : .code yX1_shareOf cX1_shareOf 3 (some .int) ∈ zTg := zin_of (wK26 _ (List.mem_of_getElem? (i := 18) (show wL26[18]? = some (1193, .code yX1_shareOf cX1_shareOf 3 (some .int)) from rfl)))
theorem w643 : .code yX1_seenBy cX1_seenBy 4 (some .int) ∈ zTg := zin_of (wK26 _ (List.mem_of_getElem? (i := 19) (show wL26[19]? = some (656, .code yX1_seenBy cX1_seenBy 4 (some .int)) from rfl)))
theorem w644 : .code yX1_fillFacts cX1_fillFacts 6 none ∈ zTg := zin_of (wK26 _ (List.mem_of_getElem? (i := 20) (show wL26[20]? = some (598, .code yX1_fillFacts cX1_fillFacts 6 none) from rfl)))
theorem w645 : .code yX1_feels cX1_feels 9 (some .int) ∈ zTg := zin_of (wK26 _ (List.mem_of_getElem? (i := 21) (show wL26[21]? = some (623, .code yX1_feels cX1_feels 9 (some .int)) from rfl)))
theorem w646 : .code yX1_lapsesIn cX1_lapsesIn 4 (some .boolean) ∈ zTg := zin_of (wK26 _ (List.mem_of_getElem? (i := 22) (show wL26[22]? = some (590, .code yX1_lapsesIn cX1_lapsesIn 4 (some .boolean)) from rfl)))
theorem w647 : .code yX1_byVotes cX1_byVotes 7 (some .int) ∈ zTg := zin_of (wK26 _ (List.mem_of_getElem? (i := 23) (show wL26[23]? = some (633, .code yX1_byVotes cX1_byVotes 7 (some .int)) from rfl)))
def wL27 : List (Nat × Cond) := [(586, .code yX1_outcome cX1_outcome 7 (some .int)), (582, .code yX1_outcomeIn cX1_outcomeIn 4 (some .int)), (575, .code yX1_carriedOf cX1_carriedOf 5 (some .int)), (1606, .code yX1_carriedBacked cX1_carriedBacked 6 (some .int)), (1414, .code yX1_carriedThen cX1_carriedThen 6 (some .int)), (1498, .code yX1_wettingSkies cX1_wettingSkies 4 (some .int)), (1291, .code yX1_runHour cX1_runHour 3 (some .int)), (447, .code yX2_init cX2_init 1 none), (1493, .code yX2_readRows cX2_readRows 9 (some .boolean)), (1503, .code yX2_countWays cX2_countWays 4 (some .int)), (1508, .code yX2_waysTo cX2_waysTo 6 (some .int)), (1514, .code yX2_skiesNow cX2_skiesNow 3 (some .int)), (409, .code yX3_init cX3_init 2 none), (1124, .code yX3_addStep cX3_addStep 2 none), (1159, .code yX3_addLine cX3_addLine 3 none), (594, .code yX3_hasKind cX3_hasKind 3 (some .boolean)), (606, .code yX3_sumOf cX3_sumOf 5 (some .int)), (610, .code yX3_holds cX3_holds 8 (some .boolean)), (613, .code yX3_join cX3_join 3 (some .int)), (401, .code yX4_init cX4_init 1 none), (1095, .code yX4_readText cX4_readText 6 (some .boolean)), (1101, .code yX4_takeKind cX4_takeKind 1 (some .int)), (1112, .code yX4_readCondition cX4_readCondition 5 (some .boolean)), (1116, .code yX4_readAtom cX4_readAtom 3 (some .boolean))]
set_option maxRecDepth 100000 in
theorem wK27 : ∀ q ∈ wL27, lw_tbl[q.1]? = some q.2 ∧ goodWord q.2 = true := by decide +kernel
theorem w648 : .code yX1_outcome cX1_outcome 7 (some .int) ∈ zTg := zin_of (wK27 _ (List.mem_of_getElem? (i := 0) (show wL27[0]? = some (586, .code yX1_outcome cX1_outcome 7 (some .int)) from rfl)))
theorem w649 : .code yX1_outcomeIn cX1_outcomeIn 4 (some .int) ∈ zTg := zin_of (wK27 _ (List.mem_of_getElem? (i := 1) (show wL27[1]? = some (582, .code yX1_outcomeIn cX1_outcomeIn 4 (some .int)) from rfl)))
theorem w650 : .code yX1_carriedOf cX1_carriedOf 5 (some .int) ∈ zTg := zin_of (wK27 _ (List.mem_of_getElem? (i := 2) (show wL27[2]? = some (575, .code yX1_carriedOf cX1_carriedOf 5 (some .int)) from rfl)))
theorem w651 : .code yX1_carriedBacked cX1_carriedBacked 6 (some .int) ∈ zTg := zin_of (wK27 _ (List.mem_of_getElem? (i := 3) (show wL27[3]? = some (1606, .code yX1_carriedBacked cX1_carriedBacked 6 (some .int)) from rfl)))
theorem w652 : .code yX1_carriedThen cX1_carriedThen 6 (some .int) ∈ zTg := zin_of (wK27 _ (List.mem_of_getElem? (i := 4) (show wL27[4]? = some (1414, .code yX1_carriedThen cX1_carriedThen 6 (some .int)) from rfl)))
theorem w653 : .code yX1_wettingSkies cX1_wettingSkies 4 (some .int) ∈ zTg := zin_of (wK27 _ (List.mem_of_getElem? (i := 5) (show wL27[5]? = some (1498, .code yX1_wettingSkies cX1_wettingSkies 4 (some .int)) from rfl)))
theorem w654 : .code yX1_runHour cX1_runHour 3 (some .int) ∈ zTg := zin_of (wK27 _ (List.mem_of_getElem? (i := 6) (show wL27[6]? = some (1291, .code yX1_runHour cX1_runHour 3 (some .int)) from rfl)))
theorem w655 : .code yX2_init cX2_init 1 none ∈ zTg := zin_of (wK27 _ (List.mem_of_getElem? (i := 7) (show wL27[7]? = some (447, .code yX2_init cX2_init 1 none) from rfl)))
theorem w656 : .code yX2_readRows cX2_readRows 9 (some .boolean) ∈ zTg := zin_of (wK27 _ (List.mem_of_getElem? (i := 8) (show wL27[8]? = some (1493, .code yX2_readRows cX2_readRows 9 (some .boolean)) from rfl)))
theorem w657 : .code yX2_countWays cX2_countWays 4 (some .int) ∈ zTg := zin_of (wK27 _ (List.mem_of_getElem? (i := 9) (show wL27[9]? = some (1503, .code yX2_countWays cX2_countWays 4 (some .int)) from rfl)))
theorem w658 : .code yX2_waysTo cX2_waysTo 6 (some .int) ∈ zTg := zin_of (wK27 _ (List.mem_of_getElem? (i := 10) (show wL27[10]? = some (1508, .code yX2_waysTo cX2_waysTo 6 (some .int)) from rfl)))
theorem w659 : .code yX2_skiesNow cX2_skiesNow 3 (some .int) ∈ zTg := zin_of (wK27 _ (List.mem_of_getElem? (i := 11) (show wL27[11]? = some (1514, .code yX2_skiesNow cX2_skiesNow 3 (some .int)) from rfl)))
theorem w660 : .code yX3_init cX3_init 2 none ∈ zTg := zin_of (wK27 _ (List.mem_of_getElem? (i := 12) (show wL27[12]? = some (409, .code yX3_init cX3_init 2 none) from rfl)))
theorem w661 : .code yX3_addStep cX3_addStep 2 none ∈ zTg := zin_of (wK27 _ (List.mem_of_getElem? (i := 13) (show wL27[13]? = some (1124, .code yX3_addStep cX3_addStep 2 none) from rfl)))
theorem w662 : .code yX3_addLine cX3_addLine 3 none ∈ zTg := zin_of (wK27 _ (List.mem_of_getElem? (i := 14) (show wL27[14]? = some (1159, .code yX3_addLine cX3_addLine 3 none) from rfl)))
theorem w663 : .code yX3_hasKind cX3_hasKind 3 (some .boolean) ∈ zTg := zin_of (wK27 _ (List.mem_of_getElem? (i := 15) (show wL27[15]? = some (594, .code yX3_hasKind cX3_hasKind 3 (some .boolean)) from rfl)))
theorem w664 : .code yX3_sumOf cX3_sumOf 5 (some .int) ∈ zTg := zin_of (wK27 _ (List.mem_of_getElem? (i := 16) (show wL27[16]? = some (606, .code yX3_sumOf cX3_sumOf 5 (some .int)) from rfl)))
theorem w665 : .code yX3_holds cX3_holds 8 (some .boolean) ∈ zTg := zin_of (wK27 _ (List.mem_of_getElem? (i := 17) (show wL27[17]? = some (610, .code yX3_holds cX3_holds 8 (some .boolean)) from rfl)))
theorem w666 : .code yX3_join cX3_join 3 (some .int) ∈ zTg := zin_of (wK27 _ (List.mem_of_getElem? (i := 18) (show wL27[18]? = some (613, .code yX3_join cX3_join 3 (some .int)) from rfl)))
theorem w667 : .code yX4_init cX4_init 1 none ∈ zTg := zin_of (wK27 _ (List.mem_of_getElem? (i := 19) (show wL27[19]? = some (401, .code yX4_init cX4_init 1 none) from rfl)))
theorem w668 : .code yX4_readText cX4_readText 6 (some .boolean) ∈ zTg := zin_of (wK27 _ (List.mem_of_getElem? (i := 20) (show wL27[20]? = some (1095, .code yX4_readText cX4_readText 6 (some .boolean)) from rfl)))
theorem w669 : .code yX4_takeKind cX4_takeKind 1 (some .int) ∈ zTg := zin_of (wK27 _ (List.mem_of_getElem? (i := 21) (show wL27[21]? = some (1101, .code yX4_takeKind cX4_takeKind 1 (some .int)) from rfl)))
theorem w670 : .code yX4_readCondition cX4_readCondition 5 (some .boolean) ∈ zTg := zin_of (wK27 _ (List.mem_of_getElem? (i := 22) (show wL27[22]? = some (1112, .code yX4_readCondition cX4_readCondition 5 (some .boolean)) from rfl)))
theorem w671 : .code yX4_readAtom cX4_readAtom 3 (some .boolean) ∈ zTg := zin_of (wK27 _ (List.mem_of_getElem? (i := 23) (show wL27[23]? = some (1116, .code yX4_readAtom cX4_readAtom 3 (some .boolean)) from rfl)))
def wL28 : List (Nat × Cond) := [(1131, .code yX4_takeFact cX4_takeFact 3 (some .boolean)), (1137, .code yX4_readComparison cX4_readComparison 4 (some .boolean)), (1141, .code yX4_readPart cX4_readPart 2 (some .boolean)), (264, .code yX5_init cX5_init 1 none), (784, .code yX5_takeRows cX5_takeRows 2 none), (1300, .code yX5_addRow cX5_addRow 7 none), (1668, .code yX5_valueOf cX5_valueOf 3 (some .int)), (218, .code yX6_init cX6_init 1 none), (779, .code yX6_takeMotions cX6_takeMotions 2 none), (602, .code yX6_has cX6_has 2 (some .boolean)), (947, .code yX6_add cX6_add 5 none), (977, .code yX6_hourOf cX6_hourOf 3 (some .int)), (1337, .code yX6_putOnPaper cX6_putOnPaper 4 none), (571, .code yX6_inState cX6_inState 4 (some .int)), (1478, .code yX6_sumOver cX6_sumOver 5 (some .int)), (708, .code yX6_thoseLiked cX6_thoseLiked 4 (some .int)), (1602, .code yX6_likedByOneOnly cX6_likedByOneOnly 3 (some .int)), (704, .code yX6_sameMinds cX6_sameMinds 3 (some .int)), (647, .code yX6_hastierThan cX6_hastierThan 7 (some .int)), (486, .code yX7_init cX7_init 1 none), (1439, .code yX7_planDay cX7_planDay 5 none), (1450, .code yX7_mostFrom cX7_mostFrom 5 (some .int)), (1454, .code yX7_isFree cX7_isFree 3 (some .boolean)), (1458, .code yX7_withMotion cX7_withMotion 4 (some .int))]
set_option maxRecDepth 100000 in
theorem wK28 : ∀ q ∈ wL28, lw_tbl[q.1]? = some q.2 ∧ goodWord q.2 = true := by decide +kernel
theorem w672 : .code yX4_takeFact cX4_takeFact 3 (some .boolean) ∈ zTg := zin_of (wK28 _ (List.mem_of_getElem? (i := 0) (show wL28[0]? = some (1131, .code yX4_takeFact cX4_takeFact 3 (some .boolean)) from rfl)))
theorem w673 : .code yX4_readComparison cX4_readComparison 4 (some .boolean) ∈ zTg := zin_of (wK28 _ (List.mem_of_getElem? (i := 1) (show wL28[1]? = some (1137, .code yX4_readComparison cX4_readComparison 4 (some .boolean)) from rfl)))
theorem w674 : .code yX4_readPart cX4_readPart 2 (some .boolean) ∈ zTg := zin_of (wK28 _ (List.mem_of_getElem? (i := 2) (show wL28[2]? = some (1141, .code yX4_readPart cX4_readPart 2 (some .boolean)) from rfl)))
theorem w675 : .code yX5_init cX5_init 1 none ∈ zTg := zin_of (wK28 _ (List.mem_of_getElem? (i := 3) (show wL28[3]? = some (264, .code yX5_init cX5_init 1 none) from rfl)))
theorem w676 : .code yX5_takeRows cX5_takeRows 2 none ∈ zTg := zin_of (wK28 _ (List.mem_of_getElem? (i := 4) (show wL28[4]? = some (784, .code yX5_takeRows cX5_takeRows 2 none) from rfl)))
theorem w677 : .code yX5_addRow cX5_addRow 7 none ∈ zTg := zin_of (wK28 _ (List.mem_of_getElem? (i := 5) (show wL28[5]? = some (1300, .code yX5_addRow cX5_addRow 7 none) from rfl)))
theorem w678 : .code yX5_valueOf cX5_valueOf 3 (some .int) ∈ zTg := zin_of (wK28 _ (List.mem_of_getElem? (i := 6) (show wL28[6]? = some (1668, .code yX5_valueOf cX5_valueOf 3 (some .int)) from rfl)))
theorem w679 : .code yX6_init cX6_init 1 none ∈ zTg := zin_of (wK28 _ (List.mem_of_getElem? (i := 7) (show wL28[7]? = some (218, .code yX6_init cX6_init 1 none) from rfl)))
theorem w680 : .code yX6_takeMotions cX6_takeMotions 2 none ∈ zTg := zin_of (wK28 _ (List.mem_of_getElem? (i := 8) (show wL28[8]? = some (779, .code yX6_takeMotions cX6_takeMotions 2 none) from rfl)))
theorem w681 : .code yX6_has cX6_has 2 (some .boolean) ∈ zTg := zin_of (wK28 _ (List.mem_of_getElem? (i := 9) (show wL28[9]? = some (602, .code yX6_has cX6_has 2 (some .boolean)) from rfl)))
theorem w682 : .code yX6_add cX6_add 5 none ∈ zTg := zin_of (wK28 _ (List.mem_of_getElem? (i := 10) (show wL28[10]? = some (947, .code yX6_add cX6_add 5 none) from rfl)))
theorem w683 : .code yX6_hourOf cX6_hourOf 3 (some .int) ∈ zTg := zin_of (wK28 _ (List.mem_of_getElem? (i := 11) (show wL28[11]? = some (977, .code yX6_hourOf cX6_hourOf 3 (some .int)) from rfl)))
theorem w684 : .code yX6_putOnPaper cX6_putOnPaper 4 none ∈ zTg := zin_of (wK28 _ (List.mem_of_getElem? (i := 12) (show wL28[12]? = some (1337, .code yX6_putOnPaper cX6_putOnPaper 4 none) from rfl)))
theorem w685 : .code yX6_inState cX6_inState 4 (some .int) ∈ zTg := zin_of (wK28 _ (List.mem_of_getElem? (i := 13) (show wL28[13]? = some (571, .code yX6_inState cX6_inState 4 (some .int)) from rfl)))
theorem w686 : .code yX6_sumOver cX6_sumOver 5 (some .int) ∈ zTg := zin_of (wK28 _ (List.mem_of_getElem? (i := 14) (show wL28[14]? = some (1478, .code yX6_sumOver cX6_sumOver 5 (some .int)) from rfl)))
theorem w687 : .code yX6_thoseLiked cX6_thoseLiked 4 (some .int) ∈ zTg := zin_of (wK28 _ (List.mem_of_getElem? (i := 15) (show wL28[15]? = some (708, .code yX6_thoseLiked cX6_thoseLiked 4 (some .int)) from rfl)))
theorem w688 : .code yX6_likedByOneOnly cX6_likedByOneOnly 3 (some .int) ∈ zTg := zin_of (wK28 _ (List.mem_of_getElem? (i := 16) (show wL28[16]? = some (1602, .code yX6_likedByOneOnly cX6_likedByOneOnly 3 (some .int)) from rfl)))
theorem w689 : .code yX6_sameMinds cX6_sameMinds 3 (some .int) ∈ zTg := zin_of (wK28 _ (List.mem_of_getElem? (i := 17) (show wL28[17]? = some (704, .code yX6_sameMinds cX6_sameMinds 3 (some .int)) from rfl)))
theorem w690 : .code yX6_hastierThan cX6_hastierThan 7 (some .int) ∈ zTg := zin_of (wK28 _ (List.mem_of_getElem? (i := 18) (show wL28[18]? = some (647, .code yX6_hastierThan cX6_hastierThan 7 (some .int)) from rfl)))
theorem w691 : .code yX7_init cX7_init 1 none ∈ zTg := zin_of (wK28 _ (List.mem_of_getElem? (i := 19) (show wL28[19]? = some (486, .code yX7_init cX7_init 1 none) from rfl)))
theorem w692 : .code yX7_planDay cX7_planDay 5 none ∈ zTg := zin_of (wK28 _ (List.mem_of_getElem? (i := 20) (show wL28[20]? = some (1439, .code yX7_planDay cX7_planDay 5 none) from rfl)))
theorem w693 : .code yX7_mostFrom cX7_mostFrom 5 (some .int) ∈ zTg := zin_of (wK28 _ (List.mem_of_getElem? (i := 21) (show wL28[21]? = some (1450, .code yX7_mostFrom cX7_mostFrom 5 (some .int)) from rfl)))
theorem w694 : .code yX7_isFree cX7_isFree 3 (some .boolean) ∈ zTg := zin_of (wK28 _ (List.mem_of_getElem? (i := 22) (show wL28[22]? = some (1454, .code yX7_isFree cX7_isFree 3 (some .boolean)) from rfl)))
theorem w695 : .code yX7_withMotion cX7_withMotion 4 (some .int) ∈ zTg := zin_of (wK28 _ (List.mem_of_getElem? (i := 23) (show wL28[23]? = some (1458, .code yX7_withMotion cX7_withMotion 4 (some .int)) from rfl)))
def wL29 : List (Nat × Cond) := [(1463, .code yX7_motionAt cX7_motionAt 5 (some .int)), (1467, .code yX7_firstBest cX7_firstBest 5 (some .int)), (1548, .code yX7_planPosts cX7_planPosts 6 none), (1552, .code yX7_withPlace cX7_withPlace 5 (some .int)), (1556, .code yX7_placeOf cX7_placeOf 6 (some .int)), (1560, .code yX7_firstPlace cX7_firstPlace 5 (some .int)), (465, .code yX8_init cX8_init 1 none), (664, .code yX8_weigh cX8_weigh 3 none), (673, .code yX8_seatsIn cX8_seatsIn 4 (some .int)), (669, .code yX8_isWinning cX8_isWinning 2 (some .boolean)), (690, .code yX8_countSwings cX8_countSwings 2 none), (696, .code yX8_addSwings cX8_addSwings 4 none), (682, .code yX8_isMinimal cX8_isMinimal 4 (some .boolean)), (173, .code yX9_init cX9_init 1 none), (775, .code yX9_takeWeather cX9_takeWeather 2 none), (737, .code yX9_sumBehind cX9_sumBehind 4 (some .int)), (1295, .code yX9_passSky cX9_passSky 5 none), (1304, .code yX9_passHour cX9_passHour 1 none), (1410, .code yX9_hourThen cX9_hourThen 2 (some .int)), (725, .code yX9_startChances cX9_startChances 1 none), (729, .code yX9_spreadHour cX9_spreadHour 2 none), (733, .code yX9_give cX9_give 9 none), (721, .code yX9_dryBehind cX9_dryBehind 4 (some .int)), (362, .code yX10_init cX10_init 1 none)]
set_option maxRecDepth 100000 in
theorem wK29 : ∀ q ∈ wL29, lw_tbl[q.1]? = some q.2 ∧ goodWord q.2 = true := by decide +kernel
theorem w696 : .code yX7_motionAt cX7_motionAt 5 (some .int) ∈ zTg := zin_of (wK29 _ (List.mem_of_getElem? (i := 0) (show wL29[0]? = some (1463, .code yX7_motionAt cX7_motionAt 5 (some .int)) from rfl)))
theorem w697 : .code yX7_firstBest cX7_firstBest 5 (some .int) ∈ zTg := zin_of (wK29 _ (List.mem_of_getElem? (i := 1) (show wL29[1]? = some (1467, .code yX7_firstBest cX7_firstBest 5 (some .int)) from rfl)))
theorem w698 : .code yX7_planPosts cX7_planPosts 6 none ∈ zTg := zin_of (wK29 _ (List.mem_of_getElem? (i := 2) (show wL29[2]? = some (1548, .code yX7_planPosts cX7_planPosts 6 none) from rfl)))
theorem w699 : .code yX7_withPlace cX7_withPlace 5 (some .int) ∈ zTg := zin_of (wK29 _ (List.mem_of_getElem? (i := 3) (show wL29[3]? = some (1552, .code yX7_withPlace cX7_withPlace 5 (some .int)) from rfl)))
theorem w700 : .code yX7_placeOf cX7_placeOf 6 (some .int) ∈ zTg := zin_of (wK29 _ (List.mem_of_getElem? (i := 4) (show wL29[4]? = some (1556, .code yX7_placeOf cX7_placeOf 6 (some .int)) from rfl)))
theorem w701 : .code yX7_firstPlace cX7_firstPlace 5 (some .int) ∈ zTg := zin_of (wK29 _ (List.mem_of_getElem? (i := 5) (show wL29[5]? = some (1560, .code yX7_firstPlace cX7_firstPlace 5 (some .int)) from rfl)))
theorem w702 : .code yX8_init cX8_init 1 none ∈ zTg := zin_of (wK29 _ (List.mem_of_getElem? (i := 6) (show wL29[6]? = some (465, .code yX8_init cX8_init 1 none) from rfl)))
theorem w703 : .code yX8_weigh cX8_weigh 3 none ∈ zTg := zin_of (wK29 _ (List.mem_of_getElem? (i := 7) (show wL29[7]? = some (664, .code yX8_weigh cX8_weigh 3 none) from rfl)))
theorem w704 : .code yX8_seatsIn cX8_seatsIn 4 (some .int) ∈ zTg := zin_of (wK29 _ (List.mem_of_getElem? (i := 8) (show wL29[8]? = some (673, .code yX8_seatsIn cX8_seatsIn 4 (some .int)) from rfl)))
theorem w705 : .code yX8_isWinning cX8_isWinning 2 (some .boolean) ∈ zTg := zin_of (wK29 _ (List.mem_of_getElem? (i := 9) (show wL29[9]? = some (669, .code yX8_isWinning cX8_isWinning 2 (some .boolean)) from rfl)))
theorem w706 : .code yX8_countSwings cX8_countSwings 2 none ∈ zTg := zin_of (wK29 _ (List.mem_of_getElem? (i := 10) (show wL29[10]? = some (690, .code yX8_countSwings cX8_countSwings 2 none) from rfl)))
theorem w707 : .code yX8_addSwings cX8_addSwings 4 none ∈ zTg := zin_of (wK29 _ (List.mem_of_getElem? (i := 11) (show wL29[11]? = some (696, .code yX8_addSwings cX8_addSwings 4 none) from rfl)))
theorem w708 : .code yX8_isMinimal cX8_isMinimal 4 (some .boolean) ∈ zTg := zin_of (wK29 _ (List.mem_of_getElem? (i := 12) (show wL29[12]? = some (682, .code yX8_isMinimal cX8_isMinimal 4 (some .boolean)) from rfl)))
theorem w709 : .code yX9_init cX9_init 1 none ∈ zTg := zin_of (wK29 _ (List.mem_of_getElem? (i := 13) (show wL29[13]? = some (173, .code yX9_init cX9_init 1 none) from rfl)))
theorem w710 : .code yX9_takeWeather cX9_takeWeather 2 none ∈ zTg := zin_of (wK29 _ (List.mem_of_getElem? (i := 14) (show wL29[14]? = some (775, .code yX9_takeWeather cX9_takeWeather 2 none) from rfl)))
theorem w711 : .code yX9_sumBehind cX9_sumBehind 4 (some .int) ∈ zTg := zin_of (wK29 _ (List.mem_of_getElem? (i := 15) (show wL29[15]? = some (737, .code yX9_sumBehind cX9_sumBehind 4 (some .int)) from rfl)))
theorem w712 : .code yX9_passSky cX9_passSky 5 none ∈ zTg := zin_of (wK29 _ (List.mem_of_getElem? (i := 16) (show wL29[16]? = some (1295, .code yX9_passSky cX9_passSky 5 none) from rfl)))
theorem w713 : .code yX9_passHour cX9_passHour 1 none ∈ zTg := zin_of (wK29 _ (List.mem_of_getElem? (i := 17) (show wL29[17]? = some (1304, .code yX9_passHour cX9_passHour 1 none) from rfl)))
theorem w714 : .code yX9_hourThen cX9_hourThen 2 (some .int) ∈ zTg := zin_of (wK29 _ (List.mem_of_getElem? (i := 18) (show wL29[18]? = some (1410, .code yX9_hourThen cX9_hourThen 2 (some .int)) from rfl)))
theorem w715 : .code yX9_startChances cX9_startChances 1 none ∈ zTg := zin_of (wK29 _ (List.mem_of_getElem? (i := 19) (show wL29[19]? = some (725, .code yX9_startChances cX9_startChances 1 none) from rfl)))
theorem w716 : .code yX9_spreadHour cX9_spreadHour 2 none ∈ zTg := zin_of (wK29 _ (List.mem_of_getElem? (i := 20) (show wL29[20]? = some (729, .code yX9_spreadHour cX9_spreadHour 2 none) from rfl)))
theorem w717 : .code yX9_give cX9_give 9 none ∈ zTg := zin_of (wK29 _ (List.mem_of_getElem? (i := 21) (show wL29[21]? = some (733, .code yX9_give cX9_give 9 none) from rfl)))
theorem w718 : .code yX9_dryBehind cX9_dryBehind 4 (some .int) ∈ zTg := zin_of (wK29 _ (List.mem_of_getElem? (i := 22) (show wL29[22]? = some (721, .code yX9_dryBehind cX9_dryBehind 4 (some .int)) from rfl)))
theorem w719 : .code yX10_init cX10_init 1 none ∈ zTg := zin_of (wK29 _ (List.mem_of_getElem? (i := 23) (show wL29[23]? = some (362, .code yX10_init cX10_init 1 none) from rfl)))
def wL30 : List (Nat × Cond) := [(819, .code yX10_open cX10_open 3 none), (825, .code yX10_advance cX10_advance 6 none), (905, .code yX10_fail cX10_fail 1 (some .boolean)), (829, .code yX10_atEnd cX10_atEnd 1 (some .boolean)), (1145, .code yX10_atDigits cX10_atDigits 1 (some .boolean)), (838, .code yX10_atWord cX10_atWord 3 (some .boolean)), (900, .code yX10_takeWord cX10_takeWord 2 (some .boolean)), (896, .code yX10_needWord cX10_needWord 2 (some .boolean)), (998, .code yX10_atSign cX10_atSign 2 (some .boolean)), (994, .code yX10_takeSign cX10_takeSign 2 (some .boolean)), (990, .code yX10_needSign cX10_needSign 2 (some .boolean)), (909, .code yX10_takeNumber cX10_takeNumber 5 (some .int)), (934, .code yX10_atFigures cX10_atFigures 4 (some .boolean)), (938, .code yX10_figure cX10_figure 3 (some .int)), (156, .code yX11_init cX11_init 2 none), (123, .initialized RX11), (551, .code yX11_feed cX11_feed 6 (some .int)), (555, .code yX11_putNumber cX11_putNumber 3 none), (559, .code yX11_end cX11_end 2 (some .boolean)), (810, .code yX11_coast cX11_coast 2 (some .int)), (1091, .code yX11_law cX11_law 2 (some .int)), (563, .code yX11_fault cX11_fault 1 (some .int)), (1169, .code yX11_member cX11_member 3 (some .int)), (1217, .code yX11_motion cX11_motion 3 (some .int))]
set_option maxRecDepth 100000 in
theorem wK30 : ∀ q ∈ wL30, lw_tbl[q.1]? = some q.2 ∧ goodWord q.2 = true := by decide +kernel
theorem w720 : .code yX10_open cX10_open 3 none ∈ zTg := zin_of (wK30 _ (List.mem_of_getElem? (i := 0) (show wL30[0]? = some (819, .code yX10_open cX10_open 3 none) from rfl)))
theorem w721 : .code yX10_advance cX10_advance 6 none ∈ zTg := zin_of (wK30 _ (List.mem_of_getElem? (i := 1) (show wL30[1]? = some (825, .code yX10_advance cX10_advance 6 none) from rfl)))
theorem w722 : .code yX10_fail cX10_fail 1 (some .boolean) ∈ zTg := zin_of (wK30 _ (List.mem_of_getElem? (i := 2) (show wL30[2]? = some (905, .code yX10_fail cX10_fail 1 (some .boolean)) from rfl)))
theorem w723 : .code yX10_atEnd cX10_atEnd 1 (some .boolean) ∈ zTg := zin_of (wK30 _ (List.mem_of_getElem? (i := 3) (show wL30[3]? = some (829, .code yX10_atEnd cX10_atEnd 1 (some .boolean)) from rfl)))
theorem w724 : .code yX10_atDigits cX10_atDigits 1 (some .boolean) ∈ zTg := zin_of (wK30 _ (List.mem_of_getElem? (i := 4) (show wL30[4]? = some (1145, .code yX10_atDigits cX10_atDigits 1 (some .boolean)) from rfl)))
theorem w725 : .code yX10_atWord cX10_atWord 3 (some .boolean) ∈ zTg := zin_of (wK30 _ (List.mem_of_getElem? (i := 5) (show wL30[5]? = some (838, .code yX10_atWord cX10_atWord 3 (some .boolean)) from rfl)))
theorem w726 : .code yX10_takeWord cX10_takeWord 2 (some .boolean) ∈ zTg := zin_of (wK30 _ (List.mem_of_getElem? (i := 6) (show wL30[6]? = some (900, .code yX10_takeWord cX10_takeWord 2 (some .boolean)) from rfl)))
theorem w727 : .code yX10_needWord cX10_needWord 2 (some .boolean) ∈ zTg := zin_of (wK30 _ (List.mem_of_getElem? (i := 7) (show wL30[7]? = some (896, .code yX10_needWord cX10_needWord 2 (some .boolean)) from rfl)))
theorem w728 : .code yX10_atSign cX10_atSign 2 (some .boolean) ∈ zTg := zin_of (wK30 _ (List.mem_of_getElem? (i := 8) (show wL30[8]? = some (998, .code yX10_atSign cX10_atSign 2 (some .boolean)) from rfl)))
theorem w729 : .code yX10_takeSign cX10_takeSign 2 (some .boolean) ∈ zTg := zin_of (wK30 _ (List.mem_of_getElem? (i := 9) (show wL30[9]? = some (994, .code yX10_takeSign cX10_takeSign 2 (some .boolean)) from rfl)))
theorem w730 : .code yX10_needSign cX10_needSign 2 (some .boolean) ∈ zTg := zin_of (wK30 _ (List.mem_of_getElem? (i := 10) (show wL30[10]? = some (990, .code yX10_needSign cX10_needSign 2 (some .boolean)) from rfl)))
theorem w731 : .code yX10_takeNumber cX10_takeNumber 5 (some .int) ∈ zTg := zin_of (wK30 _ (List.mem_of_getElem? (i := 11) (show wL30[11]? = some (909, .code yX10_takeNumber cX10_takeNumber 5 (some .int)) from rfl)))
theorem w732 : .code yX10_atFigures cX10_atFigures 4 (some .boolean) ∈ zTg := zin_of (wK30 _ (List.mem_of_getElem? (i := 12) (show wL30[12]? = some (934, .code yX10_atFigures cX10_atFigures 4 (some .boolean)) from rfl)))
theorem w733 : .code yX10_figure cX10_figure 3 (some .int) ∈ zTg := zin_of (wK30 _ (List.mem_of_getElem? (i := 13) (show wL30[13]? = some (938, .code yX10_figure cX10_figure 3 (some .int)) from rfl)))
theorem w734 : .code yX11_init cX11_init 2 none ∈ zTg := zin_of (wK30 _ (List.mem_of_getElem? (i := 14) (show wL30[14]? = some (156, .code yX11_init cX11_init 2 none) from rfl)))
theorem w735 : .initialized RX11 ∈ zTg := zin_of (wK30 _ (List.mem_of_getElem? (i := 15) (show wL30[15]? = some (123, .initialized RX11) from rfl)))
theorem w736 : .code yX11_feed cX11_feed 6 (some .int) ∈ zTg := zin_of (wK30 _ (List.mem_of_getElem? (i := 16) (show wL30[16]? = some (551, .code yX11_feed cX11_feed 6 (some .int)) from rfl)))
theorem w737 : .code yX11_putNumber cX11_putNumber 3 none ∈ zTg := zin_of (wK30 _ (List.mem_of_getElem? (i := 17) (show wL30[17]? = some (555, .code yX11_putNumber cX11_putNumber 3 none) from rfl)))
theorem w738 : .code yX11_end cX11_end 2 (some .boolean) ∈ zTg := zin_of (wK30 _ (List.mem_of_getElem? (i := 18) (show wL30[18]? = some (559, .code yX11_end cX11_end 2 (some .boolean)) from rfl)))
theorem w739 : .code yX11_coast cX11_coast 2 (some .int) ∈ zTg := zin_of (wK30 _ (List.mem_of_getElem? (i := 19) (show wL30[19]? = some (810, .code yX11_coast cX11_coast 2 (some .int)) from rfl)))
theorem w740 : .code yX11_law cX11_law 2 (some .int) ∈ zTg := zin_of (wK30 _ (List.mem_of_getElem? (i := 20) (show wL30[20]? = some (1091, .code yX11_law cX11_law 2 (some .int)) from rfl)))
theorem w741 : .code yX11_fault cX11_fault 1 (some .int) ∈ zTg := zin_of (wK30 _ (List.mem_of_getElem? (i := 21) (show wL30[21]? = some (563, .code yX11_fault cX11_fault 1 (some .int)) from rfl)))
theorem w742 : .code yX11_member cX11_member 3 (some .int) ∈ zTg := zin_of (wK30 _ (List.mem_of_getElem? (i := 22) (show wL30[22]? = some (1169, .code yX11_member cX11_member 3 (some .int)) from rfl)))
theorem w743 : .code yX11_motion cX11_motion 3 (some .int) ∈ zTg := zin_of (wK30 _ (List.mem_of_getElem? (i := 23) (show wL30[23]? = some (1217, .code yX11_motion cX11_motion 3 (some .int)) from rfl)))
def wL31 : List (Nat × Cond) := [(1231, .code yX11_follows cX11_follows 3 (some .int)), (1242, .code yX11_exposed cX11_exposed 2 (some .int)), (1253, .code yX11_paper cX11_paper 2 (some .int)), (1264, .code yX11_felt cX11_felt 4 (some .int)), (1271, .code yX11_goes cX11_goes 4 (some .int)), (1279, .code yX11_hours cX11_hours 4 (some .int)), (1313, .code yX11_table cX11_table 4 (some .int)), (1345, .code yX11_clear cX11_clear 3 (some .int)), (1353, .code yX11_hat cX11_hat 4 (some .boolean)), (1361, .code yX11_out cX11_out 4 (some .boolean)), (1368, .code yX11_walk cX11_walk 4 (some .int)), (1375, .code yX11_mind cX11_mind 3 (some .boolean)), (1382, .code yX11_seat cX11_seat 4 (some .int)), (1389, .code yX11_renew cX11_renew 3 (some .int)), (1397, .code yX11_chance cX11_chance 4 (some .int)), (1406, .code yX11_carries cX11_carries 4 (some .int)), (1421, .code yX11_soonest cX11_soonest 4 (some .int)), (1428, .code yX11_when cX11_when 6 (some .int)), (567, .code yX11_worst cX11_worst 5 (some .int)), (1435, .code yX11_best cX11_best 2 (some .int)), (1474, .code yX11_shower cX11_shower 8 (some .int)), (642, .code yX11_haste cX11_haste 4 (some .int)), (1485, .code yX11_cuffs cX11_cuffs 3 (some .int)), (1521, .code yX11_likely cX11_likely 4 (some .int))]
set_option maxRecDepth 100000 in
theorem wK31 : ∀ q ∈ wL31, lw_tbl[q.1]? = some q.2 ∧ goodWord q.2 = true := by decide +kernel
theorem w744 : .code yX11_follows cX11_follows 3 (some .int) ∈ zTg := zin_of (wK31 _ (List.mem_of_getElem? (i := 0) (show wL31[0]? = some (1231, .code yX11_follows cX11_follows 3 (some .int)) from rfl)))
theorem w745 : .code yX11_exposed cX11_exposed 2 (some .int) ∈ zTg := zin_of (wK31 _ (List.mem_of_getElem? (i := 1) (show wL31[1]? = some (1242, .code yX11_exposed cX11_exposed 2 (some .int)) from rfl)))
theorem w746 : .code yX11_paper cX11_paper 2 (some .int) ∈ zTg := zin_of (wK31 _ (List.mem_of_getElem? (i := 2) (show wL31[2]? = some (1253, .code yX11_paper cX11_paper 2 (some .int)) from rfl)))
theorem w747 : .code yX11_felt cX11_felt 4 (some .int) ∈ zTg := zin_of (wK31 _ (List.mem_of_getElem? (i := 3) (show wL31[3]? = some (1264, .code yX11_felt cX11_felt 4 (some .int)) from rfl)))
theorem w748 : .code yX11_goes cX11_goes 4 (some .int) ∈ zTg := zin_of (wK31 _ (List.mem_of_getElem? (i := 4) (show wL31[4]? = some (1271, .code yX11_goes cX11_goes 4 (some .int)) from rfl)))
theorem w749 : .code yX11_hours cX11_hours 4 (some .int) ∈ zTg := zin_of (wK31 _ (List.mem_of_getElem? (i := 5) (show wL31[5]? = some (1279, .code yX11_hours cX11_hours 4 (some .int)) from rfl)))
theorem w750 : .code yX11_table cX11_table 4 (some .int) ∈ zTg := zin_of (wK31 _ (List.mem_of_getElem? (i := 6) (show wL31[6]? = some (1313, .code yX11_table cX11_table 4 (some .int)) from rfl)))
theorem w751 : .code yX11_clear cX11_clear 3 (some .int) ∈ zTg := zin_of (wK31 _ (List.mem_of_getElem? (i := 7) (show wL31[7]? = some (1345, .code yX11_clear cX11_clear 3 (some .int)) from rfl)))
theorem w752 : .code yX11_hat cX11_hat 4 (some .boolean) ∈ zTg := zin_of (wK31 _ (List.mem_of_getElem? (i := 8) (show wL31[8]? = some (1353, .code yX11_hat cX11_hat 4 (some .boolean)) from rfl)))
theorem w753 : .code yX11_out cX11_out 4 (some .boolean) ∈ zTg := zin_of (wK31 _ (List.mem_of_getElem? (i := 9) (show wL31[9]? = some (1361, .code yX11_out cX11_out 4 (some .boolean)) from rfl)))
theorem w754 : .code yX11_walk cX11_walk 4 (some .int) ∈ zTg := zin_of (wK31 _ (List.mem_of_getElem? (i := 10) (show wL31[10]? = some (1368, .code yX11_walk cX11_walk 4 (some .int)) from rfl)))
theorem w755 : .code yX11_mind cX11_mind 3 (some .boolean) ∈ zTg := zin_of (wK31 _ (List.mem_of_getElem? (i := 11) (show wL31[11]? = some (1375, .code yX11_mind cX11_mind 3 (some .boolean)) from rfl)))
theorem w756 : .code yX11_seat cX11_seat 4 (some .int) ∈ zTg := zin_of (wK31 _ (List.mem_of_getElem? (i := 12) (show wL31[12]? = some (1382, .code yX11_seat cX11_seat 4 (some .int)) from rfl)))
theorem w757 : .code yX11_renew cX11_renew 3 (some .int) ∈ zTg := zin_of (wK31 _ (List.mem_of_getElem? (i := 13) (show wL31[13]? = some (1389, .code yX11_renew cX11_renew 3 (some .int)) from rfl)))
theorem w758 : .code yX11_chance cX11_chance 4 (some .int) ∈ zTg := zin_of (wK31 _ (List.mem_of_getElem? (i := 14) (show wL31[14]? = some (1397, .code yX11_chance cX11_chance 4 (some .int)) from rfl)))
theorem w759 : .code yX11_carries cX11_carries 4 (some .int) ∈ zTg := zin_of (wK31 _ (List.mem_of_getElem? (i := 15) (show wL31[15]? = some (1406, .code yX11_carries cX11_carries 4 (some .int)) from rfl)))
theorem w760 : .code yX11_soonest cX11_soonest 4 (some .int) ∈ zTg := zin_of (wK31 _ (List.mem_of_getElem? (i := 16) (show wL31[16]? = some (1421, .code yX11_soonest cX11_soonest 4 (some .int)) from rfl)))
theorem w761 : .code yX11_when cX11_when 6 (some .int) ∈ zTg := zin_of (wK31 _ (List.mem_of_getElem? (i := 17) (show wL31[17]? = some (1428, .code yX11_when cX11_when 6 (some .int)) from rfl)))
theorem w762 : .code yX11_worst cX11_worst 5 (some .int) ∈ zTg := zin_of (wK31 _ (List.mem_of_getElem? (i := 18) (show wL31[18]? = some (567, .code yX11_worst cX11_worst 5 (some .int)) from rfl)))
theorem w763 : .code yX11_best cX11_best 2 (some .int) ∈ zTg := zin_of (wK31 _ (List.mem_of_getElem? (i := 19) (show wL31[19]? = some (1435, .code yX11_best cX11_best 2 (some .int)) from rfl)))
theorem w764 : .code yX11_shower cX11_shower 8 (some .int) ∈ zTg := zin_of (wK31 _ (List.mem_of_getElem? (i := 20) (show wL31[20]? = some (1474, .code yX11_shower cX11_shower 8 (some .int)) from rfl)))
theorem w765 : .code yX11_haste cX11_haste 4 (some .int) ∈ zTg := zin_of (wK31 _ (List.mem_of_getElem? (i := 21) (show wL31[21]? = some (642, .code yX11_haste cX11_haste 4 (some .int)) from rfl)))
theorem w766 : .code yX11_cuffs cX11_cuffs 3 (some .int) ∈ zTg := zin_of (wK31 _ (List.mem_of_getElem? (i := 22) (show wL31[22]? = some (1485, .code yX11_cuffs cX11_cuffs 3 (some .int)) from rfl)))
theorem w767 : .code yX11_likely cX11_likely 4 (some .int) ∈ zTg := zin_of (wK31 _ (List.mem_of_getElem? (i := 23) (show wL31[23]? = some (1521, .code yX11_likely cX11_likely 4 (some .int)) from rfl)))
def wL32 : List (Nat × Cond) := [(1528, .code yX11_ago cX11_ago 4 (some .int)), (1535, .code yX11_ask cX11_ask 8 (some .int)), (1489, .code yX11_readCuffs cX11_readCuffs 2 none), (652, .code yX11_windows cX11_windows 6 (some .int)), (1544, .code yX11_posts cX11_posts 2 (some .int)), (660, .code yX11_wins cX11_wins 2 (some .boolean)), (1567, .code yX11_swings cX11_swings 2 (some .int)), (1578, .code yX11_power cX11_power 4 (some .int)), (678, .code yX11_minimal cX11_minimal 3 (some .int)), (686, .code yX11_leader cX11_leader 4 (some .int)), (1585, .code yX11_minds cX11_minds 8 (some .int)), (1594, .code yX11_bargain cX11_bargain 13 (some .int)), (1613, .code yX11_like cX11_like 3 (some .int)), (700, .code yX11_foes cX11_foes 6 (some .int)), (1620, .code yX11_dry cX11_dry 2 (some .int)), (1627, .code yX11_drought cX11_drought 5 (some .int)), (713, .code yX11_quorate cX11_quorate 1 (some .boolean)), (717, .code yX11_enough cX11_enough 2 (some .int)), (1634, .code yX11_rests cX11_rests 5 (some .int)), (1638, .code yX11_gainOfMoving cX11_gainOfMoving 5 (some .int)), (744, .code yX11_tabled cX11_tabled 4 (some .int)), (749, .code yX11_soaked cX11_soaked 4 (some .int)), (754, .code yX11_twins cX11_twins 4 (some .int)), (758, .code yX11_richest cX11_richest 5 (some .int))]
set_option maxRecDepth 100000 in
theorem wK32 : ∀ q ∈ wL32, lw_tbl[q.1]? = some q.2 ∧ goodWord q.2 = true := by decide +kernel
theorem w768 : .code yX11_ago cX11_ago 4 (some .int) ∈ zTg := zin_of (wK32 _ (List.mem_of_getElem? (i := 0) (show wL32[0]? = some (1528, .code yX11_ago cX11_ago 4 (some .int)) from rfl)))
theorem w769 : .code yX11_ask cX11_ask 8 (some .int) ∈ zTg := zin_of (wK32 _ (List.mem_of_getElem? (i := 1) (show wL32[1]? = some (1535, .code yX11_ask cX11_ask 8 (some .int)) from rfl)))
theorem w770 : .code yX11_readCuffs cX11_readCuffs 2 none ∈ zTg := zin_of (wK32 _ (List.mem_of_getElem? (i := 2) (show wL32[2]? = some (1489, .code yX11_readCuffs cX11_readCuffs 2 none) from rfl)))
theorem w771 : .code yX11_windows cX11_windows 6 (some .int) ∈ zTg := zin_of (wK32 _ (List.mem_of_getElem? (i := 3) (show wL32[3]? = some (652, .code yX11_windows cX11_windows 6 (some .int)) from rfl)))
theorem w772 : .code yX11_posts cX11_posts 2 (some .int) ∈ zTg := zin_of (wK32 _ (List.mem_of_getElem? (i := 4) (show wL32[4]? = some (1544, .code yX11_posts cX11_posts 2 (some .int)) from rfl)))
theorem w773 : .code yX11_wins cX11_wins 2 (some .boolean) ∈ zTg := zin_of (wK32 _ (List.mem_of_getElem? (i := 5) (show wL32[5]? = some (660, .code yX11_wins cX11_wins 2 (some .boolean)) from rfl)))
theorem w774 : .code yX11_swings cX11_swings 2 (some .int) ∈ zTg := zin_of (wK32 _ (List.mem_of_getElem? (i := 6) (show wL32[6]? = some (1567, .code yX11_swings cX11_swings 2 (some .int)) from rfl)))
theorem w775 : .code yX11_power cX11_power 4 (some .int) ∈ zTg := zin_of (wK32 _ (List.mem_of_getElem? (i := 7) (show wL32[7]? = some (1578, .code yX11_power cX11_power 4 (some .int)) from rfl)))
theorem w776 : .code yX11_minimal cX11_minimal 3 (some .int) ∈ zTg := zin_of (wK32 _ (List.mem_of_getElem? (i := 8) (show wL32[8]? = some (678, .code yX11_minimal cX11_minimal 3 (some .int)) from rfl)))
theorem w777 : .code yX11_leader cX11_leader 4 (some .int) ∈ zTg := zin_of (wK32 _ (List.mem_of_getElem? (i := 9) (show wL32[9]? = some (686, .code yX11_leader cX11_leader 4 (some .int)) from rfl)))
theorem w778 : .code yX11_minds cX11_minds 8 (some .int) ∈ zTg := zin_of (wK32 _ (List.mem_of_getElem? (i := 10) (show wL32[10]? = some (1585, .code yX11_minds cX11_minds 8 (some .int)) from rfl)))
theorem w779 : .code yX11_bargain cX11_bargain 13 (some .int) ∈ zTg := zin_of (wK32 _ (List.mem_of_getElem? (i := 11) (show wL32[11]? = some (1594, .code yX11_bargain cX11_bargain 13 (some .int)) from rfl)))
theorem w780 : .code yX11_like cX11_like 3 (some .int) ∈ zTg := zin_of (wK32 _ (List.mem_of_getElem? (i := 12) (show wL32[12]? = some (1613, .code yX11_like cX11_like 3 (some .int)) from rfl)))
theorem w781 : .code yX11_foes cX11_foes 6 (some .int) ∈ zTg := zin_of (wK32 _ (List.mem_of_getElem? (i := 13) (show wL32[13]? = some (700, .code yX11_foes cX11_foes 6 (some .int)) from rfl)))
theorem w782 : .code yX11_dry cX11_dry 2 (some .int) ∈ zTg := zin_of (wK32 _ (List.mem_of_getElem? (i := 14) (show wL32[14]? = some (1620, .code yX11_dry cX11_dry 2 (some .int)) from rfl)))
theorem w783 : .code yX11_drought cX11_drought 5 (some .int) ∈ zTg := zin_of (wK32 _ (List.mem_of_getElem? (i := 15) (show wL32[15]? = some (1627, .code yX11_drought cX11_drought 5 (some .int)) from rfl)))
theorem w784 : .code yX11_quorate cX11_quorate 1 (some .boolean) ∈ zTg := zin_of (wK32 _ (List.mem_of_getElem? (i := 16) (show wL32[16]? = some (713, .code yX11_quorate cX11_quorate 1 (some .boolean)) from rfl)))
theorem w785 : .code yX11_enough cX11_enough 2 (some .int) ∈ zTg := zin_of (wK32 _ (List.mem_of_getElem? (i := 17) (show wL32[17]? = some (717, .code yX11_enough cX11_enough 2 (some .int)) from rfl)))
theorem w786 : .code yX11_rests cX11_rests 5 (some .int) ∈ zTg := zin_of (wK32 _ (List.mem_of_getElem? (i := 18) (show wL32[18]? = some (1634, .code yX11_rests cX11_rests 5 (some .int)) from rfl)))
theorem w787 : .code yX11_gainOfMoving cX11_gainOfMoving 5 (some .int) ∈ zTg := zin_of (wK32 _ (List.mem_of_getElem? (i := 19) (show wL32[19]? = some (1638, .code yX11_gainOfMoving cX11_gainOfMoving 5 (some .int)) from rfl)))
theorem w788 : .code yX11_tabled cX11_tabled 4 (some .int) ∈ zTg := zin_of (wK32 _ (List.mem_of_getElem? (i := 20) (show wL32[20]? = some (744, .code yX11_tabled cX11_tabled 4 (some .int)) from rfl)))
theorem w789 : .code yX11_soaked cX11_soaked 4 (some .int) ∈ zTg := zin_of (wK32 _ (List.mem_of_getElem? (i := 21) (show wL32[21]? = some (749, .code yX11_soaked cX11_soaked 4 (some .int)) from rfl)))
theorem w790 : .code yX11_twins cX11_twins 4 (some .int) ∈ zTg := zin_of (wK32 _ (List.mem_of_getElem? (i := 22) (show wL32[22]? = some (754, .code yX11_twins cX11_twins 4 (some .int)) from rfl)))
theorem w791 : .code yX11_richest cX11_richest 5 (some .int) ∈ zTg := zin_of (wK32 _ (List.mem_of_getElem? (i := 23) (show wL32[23]? = some (758, .code yX11_richest cX11_richest 5 (some .int)) from rfl)))
def wL33 : List (Nat × Cond) := [(1646, .code yX11_trial cX11_trial 4 (some .int)), (1657, .code yX11_span cX11_span 7 (some .int)), (1650, .code yX11_tryHours cX11_tryHours 5 (some .int)), (1664, .code yX11_led cX11_led 6 (some .int)), (1675, .code yX11_log cX11_log 3 (some .int)), (762, .code yX11_seed cX11_seed 3 (some .int)), (766, .code yX11_undo cX11_undo 1 (some .boolean)), (789, .code yX11_image cX11_image 1 none), (793, .code yX11_back cX11_back 1 (some .boolean)), (1287, .code yX11_rememberNow cX11_rememberNow 1 none), (797, .code yX11_forgetActs cX11_forgetActs 1 none), (801, .code yX11_count cX11_count 2 (some .int)), (1173, .code yX11_needMember cX11_needMember 2 none), (1571, .code yX11_needVoter cX11_needVoter 2 none), (1221, .code yX11_needMotion cX11_needMotion 2 none), (1317, .code yX11_needWaiting cX11_needWaiting 2 none), (1234, .code yX11_needSky cX11_needSky 1 none), (1245, .code yX11_needPlace cX11_needPlace 1 none), (1256, .code yX11_needHour cX11_needHour 1 none), (1282, .code yX11_needNumber cX11_needNumber 3 none), (1597, .code yX11_needTwo cX11_needTwo 2 none), (578, .code yX11_bitOf cX11_bitOf 2 (some .int)), (920, .code yX11_withBit cX11_withBit 3 (some .int))]
set_option maxRecDepth 100000 in
theorem wK33 : ∀ q ∈ wL33, lw_tbl[q.1]? = some q.2 ∧ goodWord q.2 = true := by decide +kernel
theorem w792 : .code yX11_trial cX11_trial 4 (some .int) ∈ zTg := zin_of (wK33 _ (List.mem_of_getElem? (i := 0) (show wL33[0]? = some (1646, .code yX11_trial cX11_trial 4 (some .int)) from rfl)))
theorem w793 : .code yX11_span cX11_span 7 (some .int) ∈ zTg := zin_of (wK33 _ (List.mem_of_getElem? (i := 1) (show wL33[1]? = some (1657, .code yX11_span cX11_span 7 (some .int)) from rfl)))
theorem w794 : .code yX11_tryHours cX11_tryHours 5 (some .int) ∈ zTg := zin_of (wK33 _ (List.mem_of_getElem? (i := 2) (show wL33[2]? = some (1650, .code yX11_tryHours cX11_tryHours 5 (some .int)) from rfl)))
theorem w795 : .code yX11_led cX11_led 6 (some .int) ∈ zTg := zin_of (wK33 _ (List.mem_of_getElem? (i := 3) (show wL33[3]? = some (1664, .code yX11_led cX11_led 6 (some .int)) from rfl)))
theorem w796 : .code yX11_log cX11_log 3 (some .int) ∈ zTg := zin_of (wK33 _ (List.mem_of_getElem? (i := 4) (show wL33[4]? = some (1675, .code yX11_log cX11_log 3 (some .int)) from rfl)))
theorem w797 : .code yX11_seed cX11_seed 3 (some .int) ∈ zTg := zin_of (wK33 _ (List.mem_of_getElem? (i := 5) (show wL33[5]? = some (762, .code yX11_seed cX11_seed 3 (some .int)) from rfl)))
theorem w798 : .code yX11_undo cX11_undo 1 (some .boolean) ∈ zTg := zin_of (wK33 _ (List.mem_of_getElem? (i := 6) (show wL33[6]? = some (766, .code yX11_undo cX11_undo 1 (some .boolean)) from rfl)))
theorem w799 : .code yX11_image cX11_image 1 none ∈ zTg := zin_of (wK33 _ (List.mem_of_getElem? (i := 7) (show wL33[7]? = some (789, .code yX11_image cX11_image 1 none) from rfl)))
theorem w800 : .code yX11_back cX11_back 1 (some .boolean) ∈ zTg := zin_of (wK33 _ (List.mem_of_getElem? (i := 8) (show wL33[8]? = some (793, .code yX11_back cX11_back 1 (some .boolean)) from rfl)))
theorem w801 : .code yX11_rememberNow cX11_rememberNow 1 none ∈ zTg := zin_of (wK33 _ (List.mem_of_getElem? (i := 9) (show wL33[9]? = some (1287, .code yX11_rememberNow cX11_rememberNow 1 none) from rfl)))
theorem w802 : .code yX11_forgetActs cX11_forgetActs 1 none ∈ zTg := zin_of (wK33 _ (List.mem_of_getElem? (i := 10) (show wL33[10]? = some (797, .code yX11_forgetActs cX11_forgetActs 1 none) from rfl)))
theorem w803 : .code yX11_count cX11_count 2 (some .int) ∈ zTg := zin_of (wK33 _ (List.mem_of_getElem? (i := 11) (show wL33[11]? = some (801, .code yX11_count cX11_count 2 (some .int)) from rfl)))
theorem w804 : .code yX11_needMember cX11_needMember 2 none ∈ zTg := zin_of (wK33 _ (List.mem_of_getElem? (i := 12) (show wL33[12]? = some (1173, .code yX11_needMember cX11_needMember 2 none) from rfl)))
theorem w805 : .code yX11_needVoter cX11_needVoter 2 none ∈ zTg := zin_of (wK33 _ (List.mem_of_getElem? (i := 13) (show wL33[13]? = some (1571, .code yX11_needVoter cX11_needVoter 2 none) from rfl)))
theorem w806 : .code yX11_needMotion cX11_needMotion 2 none ∈ zTg := zin_of (wK33 _ (List.mem_of_getElem? (i := 14) (show wL33[14]? = some (1221, .code yX11_needMotion cX11_needMotion 2 none) from rfl)))
theorem w807 : .code yX11_needWaiting cX11_needWaiting 2 none ∈ zTg := zin_of (wK33 _ (List.mem_of_getElem? (i := 15) (show wL33[15]? = some (1317, .code yX11_needWaiting cX11_needWaiting 2 none) from rfl)))
theorem w808 : .code yX11_needSky cX11_needSky 1 none ∈ zTg := zin_of (wK33 _ (List.mem_of_getElem? (i := 16) (show wL33[16]? = some (1234, .code yX11_needSky cX11_needSky 1 none) from rfl)))
theorem w809 : .code yX11_needPlace cX11_needPlace 1 none ∈ zTg := zin_of (wK33 _ (List.mem_of_getElem? (i := 17) (show wL33[17]? = some (1245, .code yX11_needPlace cX11_needPlace 1 none) from rfl)))
theorem w810 : .code yX11_needHour cX11_needHour 1 none ∈ zTg := zin_of (wK33 _ (List.mem_of_getElem? (i := 18) (show wL33[18]? = some (1256, .code yX11_needHour cX11_needHour 1 none) from rfl)))
theorem w811 : .code yX11_needNumber cX11_needNumber 3 none ∈ zTg := zin_of (wK33 _ (List.mem_of_getElem? (i := 19) (show wL33[19]? = some (1282, .code yX11_needNumber cX11_needNumber 3 none) from rfl)))
theorem w812 : .code yX11_needTwo cX11_needTwo 2 none ∈ zTg := zin_of (wK33 _ (List.mem_of_getElem? (i := 20) (show wL33[20]? = some (1597, .code yX11_needTwo cX11_needTwo 2 none) from rfl)))
theorem w813 : .code yX11_bitOf cX11_bitOf 2 (some .int) ∈ zTg := zin_of (wK33 _ (List.mem_of_getElem? (i := 21) (show wL33[21]? = some (578, .code yX11_bitOf cX11_bitOf 2 (some .int)) from rfl)))
theorem w814 : .code yX11_withBit cX11_withBit 3 (some .int) ∈ zTg := zin_of (wK33 _ (List.mem_of_getElem? (i := 22) (show wL33[22]? = some (920, .code yX11_withBit cX11_withBit 3 (some .int)) from rfl)))
theorem gC0 : ∀ q ∈ ([(KX0_init, 0), (KX0_readText, 3), (KX0_readLine, 0), (KX0_readSetting, 0), (KX0_readMember, 0), (KX0_readMotion, 0), (KX0_takeSet, 0), (KX0_takeSky, 0), (KX0_readSky, 0), (KX0_readPlace, 0), (KX0_readPaper, 0), (KX1_init, 0), (KX1_takeAll, 1), (KX1_addMember, 4), (KX1_seatsOf, 1), (KX1_shareOf, 1)] : List (zK × Nat)), plainName q.1.1.cls = true ∧ (q.1.1.cls ≠ "java/lang/invoke/MethodHandle" ∧ q.1.1.cls ≠ "java/lang/invoke/VarHandle" ∧ (parseMethodDescriptor q.1.1.desc).map (fun d => d.parameters.length) = some q.2) ∧ q.1.2.2.1 ≤ 40 := by decide +kernel
theorem gX0_init : zGood KX0_init 0 := by
  obtain ⟨h1, h2, h3⟩ := gC0 (KX0_init, 0) (List.mem_of_getElem? (i := 0) rfl)
  exact ⟨h1, w627, h2, h3, w421⟩
theorem gX0_readText : zGood KX0_readText 3 := by
  obtain ⟨h1, h2, h3⟩ := gC0 (KX0_readText, 3) (List.mem_of_getElem? (i := 1) rfl)
  exact ⟨h1, w628, h2, h3, w421⟩
theorem gX0_readLine : zGood KX0_readLine 0 := by
  obtain ⟨h1, h2, h3⟩ := gC0 (KX0_readLine, 0) (List.mem_of_getElem? (i := 2) rfl)
  exact ⟨h1, w629, h2, h3, w421⟩
theorem gX0_readSetting : zGood KX0_readSetting 0 := by
  obtain ⟨h1, h2, h3⟩ := gC0 (KX0_readSetting, 0) (List.mem_of_getElem? (i := 3) rfl)
  exact ⟨h1, w630, h2, h3, w421⟩
theorem gX0_readMember : zGood KX0_readMember 0 := by
  obtain ⟨h1, h2, h3⟩ := gC0 (KX0_readMember, 0) (List.mem_of_getElem? (i := 4) rfl)
  exact ⟨h1, w631, h2, h3, w421⟩
theorem gX0_readMotion : zGood KX0_readMotion 0 := by
  obtain ⟨h1, h2, h3⟩ := gC0 (KX0_readMotion, 0) (List.mem_of_getElem? (i := 5) rfl)
  exact ⟨h1, w632, h2, h3, w421⟩
theorem gX0_takeSet : zGood KX0_takeSet 0 := by
  obtain ⟨h1, h2, h3⟩ := gC0 (KX0_takeSet, 0) (List.mem_of_getElem? (i := 6) rfl)
  exact ⟨h1, w633, h2, h3, w421⟩
theorem gX0_takeSky : zGood KX0_takeSky 0 := by
  obtain ⟨h1, h2, h3⟩ := gC0 (KX0_takeSky, 0) (List.mem_of_getElem? (i := 7) rfl)
  exact ⟨h1, w634, h2, h3, w421⟩
theorem gX0_readSky : zGood KX0_readSky 0 := by
  obtain ⟨h1, h2, h3⟩ := gC0 (KX0_readSky, 0) (List.mem_of_getElem? (i := 8) rfl)
  exact ⟨h1, w635, h2, h3, w421⟩
theorem gX0_readPlace : zGood KX0_readPlace 0 := by
  obtain ⟨h1, h2, h3⟩ := gC0 (KX0_readPlace, 0) (List.mem_of_getElem? (i := 9) rfl)
  exact ⟨h1, w636, h2, h3, w421⟩
theorem gX0_readPaper : zGood KX0_readPaper 0 := by
  obtain ⟨h1, h2, h3⟩ := gC0 (KX0_readPaper, 0) (List.mem_of_getElem? (i := 10) rfl)
  exact ⟨h1, w637, h2, h3, w421⟩
theorem gX1_init : zGood KX1_init 0 := by
  obtain ⟨h1, h2, h3⟩ := gC0 (KX1_init, 0) (List.mem_of_getElem? (i := 11) rfl)
  exact ⟨h1, w638, h2, h3, w9⟩
theorem gX1_takeAll : zGood KX1_takeAll 1 := by
  obtain ⟨h1, h2, h3⟩ := gC0 (KX1_takeAll, 1) (List.mem_of_getElem? (i := 12) rfl)
  exact ⟨h1, w639, h2, h3, w9⟩
theorem gX1_addMember : zGood KX1_addMember 4 := by
  obtain ⟨h1, h2, h3⟩ := gC0 (KX1_addMember, 4) (List.mem_of_getElem? (i := 13) rfl)
  exact ⟨h1, w640, h2, h3, w9⟩
theorem gX1_seatsOf : zGood KX1_seatsOf 1 := by
  obtain ⟨h1, h2, h3⟩ := gC0 (KX1_seatsOf, 1) (List.mem_of_getElem? (i := 14) rfl)
  exact ⟨h1, w641, h2, h3, w9⟩
theorem gX1_shareOf : zGood KX1_shareOf 1 := by
  obtain ⟨h1, h2, h3⟩ := gC0 (KX1_shareOf, 1) (List.mem_of_getElem? (i := 15) rfl)
  exact ⟨h1, w642, h2, h3, w9⟩
theorem gC1 : ∀ q ∈ ([(KX1_seenBy, 1), (KX1_fillFacts, 4), (KX1_feels, 5), (KX1_lapsesIn, 3), (KX1_byVotes, 4), (KX1_outcome, 5), (KX1_outcomeIn, 3), (KX1_carriedOf, 2), (KX1_carriedBacked, 2), (KX1_carriedThen, 2), (KX1_wettingSkies, 1), (KX1_runHour, 0), (KX2_init, 0), (KX2_readRows, 3), (KX2_countWays, 1), (KX2_waysTo, 2)] : List (zK × Nat)), plainName q.1.1.cls = true ∧ (q.1.1.cls ≠ "java/lang/invoke/MethodHandle" ∧ q.1.1.cls ≠ "java/lang/invoke/VarHandle" ∧ (parseMethodDescriptor q.1.1.desc).map (fun d => d.parameters.length) = some q.2) ∧ q.1.2.2.1 ≤ 40 := by decide +kernel
theorem gX1_seenBy : zGood KX1_seenBy 1 := by
  obtain ⟨h1, h2, h3⟩ := gC1 (KX1_seenBy, 1) (List.mem_of_getElem? (i := 0) rfl)
  exact ⟨h1, w643, h2, h3, w9⟩
theorem gX1_fillFacts : zGood KX1_fillFacts 4 := by
  obtain ⟨h1, h2, h3⟩ := gC1 (KX1_fillFacts, 4) (List.mem_of_getElem? (i := 1) rfl)
  exact ⟨h1, w644, h2, h3, w9⟩
theorem gX1_feels : zGood KX1_feels 5 := by
  obtain ⟨h1, h2, h3⟩ := gC1 (KX1_feels, 5) (List.mem_of_getElem? (i := 2) rfl)
  exact ⟨h1, w645, h2, h3, w9⟩
theorem gX1_lapsesIn : zGood KX1_lapsesIn 3 := by
  obtain ⟨h1, h2, h3⟩ := gC1 (KX1_lapsesIn, 3) (List.mem_of_getElem? (i := 3) rfl)
  exact ⟨h1, w646, h2, h3, w9⟩
theorem gX1_byVotes : zGood KX1_byVotes 4 := by
  obtain ⟨h1, h2, h3⟩ := gC1 (KX1_byVotes, 4) (List.mem_of_getElem? (i := 4) rfl)
  exact ⟨h1, w647, h2, h3, w9⟩
theorem gX1_outcome : zGood KX1_outcome 5 := by
  obtain ⟨h1, h2, h3⟩ := gC1 (KX1_outcome, 5) (List.mem_of_getElem? (i := 5) rfl)
  exact ⟨h1, w648, h2, h3, w9⟩
theorem gX1_outcomeIn : zGood KX1_outcomeIn 3 := by
  obtain ⟨h1, h2, h3⟩ := gC1 (KX1_outcomeIn, 3) (List.mem_of_getElem? (i := 6) rfl)
  exact ⟨h1, w649, h2, h3, w9⟩
theorem gX1_carriedOf : zGood KX1_carriedOf 2 := by
  obtain ⟨h1, h2, h3⟩ := gC1 (KX1_carriedOf, 2) (List.mem_of_getElem? (i := 7) rfl)
  exact ⟨h1, w650, h2, h3, w9⟩
theorem gX1_carriedBacked : zGood KX1_carriedBacked 2 := by
  obtain ⟨h1, h2, h3⟩ := gC1 (KX1_carriedBacked, 2) (List.mem_of_getElem? (i := 8) rfl)
  exact ⟨h1, w651, h2, h3, w9⟩
theorem gX1_carriedThen : zGood KX1_carriedThen 2 := by
  obtain ⟨h1, h2, h3⟩ := gC1 (KX1_carriedThen, 2) (List.mem_of_getElem? (i := 9) rfl)
  exact ⟨h1, w652, h2, h3, w9⟩
theorem gX1_wettingSkies : zGood KX1_wettingSkies 1 := by
  obtain ⟨h1, h2, h3⟩ := gC1 (KX1_wettingSkies, 1) (List.mem_of_getElem? (i := 10) rfl)
  exact ⟨h1, w653, h2, h3, w9⟩
theorem gX1_runHour : zGood KX1_runHour 0 := by
  obtain ⟨h1, h2, h3⟩ := gC1 (KX1_runHour, 0) (List.mem_of_getElem? (i := 11) rfl)
  exact ⟨h1, w654, h2, h3, w9⟩
theorem gX2_init : zGood KX2_init 0 := by
  obtain ⟨h1, h2, h3⟩ := gC1 (KX2_init, 0) (List.mem_of_getElem? (i := 12) rfl)
  exact ⟨h1, w655, h2, h3, w433⟩
theorem gX2_readRows : zGood KX2_readRows 3 := by
  obtain ⟨h1, h2, h3⟩ := gC1 (KX2_readRows, 3) (List.mem_of_getElem? (i := 13) rfl)
  exact ⟨h1, w656, h2, h3, w433⟩
theorem gX2_countWays : zGood KX2_countWays 1 := by
  obtain ⟨h1, h2, h3⟩ := gC1 (KX2_countWays, 1) (List.mem_of_getElem? (i := 14) rfl)
  exact ⟨h1, w657, h2, h3, w433⟩
theorem gX2_waysTo : zGood KX2_waysTo 2 := by
  obtain ⟨h1, h2, h3⟩ := gC1 (KX2_waysTo, 2) (List.mem_of_getElem? (i := 15) rfl)
  exact ⟨h1, w658, h2, h3, w433⟩
theorem gC2 : ∀ q ∈ ([(KX2_skiesNow, 0), (KX3_init, 1), (KX3_addStep, 1), (KX3_addLine, 2), (KX3_hasKind, 1), (KX3_sumOf, 2), (KX3_holds, 3), (KX3_join, 3), (KX4_init, 0), (KX4_readText, 2), (KX4_takeKind, 0), (KX4_readCondition, 1), (KX4_readAtom, 1), (KX4_takeFact, 2), (KX4_readComparison, 0), (KX4_readPart, 0)] : List (zK × Nat)), plainName q.1.1.cls = true ∧ (q.1.1.cls ≠ "java/lang/invoke/MethodHandle" ∧ q.1.1.cls ≠ "java/lang/invoke/VarHandle" ∧ (parseMethodDescriptor q.1.1.desc).map (fun d => d.parameters.length) = some q.2) ∧ q.1.2.2.1 ≤ 40 := by decide +kernel
theorem gX2_skiesNow : zGood KX2_skiesNow 0 := by
  obtain ⟨h1, h2, h3⟩ := gC2 (KX2_skiesNow, 0) (List.mem_of_getElem? (i := 0) rfl)
  exact ⟨h1, w659, h2, h3, w433⟩
theorem gX3_init : zGood KX3_init 1 := by
  obtain ⟨h1, h2, h3⟩ := gC2 (KX3_init, 1) (List.mem_of_getElem? (i := 1) rfl)
  exact ⟨h1, w660, h2, h3, w237⟩
theorem gX3_addStep : zGood KX3_addStep 1 := by
  obtain ⟨h1, h2, h3⟩ := gC2 (KX3_addStep, 1) (List.mem_of_getElem? (i := 2) rfl)
  exact ⟨h1, w661, h2, h3, w237⟩
theorem gX3_addLine : zGood KX3_addLine 2 := by
  obtain ⟨h1, h2, h3⟩ := gC2 (KX3_addLine, 2) (List.mem_of_getElem? (i := 3) rfl)
  exact ⟨h1, w662, h2, h3, w237⟩
theorem gX3_hasKind : zGood KX3_hasKind 1 := by
  obtain ⟨h1, h2, h3⟩ := gC2 (KX3_hasKind, 1) (List.mem_of_getElem? (i := 4) rfl)
  exact ⟨h1, w663, h2, h3, w237⟩
theorem gX3_sumOf : zGood KX3_sumOf 2 := by
  obtain ⟨h1, h2, h3⟩ := gC2 (KX3_sumOf, 2) (List.mem_of_getElem? (i := 5) rfl)
  exact ⟨h1, w664, h2, h3, w237⟩
theorem gX3_holds : zGood KX3_holds 3 := by
  obtain ⟨h1, h2, h3⟩ := gC2 (KX3_holds, 3) (List.mem_of_getElem? (i := 6) rfl)
  exact ⟨h1, w665, h2, h3, w237⟩
theorem gX3_join : zGood KX3_join 3 := by
  obtain ⟨h1, h2, h3⟩ := gC2 (KX3_join, 3) (List.mem_of_getElem? (i := 7) rfl)
  exact ⟨h1, w666, h2, h3, w237⟩
theorem gX4_init : zGood KX4_init 0 := by
  obtain ⟨h1, h2, h3⟩ := gC2 (KX4_init, 0) (List.mem_of_getElem? (i := 8) rfl)
  exact ⟨h1, w667, h2, h3, w427⟩
theorem gX4_readText : zGood KX4_readText 2 := by
  obtain ⟨h1, h2, h3⟩ := gC2 (KX4_readText, 2) (List.mem_of_getElem? (i := 9) rfl)
  exact ⟨h1, w668, h2, h3, w427⟩
theorem gX4_takeKind : zGood KX4_takeKind 0 := by
  obtain ⟨h1, h2, h3⟩ := gC2 (KX4_takeKind, 0) (List.mem_of_getElem? (i := 10) rfl)
  exact ⟨h1, w669, h2, h3, w427⟩
theorem gX4_readCondition : zGood KX4_readCondition 1 := by
  obtain ⟨h1, h2, h3⟩ := gC2 (KX4_readCondition, 1) (List.mem_of_getElem? (i := 11) rfl)
  exact ⟨h1, w670, h2, h3, w427⟩
theorem gX4_readAtom : zGood KX4_readAtom 1 := by
  obtain ⟨h1, h2, h3⟩ := gC2 (KX4_readAtom, 1) (List.mem_of_getElem? (i := 12) rfl)
  exact ⟨h1, w671, h2, h3, w427⟩
theorem gX4_takeFact : zGood KX4_takeFact 2 := by
  obtain ⟨h1, h2, h3⟩ := gC2 (KX4_takeFact, 2) (List.mem_of_getElem? (i := 13) rfl)
  exact ⟨h1, w672, h2, h3, w427⟩
theorem gX4_readComparison : zGood KX4_readComparison 0 := by
  obtain ⟨h1, h2, h3⟩ := gC2 (KX4_readComparison, 0) (List.mem_of_getElem? (i := 14) rfl)
  exact ⟨h1, w673, h2, h3, w427⟩
theorem gX4_readPart : zGood KX4_readPart 0 := by
  obtain ⟨h1, h2, h3⟩ := gC2 (KX4_readPart, 0) (List.mem_of_getElem? (i := 15) rfl)
  exact ⟨h1, w674, h2, h3, w427⟩
theorem gC3 : ∀ q ∈ ([(KX5_init, 0), (KX5_takeRows, 1), (KX5_addRow, 5), (KX5_valueOf, 2), (KX6_init, 0), (KX6_takeMotions, 1), (KX6_has, 1), (KX6_add, 4), (KX6_hourOf, 1), (KX6_putOnPaper, 2), (KX6_inState, 1), (KX6_sumOver, 2), (KX6_thoseLiked, 1), (KX6_likedByOneOnly, 2), (KX6_sameMinds, 2), (KX6_hastierThan, 2)] : List (zK × Nat)), plainName q.1.1.cls = true ∧ (q.1.1.cls ≠ "java/lang/invoke/MethodHandle" ∧ q.1.1.cls ≠ "java/lang/invoke/VarHandle" ∧ (parseMethodDescriptor q.1.1.desc).map (fun d => d.parameters.length) = some q.2) ∧ q.1.2.2.1 ≤ 40 := by decide +kernel
theorem gX5_init : zGood KX5_init 0 := by
  obtain ⟨h1, h2, h3⟩ := gC3 (KX5_init, 0) (List.mem_of_getElem? (i := 0) rfl)
  exact ⟨h1, w675, h2, h3, w122⟩
theorem gX5_takeRows : zGood KX5_takeRows 1 := by
  obtain ⟨h1, h2, h3⟩ := gC3 (KX5_takeRows, 1) (List.mem_of_getElem? (i := 1) rfl)
  exact ⟨h1, w676, h2, h3, w122⟩
theorem gX5_addRow : zGood KX5_addRow 5 := by
  obtain ⟨h1, h2, h3⟩ := gC3 (KX5_addRow, 5) (List.mem_of_getElem? (i := 2) rfl)
  exact ⟨h1, w677, h2, h3, w122⟩
theorem gX5_valueOf : zGood KX5_valueOf 2 := by
  obtain ⟨h1, h2, h3⟩ := gC3 (KX5_valueOf, 2) (List.mem_of_getElem? (i := 3) rfl)
  exact ⟨h1, w678, h2, h3, w122⟩
theorem gX6_init : zGood KX6_init 0 := by
  obtain ⟨h1, h2, h3⟩ := gC3 (KX6_init, 0) (List.mem_of_getElem? (i := 4) rfl)
  exact ⟨h1, w679, h2, h3, w116⟩
theorem gX6_takeMotions : zGood KX6_takeMotions 1 := by
  obtain ⟨h1, h2, h3⟩ := gC3 (KX6_takeMotions, 1) (List.mem_of_getElem? (i := 5) rfl)
  exact ⟨h1, w680, h2, h3, w116⟩
theorem gX6_has : zGood KX6_has 1 := by
  obtain ⟨h1, h2, h3⟩ := gC3 (KX6_has, 1) (List.mem_of_getElem? (i := 6) rfl)
  exact ⟨h1, w681, h2, h3, w116⟩
theorem gX6_add : zGood KX6_add 4 := by
  obtain ⟨h1, h2, h3⟩ := gC3 (KX6_add, 4) (List.mem_of_getElem? (i := 7) rfl)
  exact ⟨h1, w682, h2, h3, w116⟩
theorem gX6_hourOf : zGood KX6_hourOf 1 := by
  obtain ⟨h1, h2, h3⟩ := gC3 (KX6_hourOf, 1) (List.mem_of_getElem? (i := 8) rfl)
  exact ⟨h1, w683, h2, h3, w116⟩
theorem gX6_putOnPaper : zGood KX6_putOnPaper 2 := by
  obtain ⟨h1, h2, h3⟩ := gC3 (KX6_putOnPaper, 2) (List.mem_of_getElem? (i := 9) rfl)
  exact ⟨h1, w684, h2, h3, w116⟩
theorem gX6_inState : zGood KX6_inState 1 := by
  obtain ⟨h1, h2, h3⟩ := gC3 (KX6_inState, 1) (List.mem_of_getElem? (i := 10) rfl)
  exact ⟨h1, w685, h2, h3, w116⟩
theorem gX6_sumOver : zGood KX6_sumOver 2 := by
  obtain ⟨h1, h2, h3⟩ := gC3 (KX6_sumOver, 2) (List.mem_of_getElem? (i := 11) rfl)
  exact ⟨h1, w686, h2, h3, w116⟩
theorem gX6_thoseLiked : zGood KX6_thoseLiked 1 := by
  obtain ⟨h1, h2, h3⟩ := gC3 (KX6_thoseLiked, 1) (List.mem_of_getElem? (i := 12) rfl)
  exact ⟨h1, w687, h2, h3, w116⟩
theorem gX6_likedByOneOnly : zGood KX6_likedByOneOnly 2 := by
  obtain ⟨h1, h2, h3⟩ := gC3 (KX6_likedByOneOnly, 2) (List.mem_of_getElem? (i := 13) rfl)
  exact ⟨h1, w688, h2, h3, w116⟩
theorem gX6_sameMinds : zGood KX6_sameMinds 2 := by
  obtain ⟨h1, h2, h3⟩ := gC3 (KX6_sameMinds, 2) (List.mem_of_getElem? (i := 14) rfl)
  exact ⟨h1, w689, h2, h3, w116⟩
theorem gX6_hastierThan : zGood KX6_hastierThan 2 := by
  obtain ⟨h1, h2, h3⟩ := gC3 (KX6_hastierThan, 2) (List.mem_of_getElem? (i := 15) rfl)
  exact ⟨h1, w690, h2, h3, w116⟩
theorem gC4 : ∀ q ∈ ([(KX7_init, 0), (KX7_planDay, 1), (KX7_mostFrom, 2), (KX7_isFree, 2), (KX7_withMotion, 3), (KX7_motionAt, 1), (KX7_firstBest, 2), (KX7_planPosts, 1), (KX7_withPlace, 4), (KX7_placeOf, 2), (KX7_firstPlace, 3), (KX8_init, 0), (KX8_weigh, 1), (KX8_seatsIn, 1), (KX8_isWinning, 1), (KX8_countSwings, 0)] : List (zK × Nat)), plainName q.1.1.cls = true ∧ (q.1.1.cls ≠ "java/lang/invoke/MethodHandle" ∧ q.1.1.cls ≠ "java/lang/invoke/VarHandle" ∧ (parseMethodDescriptor q.1.1.desc).map (fun d => d.parameters.length) = some q.2) ∧ q.1.2.2.1 ≤ 40 := by decide +kernel
theorem gX7_init : zGood KX7_init 0 := by
  obtain ⟨h1, h2, h3⟩ := gC4 (KX7_init, 0) (List.mem_of_getElem? (i := 0) rfl)
  exact ⟨h1, w691, h2, h3, w445⟩
theorem gX7_planDay : zGood KX7_planDay 1 := by
  obtain ⟨h1, h2, h3⟩ := gC4 (KX7_planDay, 1) (List.mem_of_getElem? (i := 1) rfl)
  exact ⟨h1, w692, h2, h3, w445⟩
theorem gX7_mostFrom : zGood KX7_mostFrom 2 := by
  obtain ⟨h1, h2, h3⟩ := gC4 (KX7_mostFrom, 2) (List.mem_of_getElem? (i := 2) rfl)
  exact ⟨h1, w693, h2, h3, w445⟩
theorem gX7_isFree : zGood KX7_isFree 2 := by
  obtain ⟨h1, h2, h3⟩ := gC4 (KX7_isFree, 2) (List.mem_of_getElem? (i := 3) rfl)
  exact ⟨h1, w694, h2, h3, w445⟩
theorem gX7_withMotion : zGood KX7_withMotion 3 := by
  obtain ⟨h1, h2, h3⟩ := gC4 (KX7_withMotion, 3) (List.mem_of_getElem? (i := 4) rfl)
  exact ⟨h1, w695, h2, h3, w445⟩
theorem gX7_motionAt : zGood KX7_motionAt 1 := by
  obtain ⟨h1, h2, h3⟩ := gC4 (KX7_motionAt, 1) (List.mem_of_getElem? (i := 5) rfl)
  exact ⟨h1, w696, h2, h3, w445⟩
theorem gX7_firstBest : zGood KX7_firstBest 2 := by
  obtain ⟨h1, h2, h3⟩ := gC4 (KX7_firstBest, 2) (List.mem_of_getElem? (i := 6) rfl)
  exact ⟨h1, w697, h2, h3, w445⟩
theorem gX7_planPosts : zGood KX7_planPosts 1 := by
  obtain ⟨h1, h2, h3⟩ := gC4 (KX7_planPosts, 1) (List.mem_of_getElem? (i := 7) rfl)
  exact ⟨h1, w698, h2, h3, w445⟩
theorem gX7_withPlace : zGood KX7_withPlace 4 := by
  obtain ⟨h1, h2, h3⟩ := gC4 (KX7_withPlace, 4) (List.mem_of_getElem? (i := 8) rfl)
  exact ⟨h1, w699, h2, h3, w445⟩
theorem gX7_placeOf : zGood KX7_placeOf 2 := by
  obtain ⟨h1, h2, h3⟩ := gC4 (KX7_placeOf, 2) (List.mem_of_getElem? (i := 9) rfl)
  exact ⟨h1, w700, h2, h3, w445⟩
theorem gX7_firstPlace : zGood KX7_firstPlace 3 := by
  obtain ⟨h1, h2, h3⟩ := gC4 (KX7_firstPlace, 3) (List.mem_of_getElem? (i := 10) rfl)
  exact ⟨h1, w701, h2, h3, w445⟩
theorem gX8_init : zGood KX8_init 0 := by
  obtain ⟨h1, h2, h3⟩ := gC4 (KX8_init, 0) (List.mem_of_getElem? (i := 11) rfl)
  exact ⟨h1, w702, h2, h3, w439⟩
theorem gX8_weigh : zGood KX8_weigh 1 := by
  obtain ⟨h1, h2, h3⟩ := gC4 (KX8_weigh, 1) (List.mem_of_getElem? (i := 12) rfl)
  exact ⟨h1, w703, h2, h3, w439⟩
theorem gX8_seatsIn : zGood KX8_seatsIn 1 := by
  obtain ⟨h1, h2, h3⟩ := gC4 (KX8_seatsIn, 1) (List.mem_of_getElem? (i := 13) rfl)
  exact ⟨h1, w704, h2, h3, w439⟩
theorem gX8_isWinning : zGood KX8_isWinning 1 := by
  obtain ⟨h1, h2, h3⟩ := gC4 (KX8_isWinning, 1) (List.mem_of_getElem? (i := 14) rfl)
  exact ⟨h1, w705, h2, h3, w439⟩
theorem gX8_countSwings : zGood KX8_countSwings 0 := by
  obtain ⟨h1, h2, h3⟩ := gC4 (KX8_countSwings, 0) (List.mem_of_getElem? (i := 15) rfl)
  exact ⟨h1, w706, h2, h3, w439⟩
theorem gC5 : ∀ q ∈ ([(KX8_addSwings, 1), (KX8_isMinimal, 1), (KX9_init, 0), (KX9_takeWeather, 1), (KX9_sumBehind, 1), (KX9_passSky, 0), (KX9_passHour, 0), (KX9_hourThen, 1), (KX9_startChances, 0), (KX9_spreadHour, 0), (KX9_give, 1), (KX9_dryBehind, 1), (KX10_init, 0), (KX10_open, 2), (KX10_advance, 0), (KX10_fail, 0)] : List (zK × Nat)), plainName q.1.1.cls = true ∧ (q.1.1.cls ≠ "java/lang/invoke/MethodHandle" ∧ q.1.1.cls ≠ "java/lang/invoke/VarHandle" ∧ (parseMethodDescriptor q.1.1.desc).map (fun d => d.parameters.length) = some q.2) ∧ q.1.2.2.1 ≤ 40 := by decide +kernel
theorem gX8_addSwings : zGood KX8_addSwings 1 := by
  obtain ⟨h1, h2, h3⟩ := gC5 (KX8_addSwings, 1) (List.mem_of_getElem? (i := 0) rfl)
  exact ⟨h1, w707, h2, h3, w439⟩
theorem gX8_isMinimal : zGood KX8_isMinimal 1 := by
  obtain ⟨h1, h2, h3⟩ := gC5 (KX8_isMinimal, 1) (List.mem_of_getElem? (i := 1) rfl)
  exact ⟨h1, w708, h2, h3, w439⟩
theorem gX9_init : zGood KX9_init 0 := by
  obtain ⟨h1, h2, h3⟩ := gC5 (KX9_init, 0) (List.mem_of_getElem? (i := 2) rfl)
  exact ⟨h1, w709, h2, h3, w110⟩
theorem gX9_takeWeather : zGood KX9_takeWeather 1 := by
  obtain ⟨h1, h2, h3⟩ := gC5 (KX9_takeWeather, 1) (List.mem_of_getElem? (i := 3) rfl)
  exact ⟨h1, w710, h2, h3, w110⟩
theorem gX9_sumBehind : zGood KX9_sumBehind 1 := by
  obtain ⟨h1, h2, h3⟩ := gC5 (KX9_sumBehind, 1) (List.mem_of_getElem? (i := 4) rfl)
  exact ⟨h1, w711, h2, h3, w110⟩
theorem gX9_passSky : zGood KX9_passSky 0 := by
  obtain ⟨h1, h2, h3⟩ := gC5 (KX9_passSky, 0) (List.mem_of_getElem? (i := 5) rfl)
  exact ⟨h1, w712, h2, h3, w110⟩
theorem gX9_passHour : zGood KX9_passHour 0 := by
  obtain ⟨h1, h2, h3⟩ := gC5 (KX9_passHour, 0) (List.mem_of_getElem? (i := 6) rfl)
  exact ⟨h1, w713, h2, h3, w110⟩
theorem gX9_hourThen : zGood KX9_hourThen 1 := by
  obtain ⟨h1, h2, h3⟩ := gC5 (KX9_hourThen, 1) (List.mem_of_getElem? (i := 7) rfl)
  exact ⟨h1, w714, h2, h3, w110⟩
theorem gX9_startChances : zGood KX9_startChances 0 := by
  obtain ⟨h1, h2, h3⟩ := gC5 (KX9_startChances, 0) (List.mem_of_getElem? (i := 8) rfl)
  exact ⟨h1, w715, h2, h3, w110⟩
theorem gX9_spreadHour : zGood KX9_spreadHour 0 := by
  obtain ⟨h1, h2, h3⟩ := gC5 (KX9_spreadHour, 0) (List.mem_of_getElem? (i := 9) rfl)
  exact ⟨h1, w716, h2, h3, w110⟩
theorem gX9_give : zGood KX9_give 1 := by
  obtain ⟨h1, h2, h3⟩ := gC5 (KX9_give, 1) (List.mem_of_getElem? (i := 10) rfl)
  exact ⟨h1, w717, h2, h3, w110⟩
theorem gX9_dryBehind : zGood KX9_dryBehind 1 := by
  obtain ⟨h1, h2, h3⟩ := gC5 (KX9_dryBehind, 1) (List.mem_of_getElem? (i := 11) rfl)
  exact ⟨h1, w718, h2, h3, w110⟩
theorem gX10_init : zGood KX10_init 0 := by
  obtain ⟨h1, h2, h3⟩ := gC5 (KX10_init, 0) (List.mem_of_getElem? (i := 12) rfl)
  exact ⟨h1, w719, h2, h3, w3⟩
theorem gX10_open : zGood KX10_open 2 := by
  obtain ⟨h1, h2, h3⟩ := gC5 (KX10_open, 2) (List.mem_of_getElem? (i := 13) rfl)
  exact ⟨h1, w720, h2, h3, w3⟩
theorem gX10_advance : zGood KX10_advance 0 := by
  obtain ⟨h1, h2, h3⟩ := gC5 (KX10_advance, 0) (List.mem_of_getElem? (i := 14) rfl)
  exact ⟨h1, w721, h2, h3, w3⟩
theorem gX10_fail : zGood KX10_fail 0 := by
  obtain ⟨h1, h2, h3⟩ := gC5 (KX10_fail, 0) (List.mem_of_getElem? (i := 15) rfl)
  exact ⟨h1, w722, h2, h3, w3⟩
theorem gC6 : ∀ q ∈ ([(KX10_atEnd, 0), (KX10_atDigits, 0), (KX10_atWord, 1), (KX10_takeWord, 1), (KX10_needWord, 1), (KX10_atSign, 1), (KX10_takeSign, 1), (KX10_needSign, 1), (KX10_takeNumber, 2), (KX10_atFigures, 2), (KX10_figure, 1), (KX11_init, 0), (KX11_feed, 5), (KX11_putNumber, 1), (KX11_end, 1), (KX11_coast, 0)] : List (zK × Nat)), plainName q.1.1.cls = true ∧ (q.1.1.cls ≠ "java/lang/invoke/MethodHandle" ∧ q.1.1.cls ≠ "java/lang/invoke/VarHandle" ∧ (parseMethodDescriptor q.1.1.desc).map (fun d => d.parameters.length) = some q.2) ∧ q.1.2.2.1 ≤ 40 := by decide +kernel
theorem gX10_atEnd : zGood KX10_atEnd 0 := by
  obtain ⟨h1, h2, h3⟩ := gC6 (KX10_atEnd, 0) (List.mem_of_getElem? (i := 0) rfl)
  exact ⟨h1, w723, h2, h3, w3⟩
theorem gX10_atDigits : zGood KX10_atDigits 0 := by
  obtain ⟨h1, h2, h3⟩ := gC6 (KX10_atDigits, 0) (List.mem_of_getElem? (i := 1) rfl)
  exact ⟨h1, w724, h2, h3, w3⟩
theorem gX10_atWord : zGood KX10_atWord 1 := by
  obtain ⟨h1, h2, h3⟩ := gC6 (KX10_atWord, 1) (List.mem_of_getElem? (i := 2) rfl)
  exact ⟨h1, w725, h2, h3, w3⟩
theorem gX10_takeWord : zGood KX10_takeWord 1 := by
  obtain ⟨h1, h2, h3⟩ := gC6 (KX10_takeWord, 1) (List.mem_of_getElem? (i := 3) rfl)
  exact ⟨h1, w726, h2, h3, w3⟩
theorem gX10_needWord : zGood KX10_needWord 1 := by
  obtain ⟨h1, h2, h3⟩ := gC6 (KX10_needWord, 1) (List.mem_of_getElem? (i := 4) rfl)
  exact ⟨h1, w727, h2, h3, w3⟩
theorem gX10_atSign : zGood KX10_atSign 1 := by
  obtain ⟨h1, h2, h3⟩ := gC6 (KX10_atSign, 1) (List.mem_of_getElem? (i := 5) rfl)
  exact ⟨h1, w728, h2, h3, w3⟩
theorem gX10_takeSign : zGood KX10_takeSign 1 := by
  obtain ⟨h1, h2, h3⟩ := gC6 (KX10_takeSign, 1) (List.mem_of_getElem? (i := 6) rfl)
  exact ⟨h1, w729, h2, h3, w3⟩
theorem gX10_needSign : zGood KX10_needSign 1 := by
  obtain ⟨h1, h2, h3⟩ := gC6 (KX10_needSign, 1) (List.mem_of_getElem? (i := 7) rfl)
  exact ⟨h1, w730, h2, h3, w3⟩
theorem gX10_takeNumber : zGood KX10_takeNumber 2 := by
  obtain ⟨h1, h2, h3⟩ := gC6 (KX10_takeNumber, 2) (List.mem_of_getElem? (i := 8) rfl)
  exact ⟨h1, w731, h2, h3, w3⟩
theorem gX10_atFigures : zGood KX10_atFigures 2 := by
  obtain ⟨h1, h2, h3⟩ := gC6 (KX10_atFigures, 2) (List.mem_of_getElem? (i := 9) rfl)
  exact ⟨h1, w732, h2, h3, w3⟩
theorem gX10_figure : zGood KX10_figure 1 := by
  obtain ⟨h1, h2, h3⟩ := gC6 (KX10_figure, 1) (List.mem_of_getElem? (i := 10) rfl)
  exact ⟨h1, w733, h2, h3, w3⟩
theorem gX11_init : zGood KX11_init 0 := by
  obtain ⟨h1, h2, h3⟩ := gC6 (KX11_init, 0) (List.mem_of_getElem? (i := 11) rfl)
  exact ⟨h1, w734, h2, h3, w735⟩
theorem gX11_feed : zGood KX11_feed 5 := by
  obtain ⟨h1, h2, h3⟩ := gC6 (KX11_feed, 5) (List.mem_of_getElem? (i := 12) rfl)
  exact ⟨h1, w736, h2, h3, w735⟩
theorem gX11_putNumber : zGood KX11_putNumber 1 := by
  obtain ⟨h1, h2, h3⟩ := gC6 (KX11_putNumber, 1) (List.mem_of_getElem? (i := 13) rfl)
  exact ⟨h1, w737, h2, h3, w735⟩
theorem gX11_end : zGood KX11_end 1 := by
  obtain ⟨h1, h2, h3⟩ := gC6 (KX11_end, 1) (List.mem_of_getElem? (i := 14) rfl)
  exact ⟨h1, w738, h2, h3, w735⟩
theorem gX11_coast : zGood KX11_coast 0 := by
  obtain ⟨h1, h2, h3⟩ := gC6 (KX11_coast, 0) (List.mem_of_getElem? (i := 15) rfl)
  exact ⟨h1, w739, h2, h3, w735⟩
theorem gC7 : ∀ q ∈ ([(KX11_law, 0), (KX11_fault, 0), (KX11_member, 2), (KX11_motion, 2), (KX11_follows, 2), (KX11_exposed, 1), (KX11_paper, 1), (KX11_felt, 3), (KX11_goes, 3), (KX11_hours, 1), (KX11_table, 2), (KX11_clear, 1), (KX11_hat, 2), (KX11_out, 2), (KX11_walk, 2), (KX11_mind, 2)] : List (zK × Nat)), plainName q.1.1.cls = true ∧ (q.1.1.cls ≠ "java/lang/invoke/MethodHandle" ∧ q.1.1.cls ≠ "java/lang/invoke/VarHandle" ∧ (parseMethodDescriptor q.1.1.desc).map (fun d => d.parameters.length) = some q.2) ∧ q.1.2.2.1 ≤ 40 := by decide +kernel
theorem gX11_law : zGood KX11_law 0 := by
  obtain ⟨h1, h2, h3⟩ := gC7 (KX11_law, 0) (List.mem_of_getElem? (i := 0) rfl)
  exact ⟨h1, w740, h2, h3, w735⟩
theorem gX11_fault : zGood KX11_fault 0 := by
  obtain ⟨h1, h2, h3⟩ := gC7 (KX11_fault, 0) (List.mem_of_getElem? (i := 1) rfl)
  exact ⟨h1, w741, h2, h3, w735⟩
theorem gX11_member : zGood KX11_member 2 := by
  obtain ⟨h1, h2, h3⟩ := gC7 (KX11_member, 2) (List.mem_of_getElem? (i := 2) rfl)
  exact ⟨h1, w742, h2, h3, w735⟩
theorem gX11_motion : zGood KX11_motion 2 := by
  obtain ⟨h1, h2, h3⟩ := gC7 (KX11_motion, 2) (List.mem_of_getElem? (i := 3) rfl)
  exact ⟨h1, w743, h2, h3, w735⟩
theorem gX11_follows : zGood KX11_follows 2 := by
  obtain ⟨h1, h2, h3⟩ := gC7 (KX11_follows, 2) (List.mem_of_getElem? (i := 4) rfl)
  exact ⟨h1, w744, h2, h3, w735⟩
theorem gX11_exposed : zGood KX11_exposed 1 := by
  obtain ⟨h1, h2, h3⟩ := gC7 (KX11_exposed, 1) (List.mem_of_getElem? (i := 5) rfl)
  exact ⟨h1, w745, h2, h3, w735⟩
theorem gX11_paper : zGood KX11_paper 1 := by
  obtain ⟨h1, h2, h3⟩ := gC7 (KX11_paper, 1) (List.mem_of_getElem? (i := 6) rfl)
  exact ⟨h1, w746, h2, h3, w735⟩
theorem gX11_felt : zGood KX11_felt 3 := by
  obtain ⟨h1, h2, h3⟩ := gC7 (KX11_felt, 3) (List.mem_of_getElem? (i := 7) rfl)
  exact ⟨h1, w747, h2, h3, w735⟩
theorem gX11_goes : zGood KX11_goes 3 := by
  obtain ⟨h1, h2, h3⟩ := gC7 (KX11_goes, 3) (List.mem_of_getElem? (i := 8) rfl)
  exact ⟨h1, w748, h2, h3, w735⟩
theorem gX11_hours : zGood KX11_hours 1 := by
  obtain ⟨h1, h2, h3⟩ := gC7 (KX11_hours, 1) (List.mem_of_getElem? (i := 9) rfl)
  exact ⟨h1, w749, h2, h3, w735⟩
theorem gX11_table : zGood KX11_table 2 := by
  obtain ⟨h1, h2, h3⟩ := gC7 (KX11_table, 2) (List.mem_of_getElem? (i := 10) rfl)
  exact ⟨h1, w750, h2, h3, w735⟩
theorem gX11_clear : zGood KX11_clear 1 := by
  obtain ⟨h1, h2, h3⟩ := gC7 (KX11_clear, 1) (List.mem_of_getElem? (i := 11) rfl)
  exact ⟨h1, w751, h2, h3, w735⟩
theorem gX11_hat : zGood KX11_hat 2 := by
  obtain ⟨h1, h2, h3⟩ := gC7 (KX11_hat, 2) (List.mem_of_getElem? (i := 12) rfl)
  exact ⟨h1, w752, h2, h3, w735⟩
theorem gX11_out : zGood KX11_out 2 := by
  obtain ⟨h1, h2, h3⟩ := gC7 (KX11_out, 2) (List.mem_of_getElem? (i := 13) rfl)
  exact ⟨h1, w753, h2, h3, w735⟩
theorem gX11_walk : zGood KX11_walk 2 := by
  obtain ⟨h1, h2, h3⟩ := gC7 (KX11_walk, 2) (List.mem_of_getElem? (i := 14) rfl)
  exact ⟨h1, w754, h2, h3, w735⟩
theorem gX11_mind : zGood KX11_mind 2 := by
  obtain ⟨h1, h2, h3⟩ := gC7 (KX11_mind, 2) (List.mem_of_getElem? (i := 15) rfl)
  exact ⟨h1, w755, h2, h3, w735⟩
theorem gC8 : ∀ q ∈ ([(KX11_seat, 2), (KX11_renew, 1), (KX11_chance, 2), (KX11_carries, 2), (KX11_soonest, 2), (KX11_when, 1), (KX11_worst, 0), (KX11_best, 1), (KX11_shower, 2), (KX11_haste, 1), (KX11_cuffs, 1), (KX11_likely, 0), (KX11_ago, 1), (KX11_ask, 0), (KX11_readCuffs, 0), (KX11_windows, 0)] : List (zK × Nat)), plainName q.1.1.cls = true ∧ (q.1.1.cls ≠ "java/lang/invoke/MethodHandle" ∧ q.1.1.cls ≠ "java/lang/invoke/VarHandle" ∧ (parseMethodDescriptor q.1.1.desc).map (fun d => d.parameters.length) = some q.2) ∧ q.1.2.2.1 ≤ 40 := by decide +kernel
theorem gX11_seat : zGood KX11_seat 2 := by
  obtain ⟨h1, h2, h3⟩ := gC8 (KX11_seat, 2) (List.mem_of_getElem? (i := 0) rfl)
  exact ⟨h1, w756, h2, h3, w735⟩
theorem gX11_renew : zGood KX11_renew 1 := by
  obtain ⟨h1, h2, h3⟩ := gC8 (KX11_renew, 1) (List.mem_of_getElem? (i := 1) rfl)
  exact ⟨h1, w757, h2, h3, w735⟩
theorem gX11_chance : zGood KX11_chance 2 := by
  obtain ⟨h1, h2, h3⟩ := gC8 (KX11_chance, 2) (List.mem_of_getElem? (i := 2) rfl)
  exact ⟨h1, w758, h2, h3, w735⟩
theorem gX11_carries : zGood KX11_carries 2 := by
  obtain ⟨h1, h2, h3⟩ := gC8 (KX11_carries, 2) (List.mem_of_getElem? (i := 3) rfl)
  exact ⟨h1, w759, h2, h3, w735⟩
theorem gX11_soonest : zGood KX11_soonest 2 := by
  obtain ⟨h1, h2, h3⟩ := gC8 (KX11_soonest, 2) (List.mem_of_getElem? (i := 4) rfl)
  exact ⟨h1, w760, h2, h3, w735⟩
theorem gX11_when : zGood KX11_when 1 := by
  obtain ⟨h1, h2, h3⟩ := gC8 (KX11_when, 1) (List.mem_of_getElem? (i := 5) rfl)
  exact ⟨h1, w761, h2, h3, w735⟩
theorem gX11_worst : zGood KX11_worst 0 := by
  obtain ⟨h1, h2, h3⟩ := gC8 (KX11_worst, 0) (List.mem_of_getElem? (i := 6) rfl)
  exact ⟨h1, w762, h2, h3, w735⟩
theorem gX11_best : zGood KX11_best 1 := by
  obtain ⟨h1, h2, h3⟩ := gC8 (KX11_best, 1) (List.mem_of_getElem? (i := 7) rfl)
  exact ⟨h1, w763, h2, h3, w735⟩
theorem gX11_shower : zGood KX11_shower 2 := by
  obtain ⟨h1, h2, h3⟩ := gC8 (KX11_shower, 2) (List.mem_of_getElem? (i := 8) rfl)
  exact ⟨h1, w764, h2, h3, w735⟩
theorem gX11_haste : zGood KX11_haste 1 := by
  obtain ⟨h1, h2, h3⟩ := gC8 (KX11_haste, 1) (List.mem_of_getElem? (i := 9) rfl)
  exact ⟨h1, w765, h2, h3, w735⟩
theorem gX11_cuffs : zGood KX11_cuffs 1 := by
  obtain ⟨h1, h2, h3⟩ := gC8 (KX11_cuffs, 1) (List.mem_of_getElem? (i := 10) rfl)
  exact ⟨h1, w766, h2, h3, w735⟩
theorem gX11_likely : zGood KX11_likely 0 := by
  obtain ⟨h1, h2, h3⟩ := gC8 (KX11_likely, 0) (List.mem_of_getElem? (i := 11) rfl)
  exact ⟨h1, w767, h2, h3, w735⟩
theorem gX11_ago : zGood KX11_ago 1 := by
  obtain ⟨h1, h2, h3⟩ := gC8 (KX11_ago, 1) (List.mem_of_getElem? (i := 12) rfl)
  exact ⟨h1, w768, h2, h3, w735⟩
theorem gX11_ask : zGood KX11_ask 0 := by
  obtain ⟨h1, h2, h3⟩ := gC8 (KX11_ask, 0) (List.mem_of_getElem? (i := 13) rfl)
  exact ⟨h1, w769, h2, h3, w735⟩
theorem gX11_readCuffs : zGood KX11_readCuffs 0 := by
  obtain ⟨h1, h2, h3⟩ := gC8 (KX11_readCuffs, 0) (List.mem_of_getElem? (i := 14) rfl)
  exact ⟨h1, w770, h2, h3, w735⟩
theorem gX11_windows : zGood KX11_windows 0 := by
  obtain ⟨h1, h2, h3⟩ := gC8 (KX11_windows, 0) (List.mem_of_getElem? (i := 15) rfl)
  exact ⟨h1, w771, h2, h3, w735⟩
theorem gC9 : ∀ q ∈ ([(KX11_posts, 1), (KX11_wins, 1), (KX11_swings, 1), (KX11_power, 1), (KX11_minimal, 0), (KX11_leader, 0), (KX11_minds, 1), (KX11_bargain, 2), (KX11_like, 2), (KX11_foes, 0), (KX11_dry, 1), (KX11_drought, 1), (KX11_quorate, 0), (KX11_enough, 0), (KX11_rests, 1), (KX11_gainOfMoving, 2)] : List (zK × Nat)), plainName q.1.1.cls = true ∧ (q.1.1.cls ≠ "java/lang/invoke/MethodHandle" ∧ q.1.1.cls ≠ "java/lang/invoke/VarHandle" ∧ (parseMethodDescriptor q.1.1.desc).map (fun d => d.parameters.length) = some q.2) ∧ q.1.2.2.1 ≤ 40 := by decide +kernel
theorem gX11_posts : zGood KX11_posts 1 := by
  obtain ⟨h1, h2, h3⟩ := gC9 (KX11_posts, 1) (List.mem_of_getElem? (i := 0) rfl)
  exact ⟨h1, w772, h2, h3, w735⟩
theorem gX11_wins : zGood KX11_wins 1 := by
  obtain ⟨h1, h2, h3⟩ := gC9 (KX11_wins, 1) (List.mem_of_getElem? (i := 1) rfl)
  exact ⟨h1, w773, h2, h3, w735⟩
theorem gX11_swings : zGood KX11_swings 1 := by
  obtain ⟨h1, h2, h3⟩ := gC9 (KX11_swings, 1) (List.mem_of_getElem? (i := 2) rfl)
  exact ⟨h1, w774, h2, h3, w735⟩
theorem gX11_power : zGood KX11_power 1 := by
  obtain ⟨h1, h2, h3⟩ := gC9 (KX11_power, 1) (List.mem_of_getElem? (i := 3) rfl)
  exact ⟨h1, w775, h2, h3, w735⟩
theorem gX11_minimal : zGood KX11_minimal 0 := by
  obtain ⟨h1, h2, h3⟩ := gC9 (KX11_minimal, 0) (List.mem_of_getElem? (i := 4) rfl)
  exact ⟨h1, w776, h2, h3, w735⟩
theorem gX11_leader : zGood KX11_leader 0 := by
  obtain ⟨h1, h2, h3⟩ := gC9 (KX11_leader, 0) (List.mem_of_getElem? (i := 5) rfl)
  exact ⟨h1, w777, h2, h3, w735⟩
theorem gX11_minds : zGood KX11_minds 1 := by
  obtain ⟨h1, h2, h3⟩ := gC9 (KX11_minds, 1) (List.mem_of_getElem? (i := 6) rfl)
  exact ⟨h1, w778, h2, h3, w735⟩
theorem gX11_bargain : zGood KX11_bargain 2 := by
  obtain ⟨h1, h2, h3⟩ := gC9 (KX11_bargain, 2) (List.mem_of_getElem? (i := 7) rfl)
  exact ⟨h1, w779, h2, h3, w735⟩
theorem gX11_like : zGood KX11_like 2 := by
  obtain ⟨h1, h2, h3⟩ := gC9 (KX11_like, 2) (List.mem_of_getElem? (i := 8) rfl)
  exact ⟨h1, w780, h2, h3, w735⟩
theorem gX11_foes : zGood KX11_foes 0 := by
  obtain ⟨h1, h2, h3⟩ := gC9 (KX11_foes, 0) (List.mem_of_getElem? (i := 9) rfl)
  exact ⟨h1, w781, h2, h3, w735⟩
theorem gX11_dry : zGood KX11_dry 1 := by
  obtain ⟨h1, h2, h3⟩ := gC9 (KX11_dry, 1) (List.mem_of_getElem? (i := 10) rfl)
  exact ⟨h1, w782, h2, h3, w735⟩
theorem gX11_drought : zGood KX11_drought 1 := by
  obtain ⟨h1, h2, h3⟩ := gC9 (KX11_drought, 1) (List.mem_of_getElem? (i := 11) rfl)
  exact ⟨h1, w783, h2, h3, w735⟩
theorem gX11_quorate : zGood KX11_quorate 0 := by
  obtain ⟨h1, h2, h3⟩ := gC9 (KX11_quorate, 0) (List.mem_of_getElem? (i := 12) rfl)
  exact ⟨h1, w784, h2, h3, w735⟩
theorem gX11_enough : zGood KX11_enough 0 := by
  obtain ⟨h1, h2, h3⟩ := gC9 (KX11_enough, 0) (List.mem_of_getElem? (i := 13) rfl)
  exact ⟨h1, w785, h2, h3, w735⟩
theorem gX11_rests : zGood KX11_rests 1 := by
  obtain ⟨h1, h2, h3⟩ := gC9 (KX11_rests, 1) (List.mem_of_getElem? (i := 14) rfl)
  exact ⟨h1, w786, h2, h3, w735⟩
theorem gX11_gainOfMoving : zGood KX11_gainOfMoving 2 := by
  obtain ⟨h1, h2, h3⟩ := gC9 (KX11_gainOfMoving, 2) (List.mem_of_getElem? (i := 15) rfl)
  exact ⟨h1, w787, h2, h3, w735⟩
theorem gC10 : ∀ q ∈ ([(KX11_tabled, 0), (KX11_soaked, 0), (KX11_twins, 0), (KX11_richest, 0), (KX11_trial, 2), (KX11_span, 2), (KX11_tryHours, 2), (KX11_led, 2), (KX11_log, 2), (KX11_seed, 1), (KX11_undo, 0), (KX11_image, 0), (KX11_back, 0), (KX11_rememberNow, 0), (KX11_forgetActs, 0), (KX11_count, 1)] : List (zK × Nat)), plainName q.1.1.cls = true ∧ (q.1.1.cls ≠ "java/lang/invoke/MethodHandle" ∧ q.1.1.cls ≠ "java/lang/invoke/VarHandle" ∧ (parseMethodDescriptor q.1.1.desc).map (fun d => d.parameters.length) = some q.2) ∧ q.1.2.2.1 ≤ 40 := by decide +kernel
theorem gX11_tabled : zGood KX11_tabled 0 := by
  obtain ⟨h1, h2, h3⟩ := gC10 (KX11_tabled, 0) (List.mem_of_getElem? (i := 0) rfl)
  exact ⟨h1, w788, h2, h3, w735⟩
theorem gX11_soaked : zGood KX11_soaked 0 := by
  obtain ⟨h1, h2, h3⟩ := gC10 (KX11_soaked, 0) (List.mem_of_getElem? (i := 1) rfl)
  exact ⟨h1, w789, h2, h3, w735⟩
theorem gX11_twins : zGood KX11_twins 0 := by
  obtain ⟨h1, h2, h3⟩ := gC10 (KX11_twins, 0) (List.mem_of_getElem? (i := 2) rfl)
  exact ⟨h1, w790, h2, h3, w735⟩
theorem gX11_richest : zGood KX11_richest 0 := by
  obtain ⟨h1, h2, h3⟩ := gC10 (KX11_richest, 0) (List.mem_of_getElem? (i := 3) rfl)
  exact ⟨h1, w791, h2, h3, w735⟩
theorem gX11_trial : zGood KX11_trial 2 := by
  obtain ⟨h1, h2, h3⟩ := gC10 (KX11_trial, 2) (List.mem_of_getElem? (i := 4) rfl)
  exact ⟨h1, w792, h2, h3, w735⟩
theorem gX11_span : zGood KX11_span 2 := by
  obtain ⟨h1, h2, h3⟩ := gC10 (KX11_span, 2) (List.mem_of_getElem? (i := 5) rfl)
  exact ⟨h1, w793, h2, h3, w735⟩
theorem gX11_tryHours : zGood KX11_tryHours 2 := by
  obtain ⟨h1, h2, h3⟩ := gC10 (KX11_tryHours, 2) (List.mem_of_getElem? (i := 6) rfl)
  exact ⟨h1, w794, h2, h3, w735⟩
theorem gX11_led : zGood KX11_led 2 := by
  obtain ⟨h1, h2, h3⟩ := gC10 (KX11_led, 2) (List.mem_of_getElem? (i := 7) rfl)
  exact ⟨h1, w795, h2, h3, w735⟩
theorem gX11_log : zGood KX11_log 2 := by
  obtain ⟨h1, h2, h3⟩ := gC10 (KX11_log, 2) (List.mem_of_getElem? (i := 8) rfl)
  exact ⟨h1, w796, h2, h3, w735⟩
theorem gX11_seed : zGood KX11_seed 1 := by
  obtain ⟨h1, h2, h3⟩ := gC10 (KX11_seed, 1) (List.mem_of_getElem? (i := 9) rfl)
  exact ⟨h1, w797, h2, h3, w735⟩
theorem gX11_undo : zGood KX11_undo 0 := by
  obtain ⟨h1, h2, h3⟩ := gC10 (KX11_undo, 0) (List.mem_of_getElem? (i := 10) rfl)
  exact ⟨h1, w798, h2, h3, w735⟩
theorem gX11_image : zGood KX11_image 0 := by
  obtain ⟨h1, h2, h3⟩ := gC10 (KX11_image, 0) (List.mem_of_getElem? (i := 11) rfl)
  exact ⟨h1, w799, h2, h3, w735⟩
theorem gX11_back : zGood KX11_back 0 := by
  obtain ⟨h1, h2, h3⟩ := gC10 (KX11_back, 0) (List.mem_of_getElem? (i := 12) rfl)
  exact ⟨h1, w800, h2, h3, w735⟩
theorem gX11_rememberNow : zGood KX11_rememberNow 0 := by
  obtain ⟨h1, h2, h3⟩ := gC10 (KX11_rememberNow, 0) (List.mem_of_getElem? (i := 13) rfl)
  exact ⟨h1, w801, h2, h3, w735⟩
theorem gX11_forgetActs : zGood KX11_forgetActs 0 := by
  obtain ⟨h1, h2, h3⟩ := gC10 (KX11_forgetActs, 0) (List.mem_of_getElem? (i := 14) rfl)
  exact ⟨h1, w802, h2, h3, w735⟩
theorem gX11_count : zGood KX11_count 1 := by
  obtain ⟨h1, h2, h3⟩ := gC10 (KX11_count, 1) (List.mem_of_getElem? (i := 15) rfl)
  exact ⟨h1, w803, h2, h3, w735⟩
theorem gC11 : ∀ q ∈ ([(KX11_needMember, 1), (KX11_needVoter, 1), (KX11_needMotion, 1), (KX11_needWaiting, 1), (KX11_needSky, 1), (KX11_needPlace, 1), (KX11_needHour, 1), (KX11_needNumber, 3), (KX11_needTwo, 2), (KX11_bitOf, 2), (KX11_withBit, 3)] : List (zK × Nat)), plainName q.1.1.cls = true ∧ (q.1.1.cls ≠ "java/lang/invoke/MethodHandle" ∧ q.1.1.cls ≠ "java/lang/invoke/VarHandle" ∧ (parseMethodDescriptor q.1.1.desc).map (fun d => d.parameters.length) = some q.2) ∧ q.1.2.2.1 ≤ 40 := by decide +kernel
theorem gX11_needMember : zGood KX11_needMember 1 := by
  obtain ⟨h1, h2, h3⟩ := gC11 (KX11_needMember, 1) (List.mem_of_getElem? (i := 0) rfl)
  exact ⟨h1, w804, h2, h3, w735⟩
theorem gX11_needVoter : zGood KX11_needVoter 1 := by
  obtain ⟨h1, h2, h3⟩ := gC11 (KX11_needVoter, 1) (List.mem_of_getElem? (i := 1) rfl)
  exact ⟨h1, w805, h2, h3, w735⟩
theorem gX11_needMotion : zGood KX11_needMotion 1 := by
  obtain ⟨h1, h2, h3⟩ := gC11 (KX11_needMotion, 1) (List.mem_of_getElem? (i := 2) rfl)
  exact ⟨h1, w806, h2, h3, w735⟩
theorem gX11_needWaiting : zGood KX11_needWaiting 1 := by
  obtain ⟨h1, h2, h3⟩ := gC11 (KX11_needWaiting, 1) (List.mem_of_getElem? (i := 3) rfl)
  exact ⟨h1, w807, h2, h3, w735⟩
theorem gX11_needSky : zGood KX11_needSky 1 := by
  obtain ⟨h1, h2, h3⟩ := gC11 (KX11_needSky, 1) (List.mem_of_getElem? (i := 4) rfl)
  exact ⟨h1, w808, h2, h3, w735⟩
theorem gX11_needPlace : zGood KX11_needPlace 1 := by
  obtain ⟨h1, h2, h3⟩ := gC11 (KX11_needPlace, 1) (List.mem_of_getElem? (i := 5) rfl)
  exact ⟨h1, w809, h2, h3, w735⟩
theorem gX11_needHour : zGood KX11_needHour 1 := by
  obtain ⟨h1, h2, h3⟩ := gC11 (KX11_needHour, 1) (List.mem_of_getElem? (i := 6) rfl)
  exact ⟨h1, w810, h2, h3, w735⟩
theorem gX11_needNumber : zGood KX11_needNumber 3 := by
  obtain ⟨h1, h2, h3⟩ := gC11 (KX11_needNumber, 3) (List.mem_of_getElem? (i := 7) rfl)
  exact ⟨h1, w811, h2, h3, w735⟩
theorem gX11_needTwo : zGood KX11_needTwo 2 := by
  obtain ⟨h1, h2, h3⟩ := gC11 (KX11_needTwo, 2) (List.mem_of_getElem? (i := 8) rfl)
  exact ⟨h1, w812, h2, h3, w735⟩
theorem gX11_bitOf : zGood KX11_bitOf 2 := by
  obtain ⟨h1, h2, h3⟩ := gC11 (KX11_bitOf, 2) (List.mem_of_getElem? (i := 9) rfl)
  exact ⟨h1, w813, h2, h3, w735⟩
theorem gX11_withBit : zGood KX11_withBit 3 := by
  obtain ⟨h1, h2, h3⟩ := gC11 (KX11_withBit, 3) (List.mem_of_getElem? (i := 10) rfl)
  exact ⟨h1, w814, h2, h3, w735⟩
theorem pd_LDrizzleVote_Words_ : parseFieldDescriptor "LDrizzleVote$Words;" = some (.object "DrizzleVote$Words") := by decide +kernel
theorem pd_LDrizzleVote_Council_ : parseFieldDescriptor "LDrizzleVote$Council;" = some (.object "DrizzleVote$Council") := by decide +kernel
theorem pd_LDrizzleVote_Motions_ : parseFieldDescriptor "LDrizzleVote$Motions;" = some (.object "DrizzleVote$Motions") := by decide +kernel
theorem pd_LDrizzleVote_Weather_ : parseFieldDescriptor "LDrizzleVote$Weather;" = some (.object "DrizzleVote$Weather") := by decide +kernel
theorem pd_LDrizzleVote_Log_ : parseFieldDescriptor "LDrizzleVote$Log;" = some (.object "DrizzleVote$Log") := by decide +kernel
theorem pd_LDrizzleVote_Law_ : parseFieldDescriptor "LDrizzleVote$Law;" = some (.object "DrizzleVote$Law") := by decide +kernel
theorem pd_ALDrizzleVote_Council_ : parseFieldDescriptor "[LDrizzleVote$Council;" = some (.array (.object "DrizzleVote$Council")) := by decide +kernel
theorem pd_LDrizzleVote_CoastText_ : parseFieldDescriptor "LDrizzleVote$CoastText;" = some (.object "DrizzleVote$CoastText") := by decide +kernel
theorem pd_LDrizzleVote_LawText_ : parseFieldDescriptor "LDrizzleVote$LawText;" = some (.object "DrizzleVote$LawText") := by decide +kernel
theorem pd_LDrizzleVote_Cuffs_ : parseFieldDescriptor "LDrizzleVote$Cuffs;" = some (.object "DrizzleVote$Cuffs") := by decide +kernel
theorem pd_LDrizzleVote_Sides_ : parseFieldDescriptor "LDrizzleVote$Sides;" = some (.object "DrizzleVote$Sides") := by decide +kernel
theorem pd_LDrizzleVote_Planner_ : parseFieldDescriptor "LDrizzleVote$Planner;" = some (.object "DrizzleVote$Planner") := by decide +kernel
theorem oX0_3 : Cond.methodLink RX0 3 Lib.objectInit ∈ zTg := w0
theorem nX0_9 : Cond.classLink RX0 9 RX10 ∈ zTg ∧ Cond.instantiable RX10 6 ∈ zTg ∧ Cond.initialized RX10 ∈ zTg := ⟨w1, w2, w3⟩
theorem vX0_11 : zIc RX0 11 KX10_init 0 := ⟨gX10_init, rfl, ⟨w4, w5, rfl, rfl⟩⟩
theorem lX0_12 : zFl RX0 12 0 0 2 (.object "DrizzleVote$Words") true := ⟨(RX0, TX0, 2), rfl, Nat.le_of_ble_eq_true rfl, w6, rfl, pd_LDrizzleVote_Words_, rfl, rfl⟩
theorem nX0_18 : Cond.classLink RX0 18 RX1 ∈ zTg ∧ Cond.instantiable RX1 15 ∈ zTg ∧ Cond.initialized RX1 ∈ zTg := ⟨w7, w8, w9⟩
theorem vX0_20 : zIc RX0 20 KX1_init 0 := ⟨gX1_init, rfl, ⟨w10, w11, rfl, rfl⟩⟩
theorem lX0_21 : zFl RX0 21 0 1 2 (.object "DrizzleVote$Council") true := ⟨(RX0, TX0, 2), rfl, Nat.le_of_ble_eq_true rfl, w12, rfl, pd_LDrizzleVote_Council_, rfl, rfl⟩
theorem vX0_25 : zVc RX0 25 KX1_takeAll 1 1 := ⟨gX1_takeAll, rfl, ⟨w13, w14, w15⟩, (RX1, TX1, 15), rfl, rfl⟩
theorem vX0_29 : zVc RX0 29 KX10_open 2 10 := ⟨gX10_open, rfl, ⟨w16, w17, w18⟩, (RX10, TX10, 6), rfl, rfl⟩
theorem vX0_33 : zVc RX0 33 KX10_atEnd 0 10 := ⟨gX10_atEnd, rfl, ⟨w19, w20, w21⟩, (RX10, TX10, 6), rfl, rfl⟩
theorem vX0_37 : zVc RX0 37 KX0_readLine 0 0 := ⟨gX0_readLine, rfl, ⟨w22, w23, w24⟩, (RX0, TX0, 2), rfl, rfl⟩
theorem vX0_40 : zVc RX0 40 KX10_needSign 1 10 := ⟨gX10_needSign, rfl, ⟨w25, w26, w27⟩, (RX10, TX10, 6), rfl, rfl⟩
theorem vX0_44 : zVc RX0 44 KX10_fail 0 10 := ⟨gX10_fail, rfl, ⟨w28, w29, w30⟩, (RX10, TX10, 6), rfl, rfl⟩
theorem vX0_49 : zVc RX0 49 KX10_atWord 1 10 := ⟨gX10_atWord, rfl, ⟨w31, w32, w33⟩, (RX10, TX10, 6), rfl, rfl⟩
theorem lX0_53 : zFl RX0 53 1 1 0 .int false := ⟨(RX1, TX1, 15), rfl, Nat.le_of_ble_eq_true rfl, w34, rfl, pd_I, rfl, rfl⟩
theorem vX0_57 : zVc RX0 57 KX0_readMember 0 0 := ⟨gX0_readMember, rfl, ⟨w35, w36, w37⟩, (RX0, TX0, 2), rfl, rfl⟩
theorem lX0_62 : zFl RX0 62 1 12 2 (.object "DrizzleVote$Motions") true := ⟨(RX1, TX1, 15), rfl, Nat.le_of_ble_eq_true rfl, w38, rfl, pd_LDrizzleVote_Motions_, rfl, rfl⟩
theorem lX0_66 : zFl RX0 66 6 0 0 .int false := ⟨(RX6, TX6, 7), rfl, Nat.le_of_ble_eq_true rfl, w39, rfl, pd_I, rfl, rfl⟩
theorem vX0_71 : zVc RX0 71 KX0_readMotion 0 0 := ⟨gX0_readMotion, rfl, ⟨w40, w41, w42⟩, (RX0, TX0, 2), rfl, rfl⟩
theorem vX0_76 : zVc RX0 76 KX10_takeWord 1 10 := ⟨gX10_takeWord, rfl, ⟨w43, w44, w45⟩, (RX10, TX10, 6), rfl, rfl⟩
theorem vX0_79 : zVc RX0 79 KX0_readSky 0 0 := ⟨gX0_readSky, rfl, ⟨w46, w47, w48⟩, (RX0, TX0, 2), rfl, rfl⟩
theorem lX0_84 : zFl RX0 84 1 11 2 (.object "DrizzleVote$Weather") true := ⟨(RX1, TX1, 15), rfl, Nat.le_of_ble_eq_true rfl, w49, rfl, pd_LDrizzleVote_Weather_, rfl, rfl⟩
theorem vX0_88 : zVc RX0 88 KX0_takeSky 0 0 := ⟨gX0_takeSky, rfl, ⟨w50, w51, w52⟩, (RX0, TX0, 2), rfl, rfl⟩
theorem lX0_92 : zFl RX0 92 9 0 0 .int false := ⟨(RX9, TX9, 7), rfl, Nat.le_of_ble_eq_true rfl, w53, rfl, pd_I, rfl, rfl⟩
theorem vX0_98 : zVc RX0 98 KX0_readPlace 0 0 := ⟨gX0_readPlace, rfl, ⟨w54, w55, w56⟩, (RX0, TX0, 2), rfl, rfl⟩
theorem vX0_103 : zVc RX0 103 KX0_readPaper 0 0 := ⟨gX0_readPaper, rfl, ⟨w57, w58, w59⟩, (RX0, TX0, 2), rfl, rfl⟩
theorem vX0_106 : zVc RX0 106 KX0_readSetting 0 0 := ⟨gX0_readSetting, rfl, ⟨w60, w61, w62⟩, (RX0, TX0, 2), rfl, rfl⟩
theorem vX0_111 : zVc RX0 111 KX10_takeNumber 2 10 := ⟨gX10_takeNumber, rfl, ⟨w63, w64, w65⟩, (RX10, TX10, 6), rfl, rfl⟩
theorem lX0_115 : zFl RX0 115 1 7 0 .int false := ⟨(RX1, TX1, 15), rfl, Nat.le_of_ble_eq_true rfl, w66, rfl, pd_I, rfl, rfl⟩
theorem lX0_119 : zFl RX0 119 1 8 0 .int false := ⟨(RX1, TX1, 15), rfl, Nat.le_of_ble_eq_true rfl, w67, rfl, pd_I, rfl, rfl⟩
theorem lX0_123 : zFl RX0 123 1 9 0 .int false := ⟨(RX1, TX1, 15), rfl, Nat.le_of_ble_eq_true rfl, w68, rfl, pd_I, rfl, rfl⟩
theorem lX0_128 : zFl RX0 128 9 1 0 .int false := ⟨(RX9, TX9, 7), rfl, Nat.le_of_ble_eq_true rfl, w69, rfl, pd_I, rfl, rfl⟩
theorem lX0_132 : zFl RX0 132 9 2 0 .int false := ⟨(RX9, TX9, 7), rfl, Nat.le_of_ble_eq_true rfl, w70, rfl, pd_I, rfl, rfl⟩
theorem vX0_134 : zVc RX0 134 KX10_advance 0 10 := ⟨gX10_advance, rfl, ⟨w71, w72, w73⟩, (RX10, TX10, 6), rfl, rfl⟩
theorem vX0_139 : zVc RX0 139 KX10_needWord 1 10 := ⟨gX10_needWord, rfl, ⟨w74, w75, w76⟩, (RX10, TX10, 6), rfl, rfl⟩
theorem vX0_148 : zVc RX0 148 KX1_addMember 4 1 := ⟨gX1_addMember, rfl, ⟨w77, w78, w79⟩, (RX1, TX1, 15), rfl, rfl⟩
theorem vX0_160 : zVc RX0 160 KX10_atFigures 2 10 := ⟨gX10_atFigures, rfl, ⟨w80, w81, w82⟩, (RX10, TX10, 6), rfl, rfl⟩
theorem vX0_164 : zVc RX0 164 KX0_takeSet 0 0 := ⟨gX0_takeSet, rfl, ⟨w83, w84, w85⟩, (RX0, TX0, 2), rfl, rfl⟩
theorem vX0_167 : zVc RX0 167 KX6_add 4 6 := ⟨gX6_add, rfl, ⟨w86, w87, w88⟩, (RX6, TX6, 7), rfl, rfl⟩
theorem vX0_171 : zVc RX0 171 KX10_figure 1 10 := ⟨gX10_figure, rfl, ⟨w89, w90, w91⟩, (RX10, TX10, 6), rfl, rfl⟩
theorem lX0_185 : zFl RX0 185 9 4 2 (.array .int) true := ⟨(RX9, TX9, 7), rfl, Nat.le_of_ble_eq_true rfl, w92, rfl, pd_AI, rfl, rfl⟩
theorem lX0_191 : zFl RX0 191 1 6 2 (.array .int) true := ⟨(RX1, TX1, 15), rfl, Nat.le_of_ble_eq_true rfl, w93, rfl, pd_AI, rfl, rfl⟩
theorem vX0_197 : zVc RX0 197 KX6_hourOf 1 6 := ⟨gX6_hourOf, rfl, ⟨w94, w95, w96⟩, (RX6, TX6, 7), rfl, rfl⟩
theorem lX0_200 : zFl RX0 200 10 0 0 .int false := ⟨(RX10, TX10, 6), rfl, Nat.le_of_ble_eq_true rfl, w97, rfl, pd_I, rfl, rfl⟩
theorem lX0_203 : zFl RX0 203 6 6 2 (.array .int) true := ⟨(RX6, TX6, 7), rfl, Nat.le_of_ble_eq_true rfl, w98, rfl, pd_AI, rfl, rfl⟩
theorem oX1_3 : Cond.methodLink RX1 3 Lib.objectInit ∈ zTg := w99
theorem lX1_9 : zFl RX1 9 1 2 2 (.array .int) true := ⟨(RX1, TX1, 15), rfl, Nat.le_of_ble_eq_true rfl, w100, rfl, pd_AI, rfl, rfl⟩
theorem lX1_15 : zFl RX1 15 1 3 2 (.array .int) true := ⟨(RX1, TX1, 15), rfl, Nat.le_of_ble_eq_true rfl, w101, rfl, pd_AI, rfl, rfl⟩
theorem lX1_18 : zFl RX1 18 1 6 2 (.array .int) true := ⟨(RX1, TX1, 15), rfl, Nat.le_of_ble_eq_true rfl, w102, rfl, pd_AI, rfl, rfl⟩
theorem vX1_21 : zSc RX1 21 KJ7_fill_53178 2 := ⟨gJ7_fill_53178, rfl, w104, w103⟩
theorem lX1_27 : zFl RX1 27 1 7 0 .int false := ⟨(RX1, TX1, 15), rfl, Nat.le_of_ble_eq_true rfl, w105, rfl, pd_I, rfl, rfl⟩
theorem lX1_31 : zFl RX1 31 1 8 0 .int false := ⟨(RX1, TX1, 15), rfl, Nat.le_of_ble_eq_true rfl, w106, rfl, pd_I, rfl, rfl⟩
theorem lX1_34 : zFl RX1 34 1 9 0 .int false := ⟨(RX1, TX1, 15), rfl, Nat.le_of_ble_eq_true rfl, w107, rfl, pd_I, rfl, rfl⟩
theorem nX1_37 : Cond.classLink RX1 37 RX9 ∈ zTg ∧ Cond.instantiable RX9 7 ∈ zTg ∧ Cond.initialized RX9 ∈ zTg := ⟨w108, w109, w110⟩
theorem vX1_39 : zIc RX1 39 KX9_init 0 := ⟨gX9_init, rfl, ⟨w111, w112, rfl, rfl⟩⟩
theorem lX1_40 : zFl RX1 40 1 11 2 (.object "DrizzleVote$Weather") true := ⟨(RX1, TX1, 15), rfl, Nat.le_of_ble_eq_true rfl, w113, rfl, pd_LDrizzleVote_Weather_, rfl, rfl⟩
theorem nX1_44 : Cond.classLink RX1 44 RX6 ∈ zTg ∧ Cond.instantiable RX6 7 ∈ zTg ∧ Cond.initialized RX6 ∈ zTg := ⟨w114, w115, w116⟩
theorem vX1_46 : zIc RX1 46 KX6_init 0 := ⟨gX6_init, rfl, ⟨w117, w118, rfl, rfl⟩⟩
theorem lX1_47 : zFl RX1 47 1 12 2 (.object "DrizzleVote$Motions") true := ⟨(RX1, TX1, 15), rfl, Nat.le_of_ble_eq_true rfl, w119, rfl, pd_LDrizzleVote_Motions_, rfl, rfl⟩
theorem nX1_51 : Cond.classLink RX1 51 RX5 ∈ zTg ∧ Cond.instantiable RX5 2 ∈ zTg ∧ Cond.initialized RX5 ∈ zTg := ⟨w120, w121, w122⟩
theorem vX1_53 : zIc RX1 53 KX5_init 0 := ⟨gX5_init, rfl, ⟨w123, w124, rfl, rfl⟩⟩
theorem lX1_54 : zFl RX1 54 1 13 2 (.object "DrizzleVote$Log") true := ⟨(RX1, TX1, 15), rfl, Nat.le_of_ble_eq_true rfl, w125, rfl, pd_LDrizzleVote_Log_, rfl, rfl⟩
theorem lX1_60 : zFl RX1 60 1 14 2 (.array .int) true := ⟨(RX1, TX1, 15), rfl, Nat.le_of_ble_eq_true rfl, w126, rfl, pd_AI, rfl, rfl⟩
theorem lX1_63 : zFl RX1 63 1 0 0 .int false := ⟨(RX1, TX1, 15), rfl, Nat.le_of_ble_eq_true rfl, w127, rfl, pd_I, rfl, rfl⟩
theorem lX1_66 : zFl RX1 66 1 1 0 .int false := ⟨(RX1, TX1, 15), rfl, Nat.le_of_ble_eq_true rfl, w128, rfl, pd_I, rfl, rfl⟩
theorem aX1_69 : zacp RX1 69 := ⟨w129, w130, w131, w132⟩
theorem lX1_75 : zFl RX1 75 1 4 0 .int false := ⟨(RX1, TX1, 15), rfl, Nat.le_of_ble_eq_true rfl, w133, rfl, pd_I, rfl, rfl⟩
theorem lX1_78 : zFl RX1 78 1 5 0 .int false := ⟨(RX1, TX1, 15), rfl, Nat.le_of_ble_eq_true rfl, w134, rfl, pd_I, rfl, rfl⟩
theorem lX1_81 : zFl RX1 81 1 10 2 (.object "DrizzleVote$Law") false := ⟨(RX1, TX1, 15), rfl, Nat.le_of_ble_eq_true rfl, w135, rfl, pd_LDrizzleVote_Law_, rfl, rfl⟩
theorem vX1_85 : zVc RX1 85 KX9_takeWeather 1 9 := ⟨gX9_takeWeather, rfl, ⟨w136, w137, w138⟩, (RX9, TX9, 7), rfl, rfl⟩
theorem vX1_89 : zVc RX1 89 KX6_takeMotions 1 6 := ⟨gX6_takeMotions, rfl, ⟨w139, w140, w141⟩, (RX6, TX6, 7), rfl, rfl⟩
theorem vX1_93 : zVc RX1 93 KX5_takeRows 1 5 := ⟨gX5_takeRows, rfl, ⟨w142, w143, w144⟩, (RX5, TX5, 2), rfl, rfl⟩
theorem vX1_97 : zNc RX1 97 KX11_withBit 3 := ⟨gX11_withBit, rfl, ⟨"DrizzleVote", by decide +kernel⟩, w145⟩
theorem vX1_101 : zNc RX1 101 KX11_bitOf 2 := ⟨gX11_bitOf, rfl, ⟨"DrizzleVote", by decide +kernel⟩, w146⟩
theorem vX1_105 : zVc RX1 105 KX1_seatsOf 1 1 := ⟨gX1_seatsOf, rfl, ⟨w147, w148, w149⟩, (RX1, TX1, 15), rfl, rfl⟩
theorem vX1_109 : zVc RX1 109 KX6_has 1 6 := ⟨gX6_has, rfl, ⟨w150, w151, w152⟩, (RX6, TX6, 7), rfl, rfl⟩
theorem lX1_113 : zFl RX1 113 6 3 2 (.array .int) true := ⟨(RX6, TX6, 7), rfl, Nat.le_of_ble_eq_true rfl, w153, rfl, pd_AI, rfl, rfl⟩
theorem lX1_116 : zFl RX1 116 6 1 2 (.array .int) true := ⟨(RX6, TX6, 7), rfl, Nat.le_of_ble_eq_true rfl, w154, rfl, pd_AI, rfl, rfl⟩
theorem vX1_119 : zVc RX1 119 KX1_fillFacts 4 1 := ⟨gX1_fillFacts, rfl, ⟨w155, w156, w157⟩, (RX1, TX1, 15), rfl, rfl⟩
theorem vX1_123 : zVc RX1 123 KX3_sumOf 2 3 := ⟨gX3_sumOf, rfl, ⟨w158, w159, w160⟩, (RX3, TX3, 7), rfl, rfl⟩
theorem vX1_127 : zmmin RX1 127 := ⟨w161, w162, w163, by rw [← zmmin_c]; exact w164⟩
theorem vX1_132 : zmmax RX1 132 := ⟨w165, w166, w163, by rw [← zmmax_c]; exact w167⟩
theorem vX1_135 : zVc RX1 135 KX3_hasKind 1 3 := ⟨gX3_hasKind, rfl, ⟨w168, w169, w170⟩, (RX3, TX3, 7), rfl, rfl⟩
theorem vX1_138 : zVc RX1 138 KX1_lapsesIn 3 1 := ⟨gX1_lapsesIn, rfl, ⟨w171, w172, w173⟩, (RX1, TX1, 15), rfl, rfl⟩
theorem vX1_142 : zSc RX1 142 KJ6_bitCount_0f7a4 1 := ⟨gJ6_bitCount_0f7a4, rfl, w175, w174⟩
theorem vX1_147 : zVc RX1 147 KX1_feels 5 1 := ⟨gX1_feels, rfl, ⟨w176, w177, w178⟩, (RX1, TX1, 15), rfl, rfl⟩
theorem vX1_151 : zVc RX1 151 KX1_byVotes 4 1 := ⟨gX1_byVotes, rfl, ⟨w179, w180, w181⟩, (RX1, TX1, 15), rfl, rfl⟩
theorem lX1_155 : zFl RX1 155 6 4 2 (.array .int) true := ⟨(RX6, TX6, 7), rfl, Nat.le_of_ble_eq_true rfl, w182, rfl, pd_AI, rfl, rfl⟩
theorem vX1_158 : zVc RX1 158 KX1_outcome 5 1 := ⟨gX1_outcome, rfl, ⟨w183, w184, w185⟩, (RX1, TX1, 15), rfl, rfl⟩
theorem lX1_161 : zFl RX1 161 6 0 0 .int false := ⟨(RX6, TX6, 7), rfl, Nat.le_of_ble_eq_true rfl, w186, rfl, pd_I, rfl, rfl⟩
theorem lX1_164 : zFl RX1 164 9 1 0 .int false := ⟨(RX9, TX9, 7), rfl, Nat.le_of_ble_eq_true rfl, w187, rfl, pd_I, rfl, rfl⟩
theorem vX1_167 : zVc RX1 167 KX1_outcomeIn 3 1 := ⟨gX1_outcomeIn, rfl, ⟨w188, w189, w190⟩, (RX1, TX1, 15), rfl, rfl⟩
theorem lX1_171 : zFl RX1 171 9 5 2 (.array .int) true := ⟨(RX9, TX9, 7), rfl, Nat.le_of_ble_eq_true rfl, w191, rfl, pd_AI, rfl, rfl⟩
theorem vX1_173 : zVc RX1 173 KX9_passSky 0 9 := ⟨gX9_passSky, rfl, ⟨w192, w193, w194⟩, (RX9, TX9, 7), rfl, rfl⟩
theorem lX1_176 : zFl RX1 176 6 6 2 (.array .int) true := ⟨(RX6, TX6, 7), rfl, Nat.le_of_ble_eq_true rfl, w195, rfl, pd_AI, rfl, rfl⟩
theorem lX1_179 : zFl RX1 179 6 5 2 (.array .int) true := ⟨(RX6, TX6, 7), rfl, Nat.le_of_ble_eq_true rfl, w196, rfl, pd_AI, rfl, rfl⟩
theorem lX1_182 : zFl RX1 182 9 0 0 .int false := ⟨(RX9, TX9, 7), rfl, Nat.le_of_ble_eq_true rfl, w197, rfl, pd_I, rfl, rfl⟩
theorem lX1_185 : zFl RX1 185 9 2 0 .int false := ⟨(RX9, TX9, 7), rfl, Nat.le_of_ble_eq_true rfl, w198, rfl, pd_I, rfl, rfl⟩
theorem vX1_188 : zVc RX1 188 KX5_addRow 5 5 := ⟨gX5_addRow, rfl, ⟨w199, w200, w201⟩, (RX5, TX5, 2), rfl, rfl⟩
theorem vX1_192 : zVc RX1 192 KX9_passHour 0 9 := ⟨gX9_passHour, rfl, ⟨w202, w203, w204⟩, (RX9, TX9, 7), rfl, rfl⟩
theorem oX2_3 : Cond.methodLink RX2 3 Lib.objectInit ∈ zTg := w205
theorem lX2_9 : zFl RX2 9 2 0 2 (.array .int) true := ⟨(RX2, TX2, 3), rfl, Nat.le_of_ble_eq_true rfl, w206, rfl, pd_AI, rfl, rfl⟩
theorem lX2_15 : zFl RX2 15 2 1 2 (.array .int) true := ⟨(RX2, TX2, 3), rfl, Nat.le_of_ble_eq_true rfl, w207, rfl, pd_AI, rfl, rfl⟩
theorem lX2_18 : zFl RX2 18 2 2 2 (.array .int) true := ⟨(RX2, TX2, 3), rfl, Nat.le_of_ble_eq_true rfl, w208, rfl, pd_AI, rfl, rfl⟩
theorem vX2_21 : zSc RX2 21 KJ7_fill_53178 2 := ⟨gJ7_fill_53178, rfl, w209, w103⟩
theorem lX2_27 : zFl RX2 27 1 1 0 .int false := ⟨(RX1, TX1, 15), rfl, Nat.le_of_ble_eq_true rfl, w210, rfl, pd_I, rfl, rfl⟩
theorem vX2_33 : zVc RX2 33 KX1_wettingSkies 1 1 := ⟨gX1_wettingSkies, rfl, ⟨w211, w212, w213⟩, (RX1, TX1, 15), rfl, rfl⟩
theorem vX2_37 : zNc RX2 37 KX11_bitOf 2 := ⟨gX11_bitOf, rfl, ⟨"DrizzleVote", by decide +kernel⟩, w146⟩
theorem vX2_41 : zVc RX2 41 KX2_waysTo 2 2 := ⟨gX2_waysTo, rfl, ⟨w214, w215, w216⟩, (RX2, TX2, 3), rfl, rfl⟩
theorem aX2_45 : zacp RX2 45 := ⟨w217, w130, w131, w132⟩
theorem oX3_1 : Cond.methodLink RX3 1 Lib.objectInit ∈ zTg := w218
theorem lX3_9 : zFl RX3 9 3 1 2 (.array .int) true := ⟨(RX3, TX3, 7), rfl, Nat.le_of_ble_eq_true rfl, w219, rfl, pd_AI, rfl, rfl⟩
theorem lX3_13 : zFl RX3 13 3 2 2 (.array .int) true := ⟨(RX3, TX3, 7), rfl, Nat.le_of_ble_eq_true rfl, w220, rfl, pd_AI, rfl, rfl⟩
theorem lX3_16 : zFl RX3 16 3 3 2 (.array .int) true := ⟨(RX3, TX3, 7), rfl, Nat.le_of_ble_eq_true rfl, w221, rfl, pd_AI, rfl, rfl⟩
theorem lX3_19 : zFl RX3 19 3 5 2 (.array .int) true := ⟨(RX3, TX3, 7), rfl, Nat.le_of_ble_eq_true rfl, w222, rfl, pd_AI, rfl, rfl⟩
theorem lX3_22 : zFl RX3 22 3 6 2 (.array .int) true := ⟨(RX3, TX3, 7), rfl, Nat.le_of_ble_eq_true rfl, w223, rfl, pd_AI, rfl, rfl⟩
theorem lX3_25 : zFl RX3 25 3 4 0 .int false := ⟨(RX3, TX3, 7), rfl, Nat.le_of_ble_eq_true rfl, w224, rfl, pd_I, rfl, rfl⟩
theorem lX3_29 : zFl RX3 29 3 0 0 .int false := ⟨(RX3, TX3, 7), rfl, Nat.le_of_ble_eq_true rfl, w225, rfl, pd_I, rfl, rfl⟩
theorem vX3_32 : zVc RX3 32 KX3_holds 3 3 := ⟨gX3_holds, rfl, ⟨w226, w227, w228⟩, (RX3, TX3, 7), rfl, rfl⟩
theorem vX3_36 : zSc RX3 36 KX3_join 3 := ⟨gX3_join, rfl, w230, w229⟩
theorem oX4_3 : Cond.methodLink RX4 3 Lib.objectInit ∈ zTg := w231
theorem nX4_9 : Cond.classLink RX4 9 RX10 ∈ zTg ∧ Cond.instantiable RX10 6 ∈ zTg ∧ Cond.initialized RX10 ∈ zTg := ⟨w232, w2, w3⟩
theorem vX4_11 : zIc RX4 11 KX10_init 0 := ⟨gX10_init, rfl, ⟨w233, w5, rfl, rfl⟩⟩
theorem lX4_12 : zFl RX4 12 4 0 2 (.object "DrizzleVote$Words") true := ⟨(RX4, TX4, 2), rfl, Nat.le_of_ble_eq_true rfl, w234, rfl, pd_LDrizzleVote_Words_, rfl, rfl⟩
theorem nX4_18 : Cond.classLink RX4 18 RX3 ∈ zTg ∧ Cond.instantiable RX3 7 ∈ zTg ∧ Cond.initialized RX3 ∈ zTg := ⟨w235, w236, w237⟩
theorem vX4_20 : zIc RX4 20 KX3_init 1 := ⟨gX3_init, rfl, ⟨w238, w239, rfl, rfl⟩⟩
theorem lX4_23 : zFl RX4 23 4 1 2 (.object "DrizzleVote$Law") false := ⟨(RX4, TX4, 2), rfl, Nat.le_of_ble_eq_true rfl, w240, rfl, pd_LDrizzleVote_Law_, rfl, rfl⟩
theorem vX4_27 : zVc RX4 27 KX10_open 2 10 := ⟨gX10_open, rfl, ⟨w241, w17, w18⟩, (RX10, TX10, 6), rfl, rfl⟩
theorem vX4_31 : zVc RX4 31 KX10_atEnd 0 10 := ⟨gX10_atEnd, rfl, ⟨w242, w20, w21⟩, (RX10, TX10, 6), rfl, rfl⟩
theorem vX4_35 : zVc RX4 35 KX4_takeKind 0 4 := ⟨gX4_takeKind, rfl, ⟨w243, w244, w245⟩, (RX4, TX4, 2), rfl, rfl⟩
theorem vX4_39 : zVc RX4 39 KX10_takeNumber 2 10 := ⟨gX10_takeNumber, rfl, ⟨w246, w64, w65⟩, (RX10, TX10, 6), rfl, rfl⟩
theorem vX4_45 : zVc RX4 45 KX10_takeWord 1 10 := ⟨gX10_takeWord, rfl, ⟨w247, w44, w45⟩, (RX10, TX10, 6), rfl, rfl⟩
theorem vX4_49 : zVc RX4 49 KX4_readCondition 1 4 := ⟨gX4_readCondition, rfl, ⟨w248, w249, w250⟩, (RX4, TX4, 2), rfl, rfl⟩
theorem vX4_53 : zVc RX4 53 KX3_addLine 2 3 := ⟨gX3_addLine, rfl, ⟨w251, w252, w253⟩, (RX3, TX3, 7), rfl, rfl⟩
theorem vX4_57 : zVc RX4 57 KX10_needSign 1 10 := ⟨gX10_needSign, rfl, ⟨w254, w26, w27⟩, (RX10, TX10, 6), rfl, rfl⟩
theorem vX4_61 : zVc RX4 61 KX10_fail 0 10 := ⟨gX10_fail, rfl, ⟨w255, w29, w30⟩, (RX10, TX10, 6), rfl, rfl⟩
theorem vX4_70 : zVc RX4 70 KX10_needWord 1 10 := ⟨gX10_needWord, rfl, ⟨w256, w75, w76⟩, (RX10, TX10, 6), rfl, rfl⟩
theorem vX4_73 : zVc RX4 73 KX4_readAtom 1 4 := ⟨gX4_readAtom, rfl, ⟨w257, w258, w259⟩, (RX4, TX4, 2), rfl, rfl⟩
theorem vX4_76 : zVc RX4 76 KX3_addStep 1 3 := ⟨gX3_addStep, rfl, ⟨w260, w261, w262⟩, (RX3, TX3, 7), rfl, rfl⟩
theorem vX4_85 : zVc RX4 85 KX10_atWord 1 10 := ⟨gX10_atWord, rfl, ⟨w263, w32, w33⟩, (RX10, TX10, 6), rfl, rfl⟩
theorem vX4_88 : zVc RX4 88 KX10_atSign 1 10 := ⟨gX10_atSign, rfl, ⟨w264, w265, w266⟩, (RX10, TX10, 6), rfl, rfl⟩
theorem vX4_91 : zVc RX4 91 KX10_takeSign 1 10 := ⟨gX10_takeSign, rfl, ⟨w267, w268, w269⟩, (RX10, TX10, 6), rfl, rfl⟩
theorem vX4_96 : zVc RX4 96 KX4_takeFact 2 4 := ⟨gX4_takeFact, rfl, ⟨w270, w271, w272⟩, (RX4, TX4, 2), rfl, rfl⟩
theorem vX4_104 : zVc RX4 104 KX4_readComparison 0 4 := ⟨gX4_readComparison, rfl, ⟨w273, w274, w275⟩, (RX4, TX4, 2), rfl, rfl⟩
theorem vX4_107 : zVc RX4 107 KX4_readPart 0 4 := ⟨gX4_readPart, rfl, ⟨w276, w277, w278⟩, (RX4, TX4, 2), rfl, rfl⟩
theorem vX4_110 : zVc RX4 110 KX10_atDigits 0 10 := ⟨gX10_atDigits, rfl, ⟨w279, w280, w281⟩, (RX10, TX10, 6), rfl, rfl⟩
theorem vX4_127 : zVc RX4 127 KX10_advance 0 10 := ⟨gX10_advance, rfl, ⟨w282, w72, w73⟩, (RX10, TX10, 6), rfl, rfl⟩
theorem oX5_3 : Cond.methodLink RX5 3 Lib.objectInit ∈ zTg := w283
theorem lX5_11 : zFl RX5 11 5 1 2 (.array .int) true := ⟨(RX5, TX5, 2), rfl, Nat.le_of_ble_eq_true rfl, w284, rfl, pd_AI, rfl, rfl⟩
theorem lX5_15 : zFl RX5 15 5 0 0 .int false := ⟨(RX5, TX5, 2), rfl, Nat.le_of_ble_eq_true rfl, w285, rfl, pd_I, rfl, rfl⟩
theorem aX5_19 : zacp RX5 19 := ⟨w286, w130, w131, w132⟩
theorem oX6_3 : Cond.methodLink RX6 3 Lib.objectInit ∈ zTg := w287
theorem lX6_9 : zFl RX6 9 6 1 2 (.array .int) true := ⟨(RX6, TX6, 7), rfl, Nat.le_of_ble_eq_true rfl, w288, rfl, pd_AI, rfl, rfl⟩
theorem lX6_15 : zFl RX6 15 6 2 2 (.array .int) true := ⟨(RX6, TX6, 7), rfl, Nat.le_of_ble_eq_true rfl, w289, rfl, pd_AI, rfl, rfl⟩
theorem lX6_18 : zFl RX6 18 6 3 2 (.array .int) true := ⟨(RX6, TX6, 7), rfl, Nat.le_of_ble_eq_true rfl, w290, rfl, pd_AI, rfl, rfl⟩
theorem lX6_21 : zFl RX6 21 6 4 2 (.array .int) true := ⟨(RX6, TX6, 7), rfl, Nat.le_of_ble_eq_true rfl, w291, rfl, pd_AI, rfl, rfl⟩
theorem lX6_24 : zFl RX6 24 6 5 2 (.array .int) true := ⟨(RX6, TX6, 7), rfl, Nat.le_of_ble_eq_true rfl, w292, rfl, pd_AI, rfl, rfl⟩
theorem lX6_27 : zFl RX6 27 6 6 2 (.array .int) true := ⟨(RX6, TX6, 7), rfl, Nat.le_of_ble_eq_true rfl, w293, rfl, pd_AI, rfl, rfl⟩
theorem vX6_30 : zSc RX6 30 KJ7_fill_53178 2 := ⟨gJ7_fill_53178, rfl, w294, w103⟩
theorem lX6_36 : zFl RX6 36 6 0 0 .int false := ⟨(RX6, TX6, 7), rfl, Nat.le_of_ble_eq_true rfl, w295, rfl, pd_I, rfl, rfl⟩
theorem aX6_40 : zacp RX6 40 := ⟨w296, w130, w131, w132⟩
theorem vX6_46 : zVc RX6 46 KX6_hourOf 1 6 := ⟨gX6_hourOf, rfl, ⟨w297, w95, w96⟩, (RX6, TX6, 7), rfl, rfl⟩
theorem vX6_50 : zNc RX6 50 KX11_bitOf 2 := ⟨gX11_bitOf, rfl, ⟨"DrizzleVote", by decide +kernel⟩, w146⟩
theorem vX6_54 : zVc RX6 54 KX6_thoseLiked 1 6 := ⟨gX6_thoseLiked, rfl, ⟨w298, w299, w300⟩, (RX6, TX6, 7), rfl, rfl⟩
theorem vX6_57 : zSc RX6 57 KJ6_bitCount_0f7a4 1 := ⟨gJ6_bitCount_0f7a4, rfl, w301, w174⟩
theorem oX7_3 : Cond.methodLink RX7 3 Lib.objectInit ∈ zTg := w302
theorem lX7_9 : zFl RX7 9 7 0 2 (.array .int) true := ⟨(RX7, TX7, 4), rfl, Nat.le_of_ble_eq_true rfl, w303, rfl, pd_AI, rfl, rfl⟩
theorem lX7_15 : zFl RX7 15 7 1 2 (.array .int) true := ⟨(RX7, TX7, 4), rfl, Nat.le_of_ble_eq_true rfl, w304, rfl, pd_AI, rfl, rfl⟩
theorem lX7_18 : zFl RX7 18 1 12 2 (.object "DrizzleVote$Motions") true := ⟨(RX1, TX1, 15), rfl, Nat.le_of_ble_eq_true rfl, w305, rfl, pd_LDrizzleVote_Motions_, rfl, rfl⟩
theorem vX7_24 : zVc RX7 24 KX6_inState 1 6 := ⟨gX6_inState, rfl, ⟨w306, w307, w308⟩, (RX6, TX6, 7), rfl, rfl⟩
theorem lX7_30 : zFl RX7 30 7 2 0 .int false := ⟨(RX7, TX7, 4), rfl, Nat.le_of_ble_eq_true rfl, w309, rfl, pd_I, rfl, rfl⟩
theorem lX7_34 : zFl RX7 34 1 11 2 (.object "DrizzleVote$Weather") true := ⟨(RX1, TX1, 15), rfl, Nat.le_of_ble_eq_true rfl, w310, rfl, pd_LDrizzleVote_Weather_, rfl, rfl⟩
theorem lX7_38 : zFl RX7 38 9 1 0 .int false := ⟨(RX9, TX9, 7), rfl, Nat.le_of_ble_eq_true rfl, w311, rfl, pd_I, rfl, rfl⟩
theorem lX7_43 : zFl RX7 43 7 3 0 .int false := ⟨(RX7, TX7, 4), rfl, Nat.le_of_ble_eq_true rfl, w312, rfl, pd_I, rfl, rfl⟩
theorem vX7_46 : zVc RX7 46 KX9_startChances 0 9 := ⟨gX9_startChances, rfl, ⟨w313, w314, w315⟩, (RX9, TX9, 7), rfl, rfl⟩
theorem vX7_49 : zVc RX7 49 KX9_spreadHour 0 9 := ⟨gX9_spreadHour, rfl, ⟨w316, w317, w318⟩, (RX9, TX9, 7), rfl, rfl⟩
theorem lX7_52 : zFl RX7 52 6 0 0 .int false := ⟨(RX6, TX6, 7), rfl, Nat.le_of_ble_eq_true rfl, w319, rfl, pd_I, rfl, rfl⟩
theorem vX7_55 : zNc RX7 55 KX11_bitOf 2 := ⟨gX11_bitOf, rfl, ⟨"DrizzleVote", by decide +kernel⟩, w146⟩
theorem vX7_59 : zVc RX7 59 KX1_carriedThen 2 1 := ⟨gX1_carriedThen, rfl, ⟨w320, w321, w322⟩, (RX1, TX1, 15), rfl, rfl⟩
theorem lX7_62 : zFl RX7 62 6 3 2 (.array .int) true := ⟨(RX6, TX6, 7), rfl, Nat.le_of_ble_eq_true rfl, w323, rfl, pd_AI, rfl, rfl⟩
theorem vX7_65 : zSc RX7 65 KJ7_fill_53178 2 := ⟨gJ7_fill_53178, rfl, w324, w103⟩
theorem vX7_71 : zSc RX7 71 KJ6_bitCount_0f7a4 1 := ⟨gJ6_bitCount_0f7a4, rfl, w325, w174⟩
theorem vX7_76 : zVc RX7 76 KX7_mostFrom 2 7 := ⟨gX7_mostFrom, rfl, ⟨w326, w327, w328⟩, (RX7, TX7, 4), rfl, rfl⟩
theorem vX7_79 : zVc RX7 79 KX7_isFree 2 7 := ⟨gX7_isFree, rfl, ⟨w329, w330, w331⟩, (RX7, TX7, 4), rfl, rfl⟩
theorem vX7_83 : zVc RX7 83 KX7_withMotion 3 7 := ⟨gX7_withMotion, rfl, ⟨w332, w333, w334⟩, (RX7, TX7, 4), rfl, rfl⟩
theorem vX7_87 : zmmax RX7 87 := ⟨w335, w166, w163, by rw [← zmmax_c]; exact w167⟩
theorem vX7_92 : zVc RX7 92 KX7_firstBest 2 7 := ⟨gX7_firstBest, rfl, ⟨w336, w337, w338⟩, (RX7, TX7, 4), rfl, rfl⟩
theorem lX7_95 : zFl RX7 95 1 1 0 .int false := ⟨(RX1, TX1, 15), rfl, Nat.le_of_ble_eq_true rfl, w339, rfl, pd_I, rfl, rfl⟩
theorem vX7_98 : zVc RX7 98 KX7_withPlace 4 7 := ⟨gX7_withPlace, rfl, ⟨w340, w341, w342⟩, (RX7, TX7, 4), rfl, rfl⟩
theorem lX7_102 : zFl RX7 102 1 6 2 (.array .int) true := ⟨(RX1, TX1, 15), rfl, Nat.le_of_ble_eq_true rfl, w343, rfl, pd_AI, rfl, rfl⟩
theorem lX7_105 : zFl RX7 105 1 3 2 (.array .int) true := ⟨(RX1, TX1, 15), rfl, Nat.le_of_ble_eq_true rfl, w344, rfl, pd_AI, rfl, rfl⟩
theorem vX7_108 : zVc RX7 108 KX7_firstPlace 3 7 := ⟨gX7_firstPlace, rfl, ⟨w345, w346, w347⟩, (RX7, TX7, 4), rfl, rfl⟩
theorem oX8_3 : Cond.methodLink RX8 3 Lib.objectInit ∈ zTg := w348
theorem lX8_9 : zFl RX8 9 8 1 2 (.array .int) true := ⟨(RX8, TX8, 4), rfl, Nat.le_of_ble_eq_true rfl, w349, rfl, pd_AI, rfl, rfl⟩
theorem lX8_15 : zFl RX8 15 8 3 2 (.array .int) true := ⟨(RX8, TX8, 4), rfl, Nat.le_of_ble_eq_true rfl, w350, rfl, pd_AI, rfl, rfl⟩
theorem lX8_18 : zFl RX8 18 1 5 0 .int false := ⟨(RX1, TX1, 15), rfl, Nat.le_of_ble_eq_true rfl, w351, rfl, pd_I, rfl, rfl⟩
theorem lX8_24 : zFl RX8 24 8 0 0 .int false := ⟨(RX8, TX8, 4), rfl, Nat.le_of_ble_eq_true rfl, w352, rfl, pd_I, rfl, rfl⟩
theorem vX8_27 : zVc RX8 27 KX1_seatsOf 1 1 := ⟨gX1_seatsOf, rfl, ⟨w353, w148, w149⟩, (RX1, TX1, 15), rfl, rfl⟩
theorem lX8_30 : zFl RX8 30 1 9 0 .int false := ⟨(RX1, TX1, 15), rfl, Nat.le_of_ble_eq_true rfl, w354, rfl, pd_I, rfl, rfl⟩
theorem lX8_33 : zFl RX8 33 8 2 0 .int false := ⟨(RX8, TX8, 4), rfl, Nat.le_of_ble_eq_true rfl, w355, rfl, pd_I, rfl, rfl⟩
theorem lX8_36 : zFl RX8 36 1 1 0 .int false := ⟨(RX1, TX1, 15), rfl, Nat.le_of_ble_eq_true rfl, w356, rfl, pd_I, rfl, rfl⟩
theorem lX8_39 : zFl RX8 39 1 3 2 (.array .int) true := ⟨(RX1, TX1, 15), rfl, Nat.le_of_ble_eq_true rfl, w357, rfl, pd_AI, rfl, rfl⟩
theorem vX8_42 : zNc RX8 42 KX11_bitOf 2 := ⟨gX11_bitOf, rfl, ⟨"DrizzleVote", by decide +kernel⟩, w146⟩
theorem vX8_46 : zVc RX8 46 KX8_seatsIn 1 8 := ⟨gX8_seatsIn, rfl, ⟨w358, w359, w360⟩, (RX8, TX8, 4), rfl, rfl⟩
theorem vX8_49 : zSc RX8 49 KJ7_fill_53178 2 := ⟨gJ7_fill_53178, rfl, w361, w103⟩
theorem vX8_55 : zVc RX8 55 KX8_isWinning 1 8 := ⟨gX8_isWinning, rfl, ⟨w362, w363, w364⟩, (RX8, TX8, 4), rfl, rfl⟩
theorem vX8_59 : zVc RX8 59 KX8_addSwings 1 8 := ⟨gX8_addSwings, rfl, ⟨w365, w366, w367⟩, (RX8, TX8, 4), rfl, rfl⟩
theorem oX9_3 : Cond.methodLink RX9 3 Lib.objectInit ∈ zTg := w368
theorem lX9_9 : zFl RX9 9 9 0 0 .int false := ⟨(RX9, TX9, 7), rfl, Nat.le_of_ble_eq_true rfl, w369, rfl, pd_I, rfl, rfl⟩
theorem lX9_15 : zFl RX9 15 9 3 0 .int false := ⟨(RX9, TX9, 7), rfl, Nat.le_of_ble_eq_true rfl, w370, rfl, pd_I, rfl, rfl⟩
theorem lX9_18 : zFl RX9 18 9 4 2 (.array .int) true := ⟨(RX9, TX9, 7), rfl, Nat.le_of_ble_eq_true rfl, w371, rfl, pd_AI, rfl, rfl⟩
theorem vX9_22 : zSc RX9 22 KJ7_fill_53178 2 := ⟨gJ7_fill_53178, rfl, w372, w103⟩
theorem lX9_28 : zFl RX9 28 9 5 2 (.array .int) true := ⟨(RX9, TX9, 7), rfl, Nat.le_of_ble_eq_true rfl, w373, rfl, pd_AI, rfl, rfl⟩
theorem lX9_31 : zFl RX9 31 9 6 2 (.array .int) true := ⟨(RX9, TX9, 7), rfl, Nat.le_of_ble_eq_true rfl, w374, rfl, pd_AI, rfl, rfl⟩
theorem lX9_34 : zFl RX9 34 9 1 0 .int false := ⟨(RX9, TX9, 7), rfl, Nat.le_of_ble_eq_true rfl, w375, rfl, pd_I, rfl, rfl⟩
theorem lX9_37 : zFl RX9 37 9 2 0 .int false := ⟨(RX9, TX9, 7), rfl, Nat.le_of_ble_eq_true rfl, w376, rfl, pd_I, rfl, rfl⟩
theorem aX9_40 : zacp RX9 40 := ⟨w377, w130, w131, w132⟩
theorem kX9_46 : Cond.constant RX9 46 (Int32.ofInt 1103515245) ∈ zTg := w378
theorem vX9_47 : zVc RX9 47 KX9_sumBehind 1 9 := ⟨gX9_sumBehind, rfl, ⟨w379, w380, w381⟩, (RX9, TX9, 7), rfl, rfl⟩
theorem vX9_51 : zmmin RX9 51 := ⟨w382, w162, w163, by rw [← zmmin_c]; exact w164⟩
theorem vX9_57 : zVc RX9 57 KX9_give 1 9 := ⟨gX9_give, rfl, ⟨w383, w384, w385⟩, (RX9, TX9, 7), rfl, rfl⟩
theorem vX9_61 : zVc RX9 61 KX9_startChances 0 9 := ⟨gX9_startChances, rfl, ⟨w386, w314, w315⟩, (RX9, TX9, 7), rfl, rfl⟩
theorem vX9_64 : zVc RX9 64 KX9_spreadHour 0 9 := ⟨gX9_spreadHour, rfl, ⟨w387, w317, w318⟩, (RX9, TX9, 7), rfl, rfl⟩
theorem oX10_3 : Cond.methodLink RX10 3 Lib.objectInit ∈ zTg := w388
theorem lX10_9 : zFl RX10 9 10 0 0 .int false := ⟨(RX10, TX10, 6), rfl, Nat.le_of_ble_eq_true rfl, w389, rfl, pd_I, rfl, rfl⟩
theorem lX10_15 : zFl RX10 15 10 1 2 (.array .int) false := ⟨(RX10, TX10, 6), rfl, Nat.le_of_ble_eq_true rfl, w390, rfl, pd_AI, rfl, rfl⟩
theorem vX10_19 : zmmin RX10 19 := ⟨w391, w162, w163, by rw [← zmmin_c]; exact w164⟩
theorem vX10_25 : zmmax RX10 25 := ⟨w392, w166, w163, by rw [← zmmax_c]; exact w167⟩
theorem lX10_28 : zFl RX10 28 10 2 0 .int false := ⟨(RX10, TX10, 6), rfl, Nat.le_of_ble_eq_true rfl, w393, rfl, pd_I, rfl, rfl⟩
theorem lX10_31 : zFl RX10 31 10 4 0 .int false := ⟨(RX10, TX10, 6), rfl, Nat.le_of_ble_eq_true rfl, w394, rfl, pd_I, rfl, rfl⟩
theorem vX10_34 : zVc RX10 34 KX10_advance 0 10 := ⟨gX10_advance, rfl, ⟨w395, w72, w73⟩, (RX10, TX10, 6), rfl, rfl⟩
theorem lX10_37 : zFl RX10 37 10 3 0 .int false := ⟨(RX10, TX10, 6), rfl, Nat.le_of_ble_eq_true rfl, w396, rfl, pd_I, rfl, rfl⟩
theorem lX10_40 : zFl RX10 40 10 5 0 .int false := ⟨(RX10, TX10, 6), rfl, Nat.le_of_ble_eq_true rfl, w397, rfl, pd_I, rfl, rfl⟩
theorem vX10_43 : zMl RX10 43 KJ0_length_8abf5 := ⟨w398, w399, w400⟩
theorem vX10_48 : zMl RX10 48 KJ0_charAt_5068e := ⟨w401, w402, w403⟩
theorem vX10_52 : zVc RX10 52 KX10_atWord 1 10 := ⟨gX10_atWord, rfl, ⟨w404, w32, w33⟩, (RX10, TX10, 6), rfl, rfl⟩
theorem vX10_56 : zVc RX10 56 KX10_takeWord 1 10 := ⟨gX10_takeWord, rfl, ⟨w405, w44, w45⟩, (RX10, TX10, 6), rfl, rfl⟩
theorem vX10_59 : zVc RX10 59 KX10_fail 0 10 := ⟨gX10_fail, rfl, ⟨w406, w29, w30⟩, (RX10, TX10, 6), rfl, rfl⟩
theorem vX10_63 : zVc RX10 63 KX10_atSign 1 10 := ⟨gX10_atSign, rfl, ⟨w407, w265, w266⟩, (RX10, TX10, 6), rfl, rfl⟩
theorem vX10_67 : zVc RX10 67 KX10_takeSign 1 10 := ⟨gX10_takeSign, rfl, ⟨w408, w268, w269⟩, (RX10, TX10, 6), rfl, rfl⟩
theorem vX10_70 : zVc RX10 70 KX10_figure 1 10 := ⟨gX10_figure, rfl, ⟨w409, w90, w91⟩, (RX10, TX10, 6), rfl, rfl⟩
theorem oX11_1 : Cond.methodLink RX11 1 Lib.objectInit ∈ zTg := w410
theorem lX11_9 : zFl RX11 9 11 0 2 (.array .int) true := ⟨(RX11, TX11, 15), rfl, Nat.le_of_ble_eq_true rfl, w411, rfl, pd_AI, rfl, rfl⟩
theorem lX11_13 : zFl RX11 13 11 2 0 .int false := ⟨(RX11, TX11, 15), rfl, Nat.le_of_ble_eq_true rfl, w412, rfl, pd_I, rfl, rfl⟩
theorem nX11_17 : Cond.classLink RX11 17 RX1 ∈ zTg ∧ Cond.instantiable RX1 15 ∈ zTg ∧ Cond.initialized RX1 ∈ zTg := ⟨w413, w8, w9⟩
theorem vX11_19 : zIc RX11 19 KX1_init 0 := ⟨gX1_init, rfl, ⟨w414, w11, rfl, rfl⟩⟩
theorem lX11_20 : zFl RX11 20 11 3 2 (.object "DrizzleVote$Council") true := ⟨(RX11, TX11, 15), rfl, Nat.le_of_ble_eq_true rfl, w415, rfl, pd_LDrizzleVote_Council_, rfl, rfl⟩
theorem lX11_24 : zFl RX11 24 11 4 2 (.object "DrizzleVote$Council") true := ⟨(RX11, TX11, 15), rfl, Nat.le_of_ble_eq_true rfl, w416, rfl, pd_LDrizzleVote_Council_, rfl, rfl⟩
theorem lX11_27 : zFl RX11 27 11 5 2 (.object "DrizzleVote$Council") true := ⟨(RX11, TX11, 15), rfl, Nat.le_of_ble_eq_true rfl, w417, rfl, pd_LDrizzleVote_Council_, rfl, rfl⟩
theorem lX11_30 : zFl RX11 30 11 7 2 (.array (.object "DrizzleVote$Council")) true := ⟨(RX11, TX11, 15), rfl, Nat.le_of_ble_eq_true rfl, w418, rfl, pd_ALDrizzleVote_Council_, rfl, rfl⟩
theorem nX11_34 : Cond.classLink RX11 34 RX0 ∈ zTg ∧ Cond.instantiable RX0 2 ∈ zTg ∧ Cond.initialized RX0 ∈ zTg := ⟨w419, w420, w421⟩
theorem vX11_36 : zIc RX11 36 KX0_init 0 := ⟨gX0_init, rfl, ⟨w422, w423, rfl, rfl⟩⟩
theorem lX11_37 : zFl RX11 37 11 10 2 (.object "DrizzleVote$CoastText") true := ⟨(RX11, TX11, 15), rfl, Nat.le_of_ble_eq_true rfl, w424, rfl, pd_LDrizzleVote_CoastText_, rfl, rfl⟩
theorem nX11_41 : Cond.classLink RX11 41 RX4 ∈ zTg ∧ Cond.instantiable RX4 2 ∈ zTg ∧ Cond.initialized RX4 ∈ zTg := ⟨w425, w426, w427⟩
theorem vX11_43 : zIc RX11 43 KX4_init 0 := ⟨gX4_init, rfl, ⟨w428, w429, rfl, rfl⟩⟩
theorem lX11_44 : zFl RX11 44 11 11 2 (.object "DrizzleVote$LawText") true := ⟨(RX11, TX11, 15), rfl, Nat.le_of_ble_eq_true rfl, w430, rfl, pd_LDrizzleVote_LawText_, rfl, rfl⟩
theorem nX11_48 : Cond.classLink RX11 48 RX2 ∈ zTg ∧ Cond.instantiable RX2 3 ∈ zTg ∧ Cond.initialized RX2 ∈ zTg := ⟨w431, w432, w433⟩
theorem vX11_50 : zIc RX11 50 KX2_init 0 := ⟨gX2_init, rfl, ⟨w434, w435, rfl, rfl⟩⟩
theorem lX11_51 : zFl RX11 51 11 12 2 (.object "DrizzleVote$Cuffs") true := ⟨(RX11, TX11, 15), rfl, Nat.le_of_ble_eq_true rfl, w436, rfl, pd_LDrizzleVote_Cuffs_, rfl, rfl⟩
theorem nX11_55 : Cond.classLink RX11 55 RX8 ∈ zTg ∧ Cond.instantiable RX8 4 ∈ zTg ∧ Cond.initialized RX8 ∈ zTg := ⟨w437, w438, w439⟩
theorem vX11_57 : zIc RX11 57 KX8_init 0 := ⟨gX8_init, rfl, ⟨w440, w441, rfl, rfl⟩⟩
theorem lX11_58 : zFl RX11 58 11 13 2 (.object "DrizzleVote$Sides") true := ⟨(RX11, TX11, 15), rfl, Nat.le_of_ble_eq_true rfl, w442, rfl, pd_LDrizzleVote_Sides_, rfl, rfl⟩
theorem nX11_62 : Cond.classLink RX11 62 RX7 ∈ zTg ∧ Cond.instantiable RX7 4 ∈ zTg ∧ Cond.initialized RX7 ∈ zTg := ⟨w443, w444, w445⟩
theorem vX11_64 : zIc RX11 64 KX7_init 0 := ⟨gX7_init, rfl, ⟨w446, w447, rfl, rfl⟩⟩
theorem lX11_65 : zFl RX11 65 11 14 2 (.object "DrizzleVote$Planner") true := ⟨(RX11, TX11, 15), rfl, Nat.le_of_ble_eq_true rfl, w448, rfl, pd_LDrizzleVote_Planner_, rfl, rfl⟩
theorem lX11_69 : zFl RX11 69 11 1 0 .int false := ⟨(RX11, TX11, 15), rfl, Nat.le_of_ble_eq_true rfl, w449, rfl, pd_I, rfl, rfl⟩
theorem vX11_72 : zVc RX11 72 KX11_putNumber 1 11 := ⟨gX11_putNumber, rfl, ⟨w450, w451, w452⟩, (RX11, TX11, 15), rfl, rfl⟩
theorem vX11_76 : zVc RX11 76 KX0_readText 3 0 := ⟨gX0_readText, rfl, ⟨w453, w454, w455⟩, (RX0, TX0, 2), rfl, rfl⟩
theorem lX11_80 : zFl RX11 80 0 0 2 (.object "DrizzleVote$Words") true := ⟨(RX0, TX0, 2), rfl, Nat.le_of_ble_eq_true rfl, w456, rfl, pd_LDrizzleVote_Words_, rfl, rfl⟩
theorem lX11_84 : zFl RX11 84 10 0 0 .int false := ⟨(RX10, TX10, 6), rfl, Nat.le_of_ble_eq_true rfl, w457, rfl, pd_I, rfl, rfl⟩
theorem lX11_96 : zFl RX11 96 1 0 0 .int false := ⟨(RX1, TX1, 15), rfl, Nat.le_of_ble_eq_true rfl, w458, rfl, pd_I, rfl, rfl⟩
theorem lX11_104 : zFl RX11 104 0 1 2 (.object "DrizzleVote$Council") true := ⟨(RX0, TX0, 2), rfl, Nat.le_of_ble_eq_true rfl, w459, rfl, pd_LDrizzleVote_Council_, rfl, rfl⟩
theorem vX11_107 : zVc RX11 107 KX1_takeAll 1 1 := ⟨gX1_takeAll, rfl, ⟨w460, w14, w15⟩, (RX1, TX1, 15), rfl, rfl⟩
theorem vX11_111 : zVc RX11 111 KX11_forgetActs 0 11 := ⟨gX11_forgetActs, rfl, ⟨w461, w462, w463⟩, (RX11, TX11, 15), rfl, rfl⟩
theorem vX11_114 : zVc RX11 114 KX4_readText 2 4 := ⟨gX4_readText, rfl, ⟨w464, w465, w466⟩, (RX4, TX4, 2), rfl, rfl⟩
theorem lX11_117 : zFl RX11 117 4 0 2 (.object "DrizzleVote$Words") true := ⟨(RX4, TX4, 2), rfl, Nat.le_of_ble_eq_true rfl, w467, rfl, pd_LDrizzleVote_Words_, rfl, rfl⟩
theorem lX11_120 : zFl RX11 120 4 1 2 (.object "DrizzleVote$Law") false := ⟨(RX4, TX4, 2), rfl, Nat.le_of_ble_eq_true rfl, w468, rfl, pd_LDrizzleVote_Law_, rfl, rfl⟩
theorem lX11_123 : zFl RX11 123 1 10 2 (.object "DrizzleVote$Law") false := ⟨(RX1, TX1, 15), rfl, Nat.le_of_ble_eq_true rfl, w469, rfl, pd_LDrizzleVote_Law_, rfl, rfl⟩
theorem lX11_126 : zFl RX11 126 3 0 0 .int false := ⟨(RX3, TX3, 7), rfl, Nat.le_of_ble_eq_true rfl, w470, rfl, pd_I, rfl, rfl⟩
theorem vX11_131 : zVc RX11 131 KX11_needMember 1 11 := ⟨gX11_needMember, rfl, ⟨w471, w472, w473⟩, (RX11, TX11, 15), rfl, rfl⟩
theorem lX11_134 : zFl RX11 134 1 2 2 (.array .int) true := ⟨(RX1, TX1, 15), rfl, Nat.le_of_ble_eq_true rfl, w474, rfl, pd_AI, rfl, rfl⟩
theorem lX11_137 : zFl RX11 137 1 3 2 (.array .int) true := ⟨(RX1, TX1, 15), rfl, Nat.le_of_ble_eq_true rfl, w475, rfl, pd_AI, rfl, rfl⟩
theorem lX11_140 : zFl RX11 140 1 4 0 .int false := ⟨(RX1, TX1, 15), rfl, Nat.le_of_ble_eq_true rfl, w476, rfl, pd_I, rfl, rfl⟩
theorem vX11_143 : zSc RX11 143 KX11_bitOf 2 := ⟨gX11_bitOf, rfl, w477, w146⟩
theorem lX11_147 : zFl RX11 147 1 5 0 .int false := ⟨(RX1, TX1, 15), rfl, Nat.le_of_ble_eq_true rfl, w478, rfl, pd_I, rfl, rfl⟩
theorem vX11_150 : zVc RX11 150 KX1_shareOf 1 1 := ⟨gX1_shareOf, rfl, ⟨w479, w480, w481⟩, (RX1, TX1, 15), rfl, rfl⟩
theorem lX11_154 : zFl RX11 154 1 12 2 (.object "DrizzleVote$Motions") true := ⟨(RX1, TX1, 15), rfl, Nat.le_of_ble_eq_true rfl, w482, rfl, pd_LDrizzleVote_Motions_, rfl, rfl⟩
theorem vX11_158 : zVc RX11 158 KX6_thoseLiked 1 6 := ⟨gX6_thoseLiked, rfl, ⟨w483, w299, w300⟩, (RX6, TX6, 7), rfl, rfl⟩
theorem vX11_168 : zVc RX11 168 KX11_needMotion 1 11 := ⟨gX11_needMotion, rfl, ⟨w484, w485, w486⟩, (RX11, TX11, 15), rfl, rfl⟩
theorem lX11_171 : zFl RX11 171 6 1 2 (.array .int) true := ⟨(RX6, TX6, 7), rfl, Nat.le_of_ble_eq_true rfl, w487, rfl, pd_AI, rfl, rfl⟩
theorem lX11_174 : zFl RX11 174 6 2 2 (.array .int) true := ⟨(RX6, TX6, 7), rfl, Nat.le_of_ble_eq_true rfl, w488, rfl, pd_AI, rfl, rfl⟩
theorem lX11_177 : zFl RX11 177 6 3 2 (.array .int) true := ⟨(RX6, TX6, 7), rfl, Nat.le_of_ble_eq_true rfl, w489, rfl, pd_AI, rfl, rfl⟩
theorem lX11_180 : zFl RX11 180 6 4 2 (.array .int) true := ⟨(RX6, TX6, 7), rfl, Nat.le_of_ble_eq_true rfl, w490, rfl, pd_AI, rfl, rfl⟩
theorem lX11_183 : zFl RX11 183 6 5 2 (.array .int) true := ⟨(RX6, TX6, 7), rfl, Nat.le_of_ble_eq_true rfl, w491, rfl, pd_AI, rfl, rfl⟩
theorem vX11_186 : zVc RX11 186 KX6_hourOf 1 6 := ⟨gX6_hourOf, rfl, ⟨w492, w95, w96⟩, (RX6, TX6, 7), rfl, rfl⟩
theorem vX11_191 : zSc RX11 191 KX11_needSky 1 := ⟨gX11_needSky, rfl, w494, w493⟩
theorem lX11_194 : zFl RX11 194 1 11 2 (.object "DrizzleVote$Weather") true := ⟨(RX1, TX1, 15), rfl, Nat.le_of_ble_eq_true rfl, w495, rfl, pd_LDrizzleVote_Weather_, rfl, rfl⟩
theorem lX11_198 : zFl RX11 198 9 4 2 (.array .int) true := ⟨(RX9, TX9, 7), rfl, Nat.le_of_ble_eq_true rfl, w496, rfl, pd_AI, rfl, rfl⟩
theorem vX11_203 : zSc RX11 203 KX11_needPlace 1 := ⟨gX11_needPlace, rfl, w498, w497⟩
theorem lX11_206 : zFl RX11 206 1 6 2 (.array .int) true := ⟨(RX1, TX1, 15), rfl, Nat.le_of_ble_eq_true rfl, w499, rfl, pd_AI, rfl, rfl⟩
theorem vX11_209 : zSc RX11 209 KX11_needHour 1 := ⟨gX11_needHour, rfl, w501, w500⟩
theorem lX11_212 : zFl RX11 212 6 6 2 (.array .int) true := ⟨(RX6, TX6, 7), rfl, Nat.le_of_ble_eq_true rfl, w502, rfl, pd_AI, rfl, rfl⟩
theorem lX11_215 : zFl RX11 215 9 1 0 .int false := ⟨(RX9, TX9, 7), rfl, Nat.le_of_ble_eq_true rfl, w503, rfl, pd_I, rfl, rfl⟩
theorem vX11_218 : zVc RX11 218 KX1_feels 5 1 := ⟨gX1_feels, rfl, ⟨w504, w177, w178⟩, (RX1, TX1, 15), rfl, rfl⟩
theorem vX11_222 : zVc RX11 222 KX1_outcomeIn 3 1 := ⟨gX1_outcomeIn, rfl, ⟨w505, w189, w190⟩, (RX1, TX1, 15), rfl, rfl⟩
theorem vX11_226 : zSc RX11 226 KX11_needNumber 3 := ⟨gX11_needNumber, rfl, w507, w506⟩
theorem vX11_230 : zVc RX11 230 KX11_rememberNow 0 11 := ⟨gX11_rememberNow, rfl, ⟨w508, w509, w510⟩, (RX11, TX11, 15), rfl, rfl⟩
theorem vX11_233 : zVc RX11 233 KX1_runHour 0 1 := ⟨gX1_runHour, rfl, ⟨w511, w512, w513⟩, (RX1, TX1, 15), rfl, rfl⟩
theorem vX11_237 : zVc RX11 237 KX11_needWaiting 1 11 := ⟨gX11_needWaiting, rfl, ⟨w514, w515, w516⟩, (RX11, TX11, 15), rfl, rfl⟩
theorem vX11_240 : zVc RX11 240 KX6_putOnPaper 2 6 := ⟨gX6_putOnPaper, rfl, ⟨w517, w518, w519⟩, (RX6, TX6, 7), rfl, rfl⟩
theorem vX11_249 : zSc RX11 249 KX11_withBit 3 := ⟨gX11_withBit, rfl, w520, w145⟩
theorem vX11_255 : zVc RX11 255 KX9_startChances 0 9 := ⟨gX9_startChances, rfl, ⟨w521, w314, w315⟩, (RX9, TX9, 7), rfl, rfl⟩
theorem vX11_258 : zVc RX11 258 KX9_spreadHour 0 9 := ⟨gX9_spreadHour, rfl, ⟨w522, w317, w318⟩, (RX9, TX9, 7), rfl, rfl⟩
theorem lX11_261 : zFl RX11 261 9 5 2 (.array .int) true := ⟨(RX9, TX9, 7), rfl, Nat.le_of_ble_eq_true rfl, w523, rfl, pd_AI, rfl, rfl⟩
theorem vX11_264 : zVc RX11 264 KX9_hourThen 1 9 := ⟨gX9_hourThen, rfl, ⟨w524, w525, w526⟩, (RX9, TX9, 7), rfl, rfl⟩
theorem vX11_267 : zVc RX11 267 KX1_carriedThen 2 1 := ⟨gX1_carriedThen, rfl, ⟨w527, w321, w322⟩, (RX1, TX1, 15), rfl, rfl⟩
theorem vX11_270 : zVc RX11 270 KX6_inState 1 6 := ⟨gX6_inState, rfl, ⟨w528, w307, w308⟩, (RX6, TX6, 7), rfl, rfl⟩
theorem vX11_273 : zVc RX11 273 KX1_carriedOf 2 1 := ⟨gX1_carriedOf, rfl, ⟨w529, w530, w531⟩, (RX1, TX1, 15), rfl, rfl⟩
theorem vX11_276 : zSc RX11 276 KJ6_bitCount_0f7a4 1 := ⟨gJ6_bitCount_0f7a4, rfl, w532, w174⟩
theorem vX11_281 : zVc RX11 281 KX7_planDay 1 7 := ⟨gX7_planDay, rfl, ⟨w533, w534, w535⟩, (RX7, TX7, 4), rfl, rfl⟩
theorem lX11_284 : zFl RX11 284 7 0 2 (.array .int) true := ⟨(RX7, TX7, 4), rfl, Nat.le_of_ble_eq_true rfl, w536, rfl, pd_AI, rfl, rfl⟩
theorem vX11_287 : zVc RX11 287 KX7_motionAt 1 7 := ⟨gX7_motionAt, rfl, ⟨w537, w538, w539⟩, (RX7, TX7, 4), rfl, rfl⟩
theorem vX11_290 : zVc RX11 290 KX6_sumOver 2 6 := ⟨gX6_sumOver, rfl, ⟨w540, w541, w542⟩, (RX6, TX6, 7), rfl, rfl⟩
theorem lX11_294 : zFl RX11 294 6 0 0 .int false := ⟨(RX6, TX6, 7), rfl, Nat.le_of_ble_eq_true rfl, w543, rfl, pd_I, rfl, rfl⟩
theorem vX11_297 : zVc RX11 297 KX6_hastierThan 2 6 := ⟨gX6_hastierThan, rfl, ⟨w544, w545, w546⟩, (RX6, TX6, 7), rfl, rfl⟩
theorem vX11_300 : zVc RX11 300 KX11_readCuffs 0 11 := ⟨gX11_readCuffs, rfl, ⟨w547, w548, w549⟩, (RX11, TX11, 15), rfl, rfl⟩
theorem vX11_303 : zVc RX11 303 KX2_countWays 1 2 := ⟨gX2_countWays, rfl, ⟨w550, w551, w552⟩, (RX2, TX2, 3), rfl, rfl⟩
theorem vX11_307 : zmmin RX11 307 := ⟨w553, w162, w163, by rw [← zmmin_c]; exact w164⟩
theorem vX11_312 : zVc RX11 312 KX2_skiesNow 0 2 := ⟨gX2_skiesNow, rfl, ⟨w554, w555, w556⟩, (RX2, TX2, 3), rfl, rfl⟩
theorem lX11_315 : zFl RX11 315 2 1 2 (.array .int) true := ⟨(RX2, TX2, 3), rfl, Nat.le_of_ble_eq_true rfl, w557, rfl, pd_AI, rfl, rfl⟩
theorem lX11_318 : zFl RX11 318 2 0 2 (.array .int) true := ⟨(RX2, TX2, 3), rfl, Nat.le_of_ble_eq_true rfl, w558, rfl, pd_AI, rfl, rfl⟩
theorem lX11_321 : zFl RX11 321 1 1 0 .int false := ⟨(RX1, TX1, 15), rfl, Nat.le_of_ble_eq_true rfl, w559, rfl, pd_I, rfl, rfl⟩
theorem vX11_324 : zVc RX11 324 KX1_wettingSkies 1 1 := ⟨gX1_wettingSkies, rfl, ⟨w560, w212, w213⟩, (RX1, TX1, 15), rfl, rfl⟩
theorem vX11_327 : zmmax RX11 327 := ⟨w561, w166, w163, by rw [← zmmax_c]; exact w167⟩
theorem vX11_330 : zVc RX11 330 KX2_readRows 3 2 := ⟨gX2_readRows, rfl, ⟨w562, w563, w564⟩, (RX2, TX2, 3), rfl, rfl⟩
theorem vX11_335 : zVc RX11 335 KX1_seenBy 1 1 := ⟨gX1_seenBy, rfl, ⟨w565, w566, w567⟩, (RX1, TX1, 15), rfl, rfl⟩
theorem vX11_338 : zVc RX11 338 KX7_planPosts 1 7 := ⟨gX7_planPosts, rfl, ⟨w568, w569, w570⟩, (RX7, TX7, 4), rfl, rfl⟩
theorem vX11_341 : zVc RX11 341 KX7_placeOf 2 7 := ⟨gX7_placeOf, rfl, ⟨w571, w572, w573⟩, (RX7, TX7, 4), rfl, rfl⟩
theorem vX11_345 : zVc RX11 345 KX8_weigh 1 8 := ⟨gX8_weigh, rfl, ⟨w574, w575, w576⟩, (RX8, TX8, 4), rfl, rfl⟩
theorem lX11_348 : zFl RX11 348 8 0 0 .int false := ⟨(RX8, TX8, 4), rfl, Nat.le_of_ble_eq_true rfl, w577, rfl, pd_I, rfl, rfl⟩
theorem vX11_351 : zVc RX11 351 KX8_isWinning 1 8 := ⟨gX8_isWinning, rfl, ⟨w578, w363, w364⟩, (RX8, TX8, 4), rfl, rfl⟩
theorem vX11_355 : zVc RX11 355 KX11_needVoter 1 11 := ⟨gX11_needVoter, rfl, ⟨w579, w580, w581⟩, (RX11, TX11, 15), rfl, rfl⟩
theorem vX11_358 : zVc RX11 358 KX8_countSwings 0 8 := ⟨gX8_countSwings, rfl, ⟨w582, w583, w584⟩, (RX8, TX8, 4), rfl, rfl⟩
theorem lX11_361 : zFl RX11 361 8 1 2 (.array .int) true := ⟨(RX8, TX8, 4), rfl, Nat.le_of_ble_eq_true rfl, w585, rfl, pd_AI, rfl, rfl⟩
theorem vX11_364 : zVc RX11 364 KX8_isMinimal 1 8 := ⟨gX8_isMinimal, rfl, ⟨w586, w587, w588⟩, (RX8, TX8, 4), rfl, rfl⟩
theorem vX11_367 : zVc RX11 367 KX1_lapsesIn 3 1 := ⟨gX1_lapsesIn, rfl, ⟨w589, w172, w173⟩, (RX1, TX1, 15), rfl, rfl⟩
theorem lX11_371 : zFl RX11 371 1 7 0 .int false := ⟨(RX1, TX1, 15), rfl, Nat.le_of_ble_eq_true rfl, w590, rfl, pd_I, rfl, rfl⟩
theorem lX11_374 : zFl RX11 374 1 8 0 .int false := ⟨(RX1, TX1, 15), rfl, Nat.le_of_ble_eq_true rfl, w591, rfl, pd_I, rfl, rfl⟩
theorem vX11_377 : zVc RX11 377 KX1_byVotes 4 1 := ⟨gX1_byVotes, rfl, ⟨w592, w180, w181⟩, (RX1, TX1, 15), rfl, rfl⟩
theorem vX11_381 : zSc RX11 381 KX11_needTwo 2 := ⟨gX11_needTwo, rfl, w594, w593⟩
theorem vX11_384 : zVc RX11 384 KX6_likedByOneOnly 2 6 := ⟨gX6_likedByOneOnly, rfl, ⟨w595, w596, w597⟩, (RX6, TX6, 7), rfl, rfl⟩
theorem vX11_387 : zVc RX11 387 KX1_carriedBacked 2 1 := ⟨gX1_carriedBacked, rfl, ⟨w598, w599, w600⟩, (RX1, TX1, 15), rfl, rfl⟩
theorem vX11_390 : zVc RX11 390 KX6_sameMinds 2 6 := ⟨gX6_sameMinds, rfl, ⟨w601, w602, w603⟩, (RX6, TX6, 7), rfl, rfl⟩
theorem vX11_393 : zVc RX11 393 KX9_dryBehind 1 9 := ⟨gX9_dryBehind, rfl, ⟨w604, w605, w606⟩, (RX9, TX9, 7), rfl, rfl⟩
theorem vX11_396 : zVc RX11 396 KX11_gainOfMoving 2 11 := ⟨gX11_gainOfMoving, rfl, ⟨w607, w608, w609⟩, (RX11, TX11, 15), rfl, rfl⟩
theorem lX11_399 : zFl RX11 399 9 0 0 .int false := ⟨(RX9, TX9, 7), rfl, Nat.le_of_ble_eq_true rfl, w610, rfl, pd_I, rfl, rfl⟩
theorem vX11_402 : zVc RX11 402 KX1_outcome 5 1 := ⟨gX1_outcome, rfl, ⟨w611, w184, w185⟩, (RX1, TX1, 15), rfl, rfl⟩
theorem vX11_405 : zVc RX11 405 KX6_has 1 6 := ⟨gX6_has, rfl, ⟨w612, w151, w152⟩, (RX6, TX6, 7), rfl, rfl⟩
theorem lX11_407 : zFl RX11 407 9 3 0 .int false := ⟨(RX9, TX9, 7), rfl, Nat.le_of_ble_eq_true rfl, w613, rfl, pd_I, rfl, rfl⟩
theorem vX11_410 : zVc RX11 410 KX11_tryHours 2 11 := ⟨gX11_tryHours, rfl, ⟨w614, w615, w616⟩, (RX11, TX11, 15), rfl, rfl⟩
theorem lX11_413 : zFl RX11 413 1 13 2 (.object "DrizzleVote$Log") true := ⟨(RX1, TX1, 15), rfl, Nat.le_of_ble_eq_true rfl, w617, rfl, pd_LDrizzleVote_Log_, rfl, rfl⟩
theorem lX11_417 : zFl RX11 417 5 0 0 .int false := ⟨(RX5, TX5, 2), rfl, Nat.le_of_ble_eq_true rfl, w618, rfl, pd_I, rfl, rfl⟩
theorem vX11_420 : zVc RX11 420 KX5_valueOf 2 5 := ⟨gX5_valueOf, rfl, ⟨w619, w620, w621⟩, (RX5, TX5, 2), rfl, rfl⟩
theorem lX11_425 : zFl RX11 425 11 9 0 .int false := ⟨(RX11, TX11, 15), rfl, Nat.le_of_ble_eq_true rfl, w622, rfl, pd_I, rfl, rfl⟩
theorem lX11_428 : zFl RX11 428 11 8 0 .int false := ⟨(RX11, TX11, 15), rfl, Nat.le_of_ble_eq_true rfl, w623, rfl, pd_I, rfl, rfl⟩
theorem lX11_431 : zFl RX11 431 11 6 0 .boolean false := ⟨(RX11, TX11, 15), rfl, Nat.le_of_ble_eq_true rfl, w624, rfl, pd_Z, rfl, rfl⟩
theorem lX11_435 : zFl RX11 435 9 2 0 .int false := ⟨(RX9, TX9, 7), rfl, Nat.le_of_ble_eq_true rfl, w625, rfl, pd_I, rfl, rfl⟩
theorem lX11_438 : zFl RX11 438 1 9 0 .int false := ⟨(RX1, TX1, 15), rfl, Nat.le_of_ble_eq_true rfl, w626, rfl, pd_I, rfl, rfl⟩
