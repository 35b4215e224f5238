/-! THE WORDS, a row each, by their places in the tables -/
theorem tp0 : Cond.selects RX7 yX7_hasSubmission yX7_hasSubmission ∈ BW := bw0 (i := 0) (by decide +kernel) rfl
theorem tp1 : Cond.selects RX7 yX7_hasCompletion yX7_hasCompletion ∈ BW := bw0 (i := 1) (by decide +kernel) rfl
theorem tp2 : Cond.selects RX7 yX7_nextReady yX7_nextReady ∈ BW := bw0 (i := 2) (by decide +kernel) rfl
theorem tp3 : Cond.selects RX7 yX7_isReady yX7_isReady ∈ BW := bw0 (i := 3) (by decide +kernel) rfl
theorem tp4 : Cond.selects RX7 yX7_doCommandOf yX7_doCommandOf ∈ BW := bw0 (i := 4) (by decide +kernel) rfl
theorem tp5 : Cond.selects RX7 yX7_doAdminOp yX7_doAdminOp ∈ BW := bw0 (i := 5) (by decide +kernel) rfl
theorem tp6 : Cond.selects RX7 yX7_makeCompletion yX7_makeCompletion ∈ BW := bw0 (i := 6) (by decide +kernel) rfl
theorem tp7 : Cond.selects RX7 yX7_makeSubmission yX7_makeSubmission ∈ BW := bw0 (i := 7) (by decide +kernel) rfl
theorem tp8 : Cond.selects RX7 yX7_dropCompletion yX7_dropCompletion ∈ BW := bw0 (i := 8) (by decide +kernel) rfl
theorem tp9 : Cond.selects RX7 yX7_isAnsweredTo yX7_isAnsweredTo ∈ BW := bw0 (i := 9) (by decide +kernel) rfl
theorem tp10 : Cond.selects RX7 yX7_dropSubmission yX7_dropSubmission ∈ BW := bw0 (i := 10) (by decide +kernel) rfl
theorem tp11 : Cond.selects RX7 yX7_switchCaching yX7_switchCaching ∈ BW := bw0 (i := 11) (by decide +kernel) rfl
theorem tp12 : Cond.selects RX7 yX7_report yX7_report ∈ BW := bw0 (i := 12) (by decide +kernel) rfl
theorem tp13 : Cond.selects RX2 yX2_addPage yX2_addPage ∈ BW := bw0 (i := 13) (by decide +kernel) rfl
theorem tp14 : Cond.selects RX2 yX2_addList yX2_addList ∈ BW := bw0 (i := 14) (by decide +kernel) rfl
theorem tp15 : Cond.selects RX7 yX7_rowToData yX7_rowToData ∈ BW := bw0 (i := 15) (by decide +kernel) rfl
theorem tp16 : Cond.selects RX7 yX7_tellCached yX7_tellCached ∈ BW := bw0 (i := 16) (by decide +kernel) rfl
theorem tp17 : Cond.selects RX7 yX7_doBlockOp yX7_doBlockOp ∈ BW := bw0 (i := 17) (by decide +kernel) rfl
theorem tp18 : Cond.selects RX7 yX7_wrongOfBlockOp yX7_wrongOfBlockOp ∈ BW := bw0 (i := 18) (by decide +kernel) rfl
theorem tp19 : Cond.selects RX7 yX7_storeFromData yX7_storeFromData ∈ BW := bw0 (i := 19) (by decide +kernel) rfl
theorem tp20 : Cond.selects RX3 yX3_placeOf yX3_placeOf ∈ BW := bw0 (i := 20) (by decide +kernel) rfl
theorem tp21 : Cond.selects RX3 yX3_placeForNew yX3_placeForNew ∈ BW := bw0 (i := 21) (by decide +kernel) rfl
theorem tp22 : Cond.selects RX7 yX7_endStoring yX7_endStoring ∈ BW := bw0 (i := 22) (by decide +kernel) rfl
theorem tp23 : Cond.selects RX7 yX7_readToData yX7_readToData ∈ BW := bw0 (i := 23) (by decide +kernel) rfl
theorem tp24 : Cond.selects RX7 yX7_sameAsData yX7_sameAsData ∈ BW := bw0 (i := 24) (by decide +kernel) rfl
theorem tp25 : Cond.selects RX7 yX7_storeZeros yX7_storeZeros ∈ BW := bw0 (i := 25) (by decide +kernel) rfl
theorem tp26 : Cond.selects RX7 yX7_compareAndWrite yX7_compareAndWrite ∈ BW := bw0 (i := 26) (by decide +kernel) rfl
theorem tp27 : Cond.selects RX7 yX7_answer yX7_answer ∈ BW := bw0 (i := 27) (by decide +kernel) rfl
theorem tp28 : Cond.selects RX8 yX8_make yX8_make ∈ BW := bw0 (i := 28) (by decide +kernel) rfl
theorem tp29 : Cond.selects RX8 yX8_flush yX8_flush ∈ BW := bw0 (i := 29) (by decide +kernel) rfl
theorem tp30 : Cond.selects RX8 yX8_giveUp yX8_giveUp ∈ BW := bw0 (i := 30) (by decide +kernel) rfl
theorem tp31 : Cond.selects RX8 yX8_many yX8_many ∈ BW := bw0 (i := 31) (by decide +kernel) rfl
theorem tp32 : Cond.selects RX8 yX8_isReady yX8_isReady ∈ BW := bw0 (i := 32) (by decide +kernel) rfl
theorem tp33 : Cond.selects RX8 yX8_command yX8_command ∈ BW := bw0 (i := 33) (by decide +kernel) rfl
theorem tp34 : Cond.selects RX8 yX8_admin yX8_admin ∈ BW := bw0 (i := 34) (by decide +kernel) rfl
theorem tp35 : Cond.selects RX8 yX8_place yX8_place ∈ BW := bw0 (i := 35) (by decide +kernel) rfl
theorem tp36 : Cond.selects RX8 yX8_blocks yX8_blocks ∈ BW := bw0 (i := 36) (by decide +kernel) rfl
theorem tp37 : Cond.selects RX8 yX8_blockOf yX8_blockOf ∈ BW := bw0 (i := 37) (by decide +kernel) rfl
theorem tp38 : Cond.selects RX8 yX8_find yX8_find ∈ BW := bw0 (i := 38) (by decide +kernel) rfl
theorem tp39 : Cond.selects RX8 yX8_store yX8_store ∈ BW := bw0 (i := 39) (by decide +kernel) rfl
theorem tw0 : Cond.initialized RL ∈ BW := bw1 (i := 0) (by decide +kernel) rfl
theorem tw1 : Cond.initialized RX7 ∈ BW := bw1 (i := 1) (by decide +kernel) rfl
theorem tw2 : Cond.initialized RX4 ∈ BW := bw1 (i := 2) (by decide +kernel) rfl
theorem tw3 : Cond.initialized RX3 ∈ BW := bw1 (i := 3) (by decide +kernel) rfl
theorem tw4 : Cond.initialized RX5 ∈ BW := bw1 (i := 4) (by decide +kernel) rfl
theorem tw5 : Cond.initialized RX6 ∈ BW := bw1 (i := 5) (by decide +kernel) rfl
theorem tw6 : Cond.initialized RX1 ∈ BW := bw1 (i := 6) (by decide +kernel) rfl
theorem tw7 : Cond.initialized RX0 ∈ BW := bw1 (i := 7) (by decide +kernel) rfl
theorem tw8 : Cond.initialized RX2 ∈ BW := bw1 (i := 8) (by decide +kernel) rfl
theorem tw9 : Cond.initialized RX8 ∈ BW := bw1 (i := 9) (by decide +kernel) rfl
theorem tw10 : Cond.initialized RJ7 ∈ BW := bw1 (i := 10) (by decide +kernel) rfl
theorem tw11 : Cond.initialized RJ10 ∈ BW := bw1 (i := 11) (by decide +kernel) rfl
theorem tw12 : Cond.initialized RJ9 ∈ BW := bw1 (i := 12) (by decide +kernel) rfl
theorem tw13 : Cond.classLink RL 7 RX7 ∈ BW := bw1 (i := 13) (by decide +kernel) rfl
theorem tw14 : Cond.instantiable RX7 15 ∈ BW := bw1 (i := 14) (by decide +kernel) rfl
theorem tw15 : Cond.methodLink RL 9 yX7_init ∈ BW := bw1 (i := 15) (by decide +kernel) rfl
theorem tw16 : Cond.instanceMethod yX7_init ∈ BW := bw1 (i := 16) (by decide +kernel) rfl
set_option maxRecDepth 20000 in
theorem tw17 : Cond.code yX7_init cX7_init 2 none ∈ BW := bw1 (i := 17) rfl rfl
theorem tw18 : Cond.methodLink RX7 1 objectInit ∈ BW := bw1 (i := 18) (by decide +kernel) rfl
theorem tw19 : Cond.instanceMethod objectInit ∈ BW := bw1 (i := 19) (by decide +kernel) rfl
theorem tw21 : Cond.classLink RX7 7 RX4 ∈ BW := bw1 (i := 21) (by decide +kernel) rfl
theorem tw22 : Cond.instantiable RX4 1 ∈ BW := bw1 (i := 22) (by decide +kernel) rfl
theorem tw24 : Cond.instanceMethod yX4_init ∈ BW := bw1 (i := 24) (by decide +kernel) rfl
set_option maxRecDepth 20000 in
theorem tw25 : Cond.code yX4_init cX4_init 1 none ∈ BW := bw1 (i := 25) rfl rfl
theorem tw26 : Cond.methodLink RX4 1 objectInit ∈ BW := bw1 (i := 26) (by decide +kernel) rfl
theorem tw27 : Cond.fieldLink RX4 9 "DoorbellDrive$Memory" "longs" "[J" ∈ BW := bw1 (i := 27) (by decide +kernel) rfl
theorem tw28 : Cond.laysFinal "DoorbellDrive$Memory" "DoorbellDrive$Memory" "longs" "[J" ∈ BW := bw1 (i := 28) (by decide +kernel) rfl
theorem tw31 : Cond.arrayClass .long ∈ BW := bw1 (i := 31) (by decide +kernel) rfl
theorem tw32 : Cond.classLink RX7 16 RX3 ∈ BW := bw1 (i := 32) (by decide +kernel) rfl
theorem tw33 : Cond.instantiable RX3 5 ∈ BW := bw1 (i := 33) (by decide +kernel) rfl
theorem tw35 : Cond.instanceMethod yX3_init ∈ BW := bw1 (i := 35) (by decide +kernel) rfl
set_option maxRecDepth 20000 in
theorem tw36 : Cond.code yX3_init cX3_init 1 none ∈ BW := bw1 (i := 36) rfl rfl
theorem tw37 : Cond.methodLink RX3 1 objectInit ∈ BW := bw1 (i := 37) (by decide +kernel) rfl
theorem tw38 : Cond.fieldLink RX3 9 "DoorbellDrive$Disk" "medium" "[J" ∈ BW := bw1 (i := 38) (by decide +kernel) rfl
theorem tw39 : Cond.fieldLink RX3 13 "DoorbellDrive$Disk" "cachedBlocks" "[I" ∈ BW := bw1 (i := 39) (by decide +kernel) rfl
theorem tw40 : Cond.fieldLink RX3 17 "DoorbellDrive$Disk" "cache" "[J" ∈ BW := bw1 (i := 40) (by decide +kernel) rfl
theorem tw41 : Cond.fieldLink RX3 30 "DoorbellDrive$Disk" "cached" "I" ∈ BW := bw1 (i := 41) (by decide +kernel) rfl
theorem tw42 : Cond.fieldLink RX3 20 "DoorbellDrive$Disk" "caching" "Z" ∈ BW := bw1 (i := 42) (by decide +kernel) rfl
theorem tw43 : Cond.laysFinal "DoorbellDrive$Disk" "DoorbellDrive$Disk" "medium" "[J" ∈ BW := bw1 (i := 43) (by decide +kernel) rfl
theorem tw45 : Cond.laysFinal "DoorbellDrive$Disk" "DoorbellDrive$Disk" "cachedBlocks" "[I" ∈ BW := bw1 (i := 45) (by decide +kernel) rfl
theorem tw47 : Cond.laysFinal "DoorbellDrive$Disk" "DoorbellDrive$Disk" "cache" "[J" ∈ BW := bw1 (i := 47) (by decide +kernel) rfl
theorem tw49 : Cond.lays "DoorbellDrive$Disk" "DoorbellDrive$Disk" "cached" "I" ∈ BW := bw1 (i := 49) (by decide +kernel) rfl
theorem tw51 : Cond.lays "DoorbellDrive$Disk" "DoorbellDrive$Disk" "caching" "Z" ∈ BW := bw1 (i := 51) (by decide +kernel) rfl
theorem tw54 : Cond.arrayClass .int ∈ BW := bw1 (i := 54) (by decide +kernel) rfl
theorem tw55 : Cond.classLink RX7 23 RX6 ∈ BW := bw1 (i := 55) (by decide +kernel) rfl
theorem tw57 : Cond.classLink RX7 29 RX1 ∈ BW := bw1 (i := 57) (by decide +kernel) rfl
theorem tw59 : Cond.instantiable RX6 6 ∈ BW := bw1 (i := 59) (by decide +kernel) rfl
theorem tw61 : Cond.instanceMethod yX6_init ∈ BW := bw1 (i := 61) (by decide +kernel) rfl
set_option maxRecDepth 20000 in
theorem tw62 : Cond.code yX6_init cX6_init 1 none ∈ BW := bw1 (i := 62) rfl rfl
theorem tw64 : Cond.instanceMethod yX5_init ∈ BW := bw1 (i := 64) (by decide +kernel) rfl
set_option maxRecDepth 20000 in
theorem tw65 : Cond.code yX5_init cX5_init 1 none ∈ BW := bw1 (i := 65) rfl rfl
theorem tw66 : Cond.methodLink RX5 1 objectInit ∈ BW := bw1 (i := 66) (by decide +kernel) rfl
theorem tw67 : Cond.fieldLink RX6 19 "DoorbellDrive$Submission" "answersTo" "I" ∈ BW := bw1 (i := 67) (by decide +kernel) rfl
theorem tw68 : Cond.fieldLink RX7 175 "DoorbellDrive$Submission" "answersTo" "I" ∈ BW := bw1 (i := 68) (by decide +kernel) rfl
theorem tw69 : Cond.fieldLink RX5 23 "DoorbellDrive$Ring" "there" "Z" ∈ BW := bw1 (i := 69) (by decide +kernel) rfl
theorem tw70 : Cond.fieldLink RX7 167 "DoorbellDrive$Submission" "there" "Z" ∈ BW := bw1 (i := 70) (by decide +kernel) rfl
theorem tw71 : Cond.sameField "DoorbellDrive$Submission" "DoorbellDrive$Ring" "there" "Z" ∈ BW := bw1 (i := 71) (by decide +kernel) rfl
theorem tw72 : Cond.fieldLink RX7 170 "DoorbellDrive$Completion" "there" "Z" ∈ BW := bw1 (i := 72) (by decide +kernel) rfl
theorem tw73 : Cond.sameField "DoorbellDrive$Completion" "DoorbellDrive$Ring" "there" "Z" ∈ BW := bw1 (i := 73) (by decide +kernel) rfl
theorem tw74 : Cond.fieldLink RX5 27 "DoorbellDrive$Ring" "base" "I" ∈ BW := bw1 (i := 74) (by decide +kernel) rfl
theorem tw75 : Cond.fieldLink RX6 23 "DoorbellDrive$Submission" "base" "I" ∈ BW := bw1 (i := 75) (by decide +kernel) rfl
theorem tw76 : Cond.sameField "DoorbellDrive$Submission" "DoorbellDrive$Ring" "base" "I" ∈ BW := bw1 (i := 76) (by decide +kernel) rfl
theorem tw77 : Cond.fieldLink RX1 46 "DoorbellDrive$Completion" "base" "I" ∈ BW := bw1 (i := 77) (by decide +kernel) rfl
theorem tw78 : Cond.sameField "DoorbellDrive$Completion" "DoorbellDrive$Ring" "base" "I" ∈ BW := bw1 (i := 78) (by decide +kernel) rfl
theorem tw79 : Cond.fieldLink RX5 31 "DoorbellDrive$Ring" "size" "I" ∈ BW := bw1 (i := 79) (by decide +kernel) rfl
theorem tw80 : Cond.fieldLink RX7 172 "DoorbellDrive$Submission" "size" "I" ∈ BW := bw1 (i := 80) (by decide +kernel) rfl
theorem tw81 : Cond.sameField "DoorbellDrive$Submission" "DoorbellDrive$Ring" "size" "I" ∈ BW := bw1 (i := 81) (by decide +kernel) rfl
theorem tw82 : Cond.fieldLink RX7 182 "DoorbellDrive$Completion" "size" "I" ∈ BW := bw1 (i := 82) (by decide +kernel) rfl
theorem tw83 : Cond.sameField "DoorbellDrive$Completion" "DoorbellDrive$Ring" "size" "I" ∈ BW := bw1 (i := 83) (by decide +kernel) rfl
theorem tw84 : Cond.fieldLink RX5 34 "DoorbellDrive$Ring" "head" "I" ∈ BW := bw1 (i := 84) (by decide +kernel) rfl
theorem tw85 : Cond.fieldLink RX6 26 "DoorbellDrive$Submission" "head" "I" ∈ BW := bw1 (i := 85) (by decide +kernel) rfl
theorem tw86 : Cond.sameField "DoorbellDrive$Submission" "DoorbellDrive$Ring" "head" "I" ∈ BW := bw1 (i := 86) (by decide +kernel) rfl
theorem tw87 : Cond.fieldLink RX1 32 "DoorbellDrive$Completion" "head" "I" ∈ BW := bw1 (i := 87) (by decide +kernel) rfl
theorem tw88 : Cond.sameField "DoorbellDrive$Completion" "DoorbellDrive$Ring" "head" "I" ∈ BW := bw1 (i := 88) (by decide +kernel) rfl
theorem tw89 : Cond.fieldLink RX7 123 "DoorbellDrive$Completion" "head" "I" ∈ BW := bw1 (i := 89) (by decide +kernel) rfl
theorem tw90 : Cond.fieldLink RX7 171 "DoorbellDrive$Submission" "head" "I" ∈ BW := bw1 (i := 90) (by decide +kernel) rfl
theorem tw91 : Cond.fieldLink RX5 37 "DoorbellDrive$Ring" "tail" "I" ∈ BW := bw1 (i := 91) (by decide +kernel) rfl
theorem tw92 : Cond.fieldLink RX1 25 "DoorbellDrive$Completion" "tail" "I" ∈ BW := bw1 (i := 92) (by decide +kernel) rfl
theorem tw93 : Cond.sameField "DoorbellDrive$Completion" "DoorbellDrive$Ring" "tail" "I" ∈ BW := bw1 (i := 93) (by decide +kernel) rfl
theorem tw94 : Cond.fieldLink RX7 111 "DoorbellDrive$Submission" "tail" "I" ∈ BW := bw1 (i := 94) (by decide +kernel) rfl
theorem tw95 : Cond.sameField "DoorbellDrive$Submission" "DoorbellDrive$Ring" "tail" "I" ∈ BW := bw1 (i := 95) (by decide +kernel) rfl
theorem tw96 : Cond.fieldLink RX7 178 "DoorbellDrive$Completion" "tail" "I" ∈ BW := bw1 (i := 96) (by decide +kernel) rfl
theorem tw97 : Cond.lays "DoorbellDrive$Submission" "DoorbellDrive$Submission" "answersTo" "I" ∈ BW := bw1 (i := 97) (by decide +kernel) rfl
theorem tw99 : Cond.lays "DoorbellDrive$Submission" "DoorbellDrive$Ring" "there" "Z" ∈ BW := bw1 (i := 99) (by decide +kernel) rfl
theorem tw101 : Cond.lays "DoorbellDrive$Submission" "DoorbellDrive$Ring" "base" "I" ∈ BW := bw1 (i := 101) (by decide +kernel) rfl
theorem tw103 : Cond.lays "DoorbellDrive$Submission" "DoorbellDrive$Ring" "size" "I" ∈ BW := bw1 (i := 103) (by decide +kernel) rfl
theorem tw105 : Cond.lays "DoorbellDrive$Submission" "DoorbellDrive$Ring" "head" "I" ∈ BW := bw1 (i := 105) (by decide +kernel) rfl
theorem tw107 : Cond.lays "DoorbellDrive$Submission" "DoorbellDrive$Ring" "tail" "I" ∈ BW := bw1 (i := 107) (by decide +kernel) rfl
theorem tw110 : Cond.instantiable RX1 7 ∈ BW := bw1 (i := 110) (by decide +kernel) rfl
theorem tw112 : Cond.instanceMethod yX1_init ∈ BW := bw1 (i := 112) (by decide +kernel) rfl
set_option maxRecDepth 20000 in
theorem tw113 : Cond.code yX1_init cX1_init 1 none ∈ BW := bw1 (i := 113) rfl rfl
theorem tw115 : Cond.fieldLink RX1 17 "DoorbellDrive$Completion" "phase" "I" ∈ BW := bw1 (i := 115) (by decide +kernel) rfl
theorem tw116 : Cond.fieldLink RX7 179 "DoorbellDrive$Completion" "phase" "I" ∈ BW := bw1 (i := 116) (by decide +kernel) rfl
theorem tw117 : Cond.fieldLink RX1 21 "DoorbellDrive$Completion" "interrupting" "Z" ∈ BW := bw1 (i := 117) (by decide +kernel) rfl
theorem tw118 : Cond.fieldLink RX7 223 "DoorbellDrive$Completion" "interrupting" "Z" ∈ BW := bw1 (i := 118) (by decide +kernel) rfl
theorem tw119 : Cond.lays "DoorbellDrive$Completion" "DoorbellDrive$Completion" "phase" "I" ∈ BW := bw1 (i := 119) (by decide +kernel) rfl
theorem tw121 : Cond.lays "DoorbellDrive$Completion" "DoorbellDrive$Completion" "interrupting" "Z" ∈ BW := bw1 (i := 121) (by decide +kernel) rfl
theorem tw123 : Cond.lays "DoorbellDrive$Completion" "DoorbellDrive$Ring" "there" "Z" ∈ BW := bw1 (i := 123) (by decide +kernel) rfl
theorem tw124 : Cond.lays "DoorbellDrive$Completion" "DoorbellDrive$Ring" "base" "I" ∈ BW := bw1 (i := 124) (by decide +kernel) rfl
theorem tw125 : Cond.lays "DoorbellDrive$Completion" "DoorbellDrive$Ring" "size" "I" ∈ BW := bw1 (i := 125) (by decide +kernel) rfl
theorem tw126 : Cond.lays "DoorbellDrive$Completion" "DoorbellDrive$Ring" "head" "I" ∈ BW := bw1 (i := 126) (by decide +kernel) rfl
theorem tw127 : Cond.lays "DoorbellDrive$Completion" "DoorbellDrive$Ring" "tail" "I" ∈ BW := bw1 (i := 127) (by decide +kernel) rfl
theorem tw129 : Cond.classLink RX7 37 RX0 ∈ BW := bw1 (i := 129) (by decide +kernel) rfl
theorem tw130 : Cond.instantiable RX0 7 ∈ BW := bw1 (i := 130) (by decide +kernel) rfl
theorem tw132 : Cond.instanceMethod yX0_init ∈ BW := bw1 (i := 132) (by decide +kernel) rfl
set_option maxRecDepth 20000 in
theorem tw133 : Cond.code yX0_init cX0_init 1 none ∈ BW := bw1 (i := 133) rfl rfl
theorem tw134 : Cond.methodLink RX0 1 objectInit ∈ BW := bw1 (i := 134) (by decide +kernel) rfl
theorem tw135 : Cond.fieldLink RX0 15 "DoorbellDrive$Command" "op" "I" ∈ BW := bw1 (i := 135) (by decide +kernel) rfl
theorem tw136 : Cond.fieldLink RX7 226 "DoorbellDrive$Command" "op" "I" ∈ BW := bw1 (i := 136) (by decide +kernel) rfl
theorem tw137 : Cond.fieldLink RX0 23 "DoorbellDrive$Command" "id" "I" ∈ BW := bw1 (i := 137) (by decide +kernel) rfl
theorem tw138 : Cond.fieldLink RX7 214 "DoorbellDrive$Command" "id" "I" ∈ BW := bw1 (i := 138) (by decide +kernel) rfl
theorem tw139 : Cond.fieldLink RX0 26 "DoorbellDrive$Command" "flag" "Z" ∈ BW := bw1 (i := 139) (by decide +kernel) rfl
theorem tw140 : Cond.fieldLink RX7 317 "DoorbellDrive$Command" "flag" "Z" ∈ BW := bw1 (i := 140) (by decide +kernel) rfl
theorem tw141 : Cond.fieldLink RX2 29 "DoorbellDrive$Command" "n" "I" ∈ BW := bw1 (i := 141) (by decide +kernel) rfl
theorem tw142 : Cond.fieldLink RX0 30 "DoorbellDrive$Command" "n" "I" ∈ BW := bw1 (i := 142) (by decide +kernel) rfl
theorem tw143 : Cond.fieldLink RX7 275 "DoorbellDrive$Command" "n" "I" ∈ BW := bw1 (i := 143) (by decide +kernel) rfl
theorem tw144 : Cond.fieldLink RX2 15 "DoorbellDrive$Command" "p" "J" ∈ BW := bw1 (i := 144) (by decide +kernel) rfl
theorem tw145 : Cond.fieldLink RX0 33 "DoorbellDrive$Command" "p" "J" ∈ BW := bw1 (i := 145) (by decide +kernel) rfl
theorem tw146 : Cond.fieldLink RX7 278 "DoorbellDrive$Command" "p" "J" ∈ BW := bw1 (i := 146) (by decide +kernel) rfl
theorem tw147 : Cond.fieldLink RX2 47 "DoorbellDrive$Command" "q" "J" ∈ BW := bw1 (i := 147) (by decide +kernel) rfl
theorem tw148 : Cond.fieldLink RX0 37 "DoorbellDrive$Command" "q" "J" ∈ BW := bw1 (i := 148) (by decide +kernel) rfl
theorem tw149 : Cond.fieldLink RX7 285 "DoorbellDrive$Command" "q" "J" ∈ BW := bw1 (i := 149) (by decide +kernel) rfl
theorem tw150 : Cond.fieldLink RX0 40 "DoorbellDrive$Command" "x" "J" ∈ BW := bw1 (i := 150) (by decide +kernel) rfl
theorem tw151 : Cond.fieldLink RX7 268 "DoorbellDrive$Command" "x" "J" ∈ BW := bw1 (i := 151) (by decide +kernel) rfl
theorem tw152 : Cond.lays "DoorbellDrive$Command" "DoorbellDrive$Command" "op" "I" ∈ BW := bw1 (i := 152) (by decide +kernel) rfl
theorem tw154 : Cond.lays "DoorbellDrive$Command" "DoorbellDrive$Command" "id" "I" ∈ BW := bw1 (i := 154) (by decide +kernel) rfl
theorem tw156 : Cond.lays "DoorbellDrive$Command" "DoorbellDrive$Command" "flag" "Z" ∈ BW := bw1 (i := 156) (by decide +kernel) rfl
theorem tw158 : Cond.lays "DoorbellDrive$Command" "DoorbellDrive$Command" "n" "I" ∈ BW := bw1 (i := 158) (by decide +kernel) rfl
theorem tw160 : Cond.lays "DoorbellDrive$Command" "DoorbellDrive$Command" "p" "J" ∈ BW := bw1 (i := 160) (by decide +kernel) rfl
theorem tw162 : Cond.lays "DoorbellDrive$Command" "DoorbellDrive$Command" "q" "J" ∈ BW := bw1 (i := 162) (by decide +kernel) rfl
theorem tw164 : Cond.lays "DoorbellDrive$Command" "DoorbellDrive$Command" "x" "J" ∈ BW := bw1 (i := 164) (by decide +kernel) rfl
theorem tw167 : Cond.classLink RX7 44 RX2 ∈ BW := bw1 (i := 167) (by decide +kernel) rfl
theorem tw168 : Cond.instantiable RX2 3 ∈ BW := bw1 (i := 168) (by decide +kernel) rfl
theorem tw170 : Cond.instanceMethod yX2_init ∈ BW := bw1 (i := 170) (by decide +kernel) rfl
set_option maxRecDepth 20000 in
theorem tw171 : Cond.code yX2_init cX2_init 1 none ∈ BW := bw1 (i := 171) rfl rfl
theorem tw172 : Cond.methodLink RX2 1 objectInit ∈ BW := bw1 (i := 172) (by decide +kernel) rfl
theorem tw173 : Cond.fieldLink RX2 9 "DoorbellDrive$Data" "pages" "[I" ∈ BW := bw1 (i := 173) (by decide +kernel) rfl
theorem tw174 : Cond.fieldLink RX2 25 "DoorbellDrive$Data" "first" "I" ∈ BW := bw1 (i := 174) (by decide +kernel) rfl
theorem tw175 : Cond.fieldLink RX2 44 "DoorbellDrive$Data" "firstLongs" "I" ∈ BW := bw1 (i := 175) (by decide +kernel) rfl
theorem tw176 : Cond.laysFinal "DoorbellDrive$Data" "DoorbellDrive$Data" "pages" "[I" ∈ BW := bw1 (i := 176) (by decide +kernel) rfl
theorem tw178 : Cond.lays "DoorbellDrive$Data" "DoorbellDrive$Data" "first" "I" ∈ BW := bw1 (i := 178) (by decide +kernel) rfl
theorem tw180 : Cond.lays "DoorbellDrive$Data" "DoorbellDrive$Data" "firstLongs" "I" ∈ BW := bw1 (i := 180) (by decide +kernel) rfl
theorem tw183 : Cond.fieldLink RX7 10 "DoorbellDrive" "memory" "LDoorbellDrive$Memory;" ∈ BW := bw1 (i := 183) (by decide +kernel) rfl
theorem tw184 : Cond.fieldLink RX7 19 "DoorbellDrive" "disk" "LDoorbellDrive$Disk;" ∈ BW := bw1 (i := 184) (by decide +kernel) rfl
theorem tw185 : Cond.fieldLink RX7 25 "DoorbellDrive" "submissions" "[LDoorbellDrive$Submission;" ∈ BW := bw1 (i := 185) (by decide +kernel) rfl
theorem tw186 : Cond.fieldLink RX7 31 "DoorbellDrive" "completions" "[LDoorbellDrive$Completion;" ∈ BW := bw1 (i := 186) (by decide +kernel) rfl
theorem tw187 : Cond.fieldLink RX7 40 "DoorbellDrive" "command" "LDoorbellDrive$Command;" ∈ BW := bw1 (i := 187) (by decide +kernel) rfl
theorem tw188 : Cond.fieldLink RX7 47 "DoorbellDrive" "data" "LDoorbellDrive$Data;" ∈ BW := bw1 (i := 188) (by decide +kernel) rfl
theorem tw189 : Cond.fieldLink RX7 51 "DoorbellDrive" "row" "[J" ∈ BW := bw1 (i := 189) (by decide +kernel) rfl
theorem tw190 : Cond.fieldLink RX7 72 "DoorbellDrive" "on" "Z" ∈ BW := bw1 (i := 190) (by decide +kernel) rfl
theorem tw191 : Cond.fieldLink RX7 76 "DoorbellDrive" "interruptBits" "I" ∈ BW := bw1 (i := 191) (by decide +kernel) rfl
theorem tw192 : Cond.fieldLink RX7 80 "DoorbellDrive" "turn" "I" ∈ BW := bw1 (i := 192) (by decide +kernel) rfl
theorem tw193 : Cond.fieldLink RX7 201 "DoorbellDrive" "result" "I" ∈ BW := bw1 (i := 193) (by decide +kernel) rfl
theorem tw194 : Cond.fieldLink RX7 153 "DoorbellDrive" "doneWell" "I" ∈ BW := bw1 (i := 194) (by decide +kernel) rfl
theorem tw195 : Cond.fieldLink RX7 156 "DoorbellDrive" "doneOtherwise" "I" ∈ BW := bw1 (i := 195) (by decide +kernel) rfl
theorem tw196 : Cond.fieldLink RX7 159 "DoorbellDrive" "blocksRead" "I" ∈ BW := bw1 (i := 196) (by decide +kernel) rfl
theorem tw197 : Cond.fieldLink RX7 162 "DoorbellDrive" "blocksStored" "I" ∈ BW := bw1 (i := 197) (by decide +kernel) rfl
theorem tw198 : Cond.laysFinal "DoorbellDrive" "DoorbellDrive" "memory" "LDoorbellDrive$Memory;" ∈ BW := bw1 (i := 198) (by decide +kernel) rfl
theorem tw200 : Cond.laysFinal "DoorbellDrive" "DoorbellDrive" "disk" "LDoorbellDrive$Disk;" ∈ BW := bw1 (i := 200) (by decide +kernel) rfl
theorem tw202 : Cond.laysFinal "DoorbellDrive" "DoorbellDrive" "submissions" "[LDoorbellDrive$Submission;" ∈ BW := bw1 (i := 202) (by decide +kernel) rfl
theorem tw204 : Cond.laysFinal "DoorbellDrive" "DoorbellDrive" "completions" "[LDoorbellDrive$Completion;" ∈ BW := bw1 (i := 204) (by decide +kernel) rfl
theorem tw206 : Cond.laysFinal "DoorbellDrive" "DoorbellDrive" "command" "LDoorbellDrive$Command;" ∈ BW := bw1 (i := 206) (by decide +kernel) rfl
theorem tw208 : Cond.laysFinal "DoorbellDrive" "DoorbellDrive" "data" "LDoorbellDrive$Data;" ∈ BW := bw1 (i := 208) (by decide +kernel) rfl
theorem tw210 : Cond.laysFinal "DoorbellDrive" "DoorbellDrive" "row" "[J" ∈ BW := bw1 (i := 210) (by decide +kernel) rfl
theorem tw212 : Cond.lays "DoorbellDrive" "DoorbellDrive" "on" "Z" ∈ BW := bw1 (i := 212) (by decide +kernel) rfl
theorem tw214 : Cond.lays "DoorbellDrive" "DoorbellDrive" "interruptBits" "I" ∈ BW := bw1 (i := 214) (by decide +kernel) rfl
theorem tw216 : Cond.lays "DoorbellDrive" "DoorbellDrive" "turn" "I" ∈ BW := bw1 (i := 216) (by decide +kernel) rfl
theorem tw218 : Cond.lays "DoorbellDrive" "DoorbellDrive" "result" "I" ∈ BW := bw1 (i := 218) (by decide +kernel) rfl
theorem tw220 : Cond.lays "DoorbellDrive" "DoorbellDrive" "doneWell" "I" ∈ BW := bw1 (i := 220) (by decide +kernel) rfl
theorem tw222 : Cond.lays "DoorbellDrive" "DoorbellDrive" "doneOtherwise" "I" ∈ BW := bw1 (i := 222) (by decide +kernel) rfl
theorem tw224 : Cond.lays "DoorbellDrive" "DoorbellDrive" "blocksRead" "I" ∈ BW := bw1 (i := 224) (by decide +kernel) rfl
theorem tw226 : Cond.lays "DoorbellDrive" "DoorbellDrive" "blocksStored" "I" ∈ BW := bw1 (i := 226) (by decide +kernel) rfl
theorem tw229 : Cond.methodLink RL 13 yX7_peek ∈ BW := bw1 (i := 229) (by decide +kernel) rfl
theorem tw230 : Cond.instanceMethod yX7_peek ∈ BW := bw1 (i := 230) (by decide +kernel) rfl
theorem tw231 : Cond.selects RX7 yX7_peek yX7_peek ∈ BW := bw1 (i := 231) (by decide +kernel) rfl
set_option maxRecDepth 20000 in
theorem tw232 : Cond.code yX7_peek cX7_peek 2 (some .long) ∈ BW := bw1 (i := 232) rfl rfl
theorem tw233 : Cond.methodLink RX7 55 yX4_at ∈ BW := bw1 (i := 233) (by decide +kernel) rfl
theorem tw234 : Cond.instanceMethod yX4_at ∈ BW := bw1 (i := 234) (by decide +kernel) rfl
theorem tw235 : Cond.selects RX4 yX4_at yX4_at ∈ BW := bw1 (i := 235) (by decide +kernel) rfl
set_option maxRecDepth 20000 in
theorem tw236 : Cond.code yX4_at cX4_at 2 (some .long) ∈ BW := bw1 (i := 236) rfl rfl
theorem tw237 : Cond.methodLink RX4 17 yX4_holds ∈ BW := bw1 (i := 237) (by decide +kernel) rfl
theorem tw238 : Cond.static yX4_holds ∈ BW := bw1 (i := 238) (by decide +kernel) rfl
set_option maxRecDepth 20000 in
theorem tw239 : Cond.code yX4_holds cX4_holds 2 (some .boolean) ∈ BW := bw1 (i := 239) rfl rfl
theorem tw240 : Cond.constantLong RX4 13 1024 ∈ BW := bw2 (i := 0) (by decide +kernel) rfl
theorem tw241 : Cond.methodLink RL 20 yX7_poke ∈ BW := bw2 (i := 1) (by decide +kernel) rfl
theorem tw242 : Cond.instanceMethod yX7_poke ∈ BW := bw2 (i := 2) (by decide +kernel) rfl
theorem tw243 : Cond.selects RX7 yX7_poke yX7_poke ∈ BW := bw2 (i := 3) (by decide +kernel) rfl
set_option maxRecDepth 20000 in
theorem tw244 : Cond.code yX7_poke cX7_poke 4 (some .int) ∈ BW := bw2 (i := 4) rfl rfl
theorem tw245 : Cond.methodLink RX7 59 yX4_holds ∈ BW := bw2 (i := 5) (by decide +kernel) rfl
theorem tw246 : Cond.methodLink RX7 63 yX4_put ∈ BW := bw2 (i := 6) (by decide +kernel) rfl
theorem tw247 : Cond.instanceMethod yX4_put ∈ BW := bw2 (i := 7) (by decide +kernel) rfl
theorem tw248 : Cond.selects RX4 yX4_put yX4_put ∈ BW := bw2 (i := 8) (by decide +kernel) rfl
set_option maxRecDepth 20000 in
theorem tw249 : Cond.code yX4_put cX4_put 4 none ∈ BW := bw2 (i := 9) rfl rfl
theorem tw250 : Cond.methodLink RL 25 yX7_begin ∈ BW := bw2 (i := 10) (by decide +kernel) rfl
theorem tw251 : Cond.instanceMethod yX7_begin ∈ BW := bw2 (i := 11) (by decide +kernel) rfl
theorem tw252 : Cond.selects RX7 yX7_begin yX7_begin ∈ BW := bw2 (i := 12) (by decide +kernel) rfl
set_option maxRecDepth 20000 in
theorem tw253 : Cond.code yX7_begin cX7_begin 5 (some .int) ∈ BW := bw2 (i := 13) rfl rfl
theorem tw254 : Cond.methodLink RX7 67 yX6_fits ∈ BW := bw2 (i := 14) (by decide +kernel) rfl
theorem tw255 : Cond.static yX6_fits ∈ BW := bw2 (i := 15) (by decide +kernel) rfl
set_option maxRecDepth 20000 in
theorem tw256 : Cond.code yX6_fits cX6_fits 4 (some .boolean) ∈ BW := bw2 (i := 16) rfl rfl
theorem tw257 : Cond.methodLink RX6 9 yX5_fitsInMemory ∈ BW := bw2 (i := 17) (by decide +kernel) rfl
theorem tw258 : Cond.static yX5_fitsInMemory ∈ BW := bw2 (i := 18) (by decide +kernel) rfl
set_option maxRecDepth 20000 in
theorem tw259 : Cond.code yX5_fitsInMemory cX5_fitsInMemory 5 (some .boolean) ∈ BW := bw2 (i := 19) rfl rfl
theorem tw260 : Cond.methodLink RX5 7 yX4_holds ∈ BW := bw2 (i := 20) (by decide +kernel) rfl
theorem tw261 : Cond.constantLong RX5 15 4 ∈ BW := bw2 (i := 21) (by decide +kernel) rfl
theorem tw262 : Cond.constantLong RX5 17 2 ∈ BW := bw2 (i := 22) (by decide +kernel) rfl
theorem tw263 : Cond.constantLong RX5 19 16 ∈ BW := bw2 (i := 23) (by decide +kernel) rfl
theorem tw264 : Cond.constantLong RX5 21 1024 ∈ BW := bw2 (i := 24) (by decide +kernel) rfl
theorem tw265 : Cond.methodLink RX7 71 yX1_fits ∈ BW := bw2 (i := 25) (by decide +kernel) rfl
theorem tw266 : Cond.static yX1_fits ∈ BW := bw2 (i := 26) (by decide +kernel) rfl
set_option maxRecDepth 20000 in
theorem tw267 : Cond.code yX1_fits cX1_fits 4 (some .boolean) ∈ BW := bw2 (i := 27) rfl rfl
theorem tw268 : Cond.methodLink RX1 7 yX5_fitsInMemory ∈ BW := bw2 (i := 28) (by decide +kernel) rfl
theorem tw269 : Cond.methodLink RX7 83 yX1_make ∈ BW := bw2 (i := 29) (by decide +kernel) rfl
theorem tw270 : Cond.instanceMethod yX1_make ∈ BW := bw2 (i := 30) (by decide +kernel) rfl
theorem tw271 : Cond.selects RX1 yX1_make yX1_make ∈ BW := bw2 (i := 31) (by decide +kernel) rfl
set_option maxRecDepth 20000 in
theorem tw272 : Cond.code yX1_make cX1_make 4 none ∈ BW := bw2 (i := 32) rfl rfl
theorem tw273 : Cond.methodLink RX1 11 ⟨"DoorbellDrive$Completion", "lay", "(II)V"⟩ ∈ BW := bw2 (i := 33) (by decide +kernel) rfl
theorem tw274 : Cond.sameMethod "DoorbellDrive$Completion" "DoorbellDrive$Ring" "lay" "(II)V" ∈ BW := bw2 (i := 34) (by decide +kernel) rfl
theorem tw276 : Cond.selects RX1 ⟨"DoorbellDrive$Completion", "lay", "(II)V"⟩ yX5_lay ∈ BW := bw2 (i := 36) (by decide +kernel) rfl
theorem tw277 : Cond.instanceMethod yX5_lay ∈ BW := bw2 (i := 37) (by decide +kernel) rfl
set_option maxRecDepth 20000 in
theorem tw278 : Cond.code yX5_lay cX5_lay 3 none ∈ BW := bw2 (i := 38) rfl rfl
theorem tw279 : Cond.methodLink RX7 87 yX6_make ∈ BW := bw2 (i := 39) (by decide +kernel) rfl
theorem tw280 : Cond.instanceMethod yX6_make ∈ BW := bw2 (i := 40) (by decide +kernel) rfl
theorem tw281 : Cond.selects RX6 yX6_make yX6_make ∈ BW := bw2 (i := 41) (by decide +kernel) rfl
set_option maxRecDepth 20000 in
theorem tw282 : Cond.code yX6_make cX6_make 4 none ∈ BW := bw2 (i := 42) rfl rfl
theorem tw283 : Cond.methodLink RX6 13 ⟨"DoorbellDrive$Submission", "lay", "(II)V"⟩ ∈ BW := bw2 (i := 43) (by decide +kernel) rfl
theorem tw284 : Cond.sameMethod "DoorbellDrive$Submission" "DoorbellDrive$Ring" "lay" "(II)V" ∈ BW := bw2 (i := 44) (by decide +kernel) rfl
theorem tw285 : Cond.selects RX6 ⟨"DoorbellDrive$Submission", "lay", "(II)V"⟩ yX5_lay ∈ BW := bw2 (i := 45) (by decide +kernel) rfl
theorem tw286 : Cond.methodLink RL 30 yX7_stop ∈ BW := bw2 (i := 46) (by decide +kernel) rfl
theorem tw287 : Cond.instanceMethod yX7_stop ∈ BW := bw2 (i := 47) (by decide +kernel) rfl
theorem tw288 : Cond.selects RX7 yX7_stop yX7_stop ∈ BW := bw2 (i := 48) (by decide +kernel) rfl
set_option maxRecDepth 20000 in
theorem tw289 : Cond.code yX7_stop cX7_stop 4 (some .int) ∈ BW := bw2 (i := 49) rfl rfl
theorem tw290 : Cond.methodLink RX7 90 yX3_cachedCount ∈ BW := bw2 (i := 50) (by decide +kernel) rfl
theorem tw291 : Cond.instanceMethod yX3_cachedCount ∈ BW := bw2 (i := 51) (by decide +kernel) rfl
theorem tw292 : Cond.selects RX3 yX3_cachedCount yX3_cachedCount ∈ BW := bw2 (i := 52) (by decide +kernel) rfl
set_option maxRecDepth 20000 in
theorem tw293 : Cond.code yX3_cachedCount cX3_cachedCount 1 (some .int) ∈ BW := bw2 (i := 53) rfl rfl
theorem tw294 : Cond.methodLink RX7 94 yX3_lose ∈ BW := bw2 (i := 54) (by decide +kernel) rfl
theorem tw295 : Cond.instanceMethod yX3_lose ∈ BW := bw2 (i := 55) (by decide +kernel) rfl
theorem tw296 : Cond.selects RX3 yX3_lose yX3_lose ∈ BW := bw2 (i := 56) (by decide +kernel) rfl
set_option maxRecDepth 20000 in
theorem tw297 : Cond.code yX3_lose cX3_lose 1 none ∈ BW := bw2 (i := 57) rfl rfl
theorem tw298 : Cond.methodLink RX7 97 yX3_flush ∈ BW := bw2 (i := 58) (by decide +kernel) rfl
theorem tw299 : Cond.instanceMethod yX3_flush ∈ BW := bw2 (i := 59) (by decide +kernel) rfl
theorem tw300 : Cond.selects RX3 yX3_flush yX3_flush ∈ BW := bw2 (i := 60) (by decide +kernel) rfl
set_option maxRecDepth 20000 in
theorem tw301 : Cond.code yX3_flush cX3_flush 2 none ∈ BW := bw2 (i := 61) rfl rfl
theorem tw302 : Cond.methodLink RX3 49 ⟨"java/lang/System", "arraycopy", "(Ljava/lang/Object;ILjava/lang/Object;II)V"⟩ ∈ BW := bw2 (i := 62) (by decide +kernel) rfl
theorem tw303 : Cond.static ⟨"java/lang/System", "arraycopy", "(Ljava/lang/Object;ILjava/lang/Object;II)V"⟩ ∈ BW := bw2 (i := 63) (by decide +kernel) rfl
theorem tw304 : Cond.native ⟨"java/lang/System", "arraycopy", "(Ljava/lang/Object;ILjava/lang/Object;II)V"⟩ ∈ BW := bw2 (i := 64) (by decide +kernel) rfl
theorem tw305 : Cond.methodLink RX7 100 ⟨"DoorbellDrive$Submission", "drop", "()V"⟩ ∈ BW := bw2 (i := 65) (by decide +kernel) rfl
theorem tw306 : Cond.sameMethod "DoorbellDrive$Submission" "DoorbellDrive$Ring" "drop" "()V" ∈ BW := bw2 (i := 66) (by decide +kernel) rfl
theorem tw308 : Cond.selects RX6 ⟨"DoorbellDrive$Submission", "drop", "()V"⟩ yX5_drop ∈ BW := bw2 (i := 68) (by decide +kernel) rfl
theorem tw309 : Cond.instanceMethod yX5_drop ∈ BW := bw2 (i := 69) (by decide +kernel) rfl
set_option maxRecDepth 20000 in
theorem tw310 : Cond.code yX5_drop cX5_drop 1 none ∈ BW := bw2 (i := 70) rfl rfl
theorem tw311 : Cond.methodLink RX7 103 ⟨"DoorbellDrive$Completion", "drop", "()V"⟩ ∈ BW := bw2 (i := 71) (by decide +kernel) rfl
theorem tw312 : Cond.sameMethod "DoorbellDrive$Completion" "DoorbellDrive$Ring" "drop" "()V" ∈ BW := bw2 (i := 72) (by decide +kernel) rfl
theorem tw313 : Cond.selects RX1 ⟨"DoorbellDrive$Completion", "drop", "()V"⟩ yX5_drop ∈ BW := bw2 (i := 73) (by decide +kernel) rfl
theorem tw314 : Cond.methodLink RL 35 yX7_ring ∈ BW := bw2 (i := 74) (by decide +kernel) rfl
theorem tw315 : Cond.instanceMethod yX7_ring ∈ BW := bw2 (i := 75) (by decide +kernel) rfl
theorem tw316 : Cond.selects RX7 yX7_ring yX7_ring ∈ BW := bw2 (i := 76) (by decide +kernel) rfl
set_option maxRecDepth 20000 in
theorem tw317 : Cond.code yX7_ring cX7_ring 3 (some .int) ∈ BW := bw2 (i := 77) rfl rfl
theorem tw318 : Cond.methodLink RX7 104 yX7_hasSubmission ∈ BW := bw2 (i := 78) (by decide +kernel) rfl
theorem tw320 : Cond.instanceMethod yX7_hasSubmission ∈ BW := bw2 (i := 80) (by decide +kernel) rfl
set_option maxRecDepth 20000 in
theorem tw321 : Cond.code yX7_hasSubmission cX7_hasSubmission 3 (some .boolean) ∈ BW := bw2 (i := 81) rfl rfl
theorem tw322 : Cond.constantLong RX7 165 4 ∈ BW := bw2 (i := 82) (by decide +kernel) rfl
theorem tw323 : Cond.methodLink RX7 107 ⟨"DoorbellDrive$Submission", "hasPlace", "(I)Z"⟩ ∈ BW := bw2 (i := 83) (by decide +kernel) rfl
theorem tw324 : Cond.sameMethod "DoorbellDrive$Submission" "DoorbellDrive$Ring" "hasPlace" "(I)Z" ∈ BW := bw2 (i := 84) (by decide +kernel) rfl
theorem tw326 : Cond.selects RX6 ⟨"DoorbellDrive$Submission", "hasPlace", "(I)Z"⟩ yX5_hasPlace ∈ BW := bw2 (i := 86) (by decide +kernel) rfl
theorem tw327 : Cond.instanceMethod yX5_hasPlace ∈ BW := bw2 (i := 87) (by decide +kernel) rfl
set_option maxRecDepth 20000 in
theorem tw328 : Cond.code yX5_hasPlace cX5_hasPlace 2 (some .boolean) ∈ BW := bw2 (i := 88) rfl rfl
theorem tw329 : Cond.methodLink RX7 114 ⟨"DoorbellDrive$Submission", "held", "()I"⟩ ∈ BW := bw2 (i := 89) (by decide +kernel) rfl
theorem tw330 : Cond.sameMethod "DoorbellDrive$Submission" "DoorbellDrive$Ring" "held" "()I" ∈ BW := bw2 (i := 90) (by decide +kernel) rfl
theorem tw332 : Cond.selects RX6 ⟨"DoorbellDrive$Submission", "held", "()I"⟩ yX5_held ∈ BW := bw2 (i := 92) (by decide +kernel) rfl
theorem tw333 : Cond.instanceMethod yX5_held ∈ BW := bw2 (i := 93) (by decide +kernel) rfl
set_option maxRecDepth 20000 in
theorem tw334 : Cond.code yX5_held cX5_held 1 (some .int) ∈ BW := bw2 (i := 94) rfl rfl
theorem tw335 : Cond.methodLink RX5 40 yX5_fromHeadTo ∈ BW := bw2 (i := 95) (by decide +kernel) rfl
theorem tw336 : Cond.instanceMethod yX5_fromHeadTo ∈ BW := bw2 (i := 96) (by decide +kernel) rfl
theorem tw337 : Cond.sameMethod "DoorbellDrive$Ring" "DoorbellDrive$Ring" "fromHeadTo" "(I)I" ∈ BW := bw2 (i := 97) (by decide +kernel) rfl
theorem tw338 : Cond.selects RX1 yX5_fromHeadTo yX5_fromHeadTo ∈ BW := bw2 (i := 98) (by decide +kernel) rfl
theorem tw339 : Cond.selects RX6 yX5_fromHeadTo yX5_fromHeadTo ∈ BW := bw2 (i := 99) (by decide +kernel) rfl
set_option maxRecDepth 20000 in
theorem tw340 : Cond.code yX5_fromHeadTo cX5_fromHeadTo 2 (some .int) ∈ BW := bw2 (i := 100) rfl rfl
theorem tw341 : Cond.methodLink RL 40 yX7_seen ∈ BW := bw2 (i := 101) (by decide +kernel) rfl
theorem tw342 : Cond.instanceMethod yX7_seen ∈ BW := bw2 (i := 102) (by decide +kernel) rfl
theorem tw343 : Cond.selects RX7 yX7_seen yX7_seen ∈ BW := bw2 (i := 103) (by decide +kernel) rfl
set_option maxRecDepth 20000 in
theorem tw344 : Cond.code yX7_seen cX7_seen 3 (some .int) ∈ BW := bw2 (i := 104) rfl rfl
theorem tw345 : Cond.methodLink RX7 117 yX7_hasCompletion ∈ BW := bw2 (i := 105) (by decide +kernel) rfl
theorem tw347 : Cond.instanceMethod yX7_hasCompletion ∈ BW := bw2 (i := 107) (by decide +kernel) rfl
set_option maxRecDepth 20000 in
theorem tw348 : Cond.code yX7_hasCompletion cX7_hasCompletion 3 (some .boolean) ∈ BW := bw2 (i := 108) rfl rfl
theorem tw349 : Cond.methodLink RX7 120 yX1_reaches ∈ BW := bw2 (i := 109) (by decide +kernel) rfl
theorem tw350 : Cond.instanceMethod yX1_reaches ∈ BW := bw2 (i := 110) (by decide +kernel) rfl
theorem tw351 : Cond.selects RX1 yX1_reaches yX1_reaches ∈ BW := bw2 (i := 111) (by decide +kernel) rfl
set_option maxRecDepth 20000 in
theorem tw352 : Cond.code yX1_reaches cX1_reaches 2 (some .boolean) ∈ BW := bw2 (i := 112) rfl rfl
theorem tw353 : Cond.methodLink RX1 35 ⟨"DoorbellDrive$Completion", "hasPlace", "(I)Z"⟩ ∈ BW := bw2 (i := 113) (by decide +kernel) rfl
theorem tw354 : Cond.sameMethod "DoorbellDrive$Completion" "DoorbellDrive$Ring" "hasPlace" "(I)Z" ∈ BW := bw2 (i := 114) (by decide +kernel) rfl
theorem tw355 : Cond.selects RX1 ⟨"DoorbellDrive$Completion", "hasPlace", "(I)Z"⟩ yX5_hasPlace ∈ BW := bw2 (i := 115) (by decide +kernel) rfl
theorem tw356 : Cond.methodLink RX1 39 ⟨"DoorbellDrive$Completion", "fromHeadTo", "(I)I"⟩ ∈ BW := bw2 (i := 116) (by decide +kernel) rfl
theorem tw357 : Cond.sameMethod "DoorbellDrive$Completion" "DoorbellDrive$Ring" "fromHeadTo" "(I)I" ∈ BW := bw2 (i := 117) (by decide +kernel) rfl
theorem tw359 : Cond.selects RX1 ⟨"DoorbellDrive$Completion", "fromHeadTo", "(I)I"⟩ yX5_fromHeadTo ∈ BW := bw2 (i := 119) (by decide +kernel) rfl
theorem tw360 : Cond.methodLink RX1 42 ⟨"DoorbellDrive$Completion", "held", "()I"⟩ ∈ BW := bw2 (i := 120) (by decide +kernel) rfl
theorem tw361 : Cond.sameMethod "DoorbellDrive$Completion" "DoorbellDrive$Ring" "held" "()I" ∈ BW := bw2 (i := 121) (by decide +kernel) rfl
theorem tw362 : Cond.selects RX1 ⟨"DoorbellDrive$Completion", "held", "()I"⟩ yX5_held ∈ BW := bw2 (i := 122) (by decide +kernel) rfl
theorem tw363 : Cond.methodLink RX7 126 ⟨"DoorbellDrive$Completion", "held", "()I"⟩ ∈ BW := bw2 (i := 123) (by decide +kernel) rfl
theorem tw364 : Cond.methodLink RL 44 yX7_run ∈ BW := bw2 (i := 124) (by decide +kernel) rfl
theorem tw365 : Cond.instanceMethod yX7_run ∈ BW := bw2 (i := 125) (by decide +kernel) rfl
theorem tw366 : Cond.selects RX7 yX7_run yX7_run ∈ BW := bw2 (i := 126) (by decide +kernel) rfl
set_option maxRecDepth 20000 in
theorem tw367 : Cond.code yX7_run cX7_run 4 (some .int) ∈ BW := bw2 (i := 127) rfl rfl
theorem tw368 : Cond.methodLink RX7 127 yX7_nextReady ∈ BW := bw2 (i := 128) (by decide +kernel) rfl
theorem tw370 : Cond.instanceMethod yX7_nextReady ∈ BW := bw2 (i := 130) (by decide +kernel) rfl
set_option maxRecDepth 20000 in
theorem tw371 : Cond.code yX7_nextReady cX7_nextReady 3 (some .int) ∈ BW := bw2 (i := 131) rfl rfl
theorem tw372 : Cond.methodLink RX7 183 yX7_isReady ∈ BW := bw2 (i := 132) (by decide +kernel) rfl
theorem tw374 : Cond.instanceMethod yX7_isReady ∈ BW := bw2 (i := 134) (by decide +kernel) rfl
set_option maxRecDepth 20000 in
theorem tw375 : Cond.code yX7_isReady cX7_isReady 2 (some .boolean) ∈ BW := bw2 (i := 135) rfl rfl
theorem tw376 : Cond.methodLink RX7 187 yX1_isFull ∈ BW := bw2 (i := 136) (by decide +kernel) rfl
theorem tw377 : Cond.instanceMethod yX1_isFull ∈ BW := bw2 (i := 137) (by decide +kernel) rfl
theorem tw378 : Cond.selects RX1 yX1_isFull yX1_isFull ∈ BW := bw2 (i := 138) (by decide +kernel) rfl
set_option maxRecDepth 20000 in
theorem tw379 : Cond.code yX1_isFull cX1_isFull 1 (some .boolean) ∈ BW := bw2 (i := 139) rfl rfl
theorem tw380 : Cond.methodLink RX1 28 ⟨"DoorbellDrive$Completion", "behind", "(I)I"⟩ ∈ BW := bw2 (i := 140) (by decide +kernel) rfl
theorem tw381 : Cond.sameMethod "DoorbellDrive$Completion" "DoorbellDrive$Ring" "behind" "(I)I" ∈ BW := bw2 (i := 141) (by decide +kernel) rfl
theorem tw383 : Cond.selects RX1 ⟨"DoorbellDrive$Completion", "behind", "(I)I"⟩ yX5_behind ∈ BW := bw2 (i := 143) (by decide +kernel) rfl
theorem tw384 : Cond.instanceMethod yX5_behind ∈ BW := bw2 (i := 144) (by decide +kernel) rfl
set_option maxRecDepth 20000 in
theorem tw385 : Cond.code yX5_behind cX5_behind 2 (some .int) ∈ BW := bw2 (i := 145) rfl rfl
theorem tw386 : Cond.methodLink RX7 130 yX7_doCommandOf ∈ BW := bw2 (i := 146) (by decide +kernel) rfl
theorem tw388 : Cond.instanceMethod yX7_doCommandOf ∈ BW := bw2 (i := 148) (by decide +kernel) rfl
set_option maxRecDepth 20000 in
theorem tw389 : Cond.code yX7_doCommandOf cX7_doCommandOf 4 none ∈ BW := bw2 (i := 149) rfl rfl
theorem tw390 : Cond.methodLink RX7 190 yX6_addressOfHead ∈ BW := bw2 (i := 150) (by decide +kernel) rfl
theorem tw391 : Cond.instanceMethod yX6_addressOfHead ∈ BW := bw2 (i := 151) (by decide +kernel) rfl
theorem tw392 : Cond.selects RX6 yX6_addressOfHead yX6_addressOfHead ∈ BW := bw2 (i := 152) (by decide +kernel) rfl
set_option maxRecDepth 20000 in
theorem tw393 : Cond.code yX6_addressOfHead cX6_addressOfHead 1 (some .int) ∈ BW := bw2 (i := 153) rfl rfl
theorem tw394 : Cond.methodLink RX7 193 yX0_take ∈ BW := bw2 (i := 154) (by decide +kernel) rfl
theorem tw395 : Cond.instanceMethod yX0_take ∈ BW := bw2 (i := 155) (by decide +kernel) rfl
theorem tw396 : Cond.selects RX0 yX0_take yX0_take ∈ BW := bw2 (i := 156) (by decide +kernel) rfl
set_option maxRecDepth 20000 in
theorem tw397 : Cond.code yX0_take cX0_take 5 none ∈ BW := bw2 (i := 157) rfl rfl
theorem tw398 : Cond.methodLink RX0 7 yX4_at ∈ BW := bw2 (i := 158) (by decide +kernel) rfl
theorem tw399 : Cond.constantLong RX0 13 255 ∈ BW := bw2 (i := 159) (by decide +kernel) rfl
theorem tw400 : Cond.constantLong RX0 21 65535 ∈ BW := bw2 (i := 160) (by decide +kernel) rfl
theorem tw401 : Cond.methodLink RX7 197 ⟨"DoorbellDrive$Submission", "behind", "(I)I"⟩ ∈ BW := bw2 (i := 161) (by decide +kernel) rfl
theorem tw402 : Cond.sameMethod "DoorbellDrive$Submission" "DoorbellDrive$Ring" "behind" "(I)I" ∈ BW := bw2 (i := 162) (by decide +kernel) rfl
theorem tw403 : Cond.selects RX6 ⟨"DoorbellDrive$Submission", "behind", "(I)I"⟩ yX5_behind ∈ BW := bw2 (i := 163) (by decide +kernel) rfl
theorem tw404 : Cond.methodLink RX7 204 yX7_doAdminOp ∈ BW := bw2 (i := 164) (by decide +kernel) rfl
theorem tw406 : Cond.instanceMethod yX7_doAdminOp ∈ BW := bw2 (i := 166) (by decide +kernel) rfl
set_option maxRecDepth 20000 in
theorem tw407 : Cond.code yX7_doAdminOp cX7_doAdminOp 1 (some .int) ∈ BW := bw2 (i := 167) rfl rfl
theorem tw408 : Cond.methodLink RX7 229 yX7_makeCompletion ∈ BW := bw2 (i := 168) (by decide +kernel) rfl
theorem tw410 : Cond.instanceMethod yX7_makeCompletion ∈ BW := bw2 (i := 170) (by decide +kernel) rfl
set_option maxRecDepth 20000 in
theorem tw411 : Cond.code yX7_makeCompletion cX7_makeCompletion 1 (some .int) ∈ BW := bw2 (i := 171) rfl rfl
theorem tw412 : Cond.methodLink RX7 320 yX7_isBesideAdmin ∈ BW := bw2 (i := 172) (by decide +kernel) rfl
theorem tw413 : Cond.static yX7_isBesideAdmin ∈ BW := bw2 (i := 173) (by decide +kernel) rfl
set_option maxRecDepth 20000 in
theorem tw414 : Cond.code yX7_isBesideAdmin cX7_isBesideAdmin 2 (some .boolean) ∈ BW := bw2 (i := 174) rfl rfl
theorem tw415 : Cond.methodLink RX7 232 yX7_makeSubmission ∈ BW := bw2 (i := 175) (by decide +kernel) rfl
theorem tw417 : Cond.instanceMethod yX7_makeSubmission ∈ BW := bw2 (i := 177) (by decide +kernel) rfl
set_option maxRecDepth 20000 in
theorem tw418 : Cond.code yX7_makeSubmission cX7_makeSubmission 2 (some .int) ∈ BW := bw2 (i := 178) rfl rfl
theorem tw419 : Cond.methodLink RX7 235 yX7_dropCompletion ∈ BW := bw2 (i := 179) (by decide +kernel) rfl
theorem tw421 : Cond.instanceMethod yX7_dropCompletion ∈ BW := bw2 (i := 181) (by decide +kernel) rfl
set_option maxRecDepth 20000 in
theorem tw422 : Cond.code yX7_dropCompletion cX7_dropCompletion 1 (some .int) ∈ BW := bw2 (i := 182) rfl rfl
theorem tw423 : Cond.methodLink RX7 323 yX7_isAnsweredTo ∈ BW := bw2 (i := 183) (by decide +kernel) rfl
theorem tw425 : Cond.instanceMethod yX7_isAnsweredTo ∈ BW := bw2 (i := 185) (by decide +kernel) rfl
set_option maxRecDepth 20000 in
theorem tw426 : Cond.code yX7_isAnsweredTo cX7_isAnsweredTo 4 (some .boolean) ∈ BW := bw2 (i := 186) rfl rfl
theorem tw427 : Cond.methodLink RX7 238 yX7_dropSubmission ∈ BW := bw2 (i := 187) (by decide +kernel) rfl
theorem tw429 : Cond.instanceMethod yX7_dropSubmission ∈ BW := bw2 (i := 189) (by decide +kernel) rfl
set_option maxRecDepth 20000 in
theorem tw430 : Cond.code yX7_dropSubmission cX7_dropSubmission 1 (some .int) ∈ BW := bw2 (i := 190) rfl rfl
theorem tw431 : Cond.methodLink RX7 241 yX7_switchCaching ∈ BW := bw2 (i := 191) (by decide +kernel) rfl
theorem tw433 : Cond.instanceMethod yX7_switchCaching ∈ BW := bw2 (i := 193) (by decide +kernel) rfl
set_option maxRecDepth 20000 in
theorem tw434 : Cond.code yX7_switchCaching cX7_switchCaching 1 (some .int) ∈ BW := bw2 (i := 194) rfl rfl
theorem tw435 : Cond.methodLink RX7 149 yX3_isCaching ∈ BW := bw2 (i := 195) (by decide +kernel) rfl
theorem tw436 : Cond.instanceMethod yX3_isCaching ∈ BW := bw2 (i := 196) (by decide +kernel) rfl
theorem tw437 : Cond.selects RX3 yX3_isCaching yX3_isCaching ∈ BW := bw2 (i := 197) (by decide +kernel) rfl
set_option maxRecDepth 20000 in
theorem tw438 : Cond.code yX3_isCaching cX3_isCaching 1 (some .boolean) ∈ BW := bw2 (i := 198) rfl rfl
theorem tw439 : Cond.methodLink RX7 326 yX3_setCaching ∈ BW := bw2 (i := 199) (by decide +kernel) rfl
theorem tw440 : Cond.instanceMethod yX3_setCaching ∈ BW := bw2 (i := 200) (by decide +kernel) rfl
theorem tw441 : Cond.selects RX3 yX3_setCaching yX3_setCaching ∈ BW := bw2 (i := 201) (by decide +kernel) rfl
set_option maxRecDepth 20000 in
theorem tw442 : Cond.code yX3_setCaching cX3_setCaching 2 none ∈ BW := bw2 (i := 202) rfl rfl
theorem tw443 : Cond.methodLink RX3 34 yX3_flush ∈ BW := bw2 (i := 203) (by decide +kernel) rfl
theorem tw444 : Cond.methodLink RX7 244 yX7_report ∈ BW := bw2 (i := 204) (by decide +kernel) rfl
theorem tw446 : Cond.instanceMethod yX7_report ∈ BW := bw2 (i := 206) (by decide +kernel) rfl
set_option maxRecDepth 20000 in
theorem tw447 : Cond.code yX7_report cX7_report 1 (some .int) ∈ BW := bw2 (i := 207) rfl rfl
theorem tw448 : Cond.methodLink RX7 288 yX2_layByPages ∈ BW := bw2 (i := 208) (by decide +kernel) rfl
theorem tw449 : Cond.instanceMethod yX2_layByPages ∈ BW := bw2 (i := 209) (by decide +kernel) rfl
theorem tw450 : Cond.selects RX2 yX2_layByPages yX2_layByPages ∈ BW := bw2 (i := 210) (by decide +kernel) rfl
set_option maxRecDepth 20000 in
theorem tw451 : Cond.code yX2_layByPages cX2_layByPages 5 (some .boolean) ∈ BW := bw2 (i := 211) rfl rfl
theorem tw452 : Cond.methodLink RX2 21 yX4_holds ∈ BW := bw2 (i := 212) (by decide +kernel) rfl
theorem tw453 : Cond.methodLink RX2 34 yX4_placeInPage ∈ BW := bw2 (i := 213) (by decide +kernel) rfl
theorem tw454 : Cond.static yX4_placeInPage ∈ BW := bw2 (i := 214) (by decide +kernel) rfl
set_option maxRecDepth 20000 in
theorem tw455 : Cond.code yX4_placeInPage cX4_placeInPage 1 (some .int) ∈ BW := bw2 (i := 215) rfl rfl
theorem tw456 : Cond.methodLink RX2 38 yJ9_min ∈ BW := bw2 (i := 216) (by decide +kernel) rfl
theorem tw457 : Cond.static yJ9_min ∈ BW := bw2 (i := 217) (by decide +kernel) rfl
set_option maxRecDepth 20000 in
theorem tw458 : Cond.code yJ9_min cJ9_min 2 (some .int) ∈ BW := bw2 (i := 218) rfl rfl
theorem tw459 : Cond.methodLink RX2 50 yX2_addPage ∈ BW := bw2 (i := 219) (by decide +kernel) rfl
theorem tw461 : Cond.instanceMethod yX2_addPage ∈ BW := bw2 (i := 221) (by decide +kernel) rfl
set_option maxRecDepth 20000 in
theorem tw462 : Cond.code yX2_addPage cX2_addPage 4 (some .boolean) ∈ BW := bw2 (i := 222) rfl rfl
theorem tw463 : Cond.methodLink RX2 62 yX4_holdsPage ∈ BW := bw2 (i := 223) (by decide +kernel) rfl
theorem tw464 : Cond.static yX4_holdsPage ∈ BW := bw2 (i := 224) (by decide +kernel) rfl
set_option maxRecDepth 20000 in
theorem tw465 : Cond.code yX4_holdsPage cX4_holdsPage 2 (some .boolean) ∈ BW := bw2 (i := 225) rfl rfl
theorem tw466 : Cond.constantLong RX4 15 16 ∈ BW := bw2 (i := 226) (by decide +kernel) rfl
theorem tw467 : Cond.methodLink RX2 54 yX2_addList ∈ BW := bw2 (i := 227) (by decide +kernel) rfl
theorem tw469 : Cond.instanceMethod yX2_addList ∈ BW := bw2 (i := 229) (by decide +kernel) rfl
set_option maxRecDepth 20000 in
theorem tw470 : Cond.code yX2_addList cX2_addList 6 (some .boolean) ∈ BW := bw2 (i := 230) rfl rfl
theorem tw471 : Cond.methodLink RX2 58 yX4_at ∈ BW := bw2 (i := 231) (by decide +kernel) rfl
theorem tw472 : Cond.methodLink RX7 302 yJ7_fill_J ∈ BW := bw2 (i := 232) (by decide +kernel) rfl
theorem tw473 : Cond.static yJ7_fill_J ∈ BW := bw2 (i := 233) (by decide +kernel) rfl
set_option maxRecDepth 20000 in
theorem tw474 : Cond.code yJ7_fill_J cJ7_fill_J 5 none ∈ BW := bw2 (i := 234) rfl rfl
theorem tw475 : Cond.constantLong RX7 330 64 ∈ BW := bw2 (i := 235) (by decide +kernel) rfl
theorem tw476 : Cond.methodLink RX7 299 yX7_rowToData ∈ BW := bw2 (i := 236) (by decide +kernel) rfl
theorem tw478 : Cond.instanceMethod yX7_rowToData ∈ BW := bw2 (i := 238) (by decide +kernel) rfl
set_option maxRecDepth 20000 in
theorem tw479 : Cond.code yX7_rowToData cX7_rowToData 3 none ∈ BW := bw2 (i := 239) rfl rfl
theorem tw480 : Cond.methodLink RX7 314 yX2_address ∈ BW := bw3 (i := 0) (by decide +kernel) rfl
theorem tw481 : Cond.instanceMethod yX2_address ∈ BW := bw3 (i := 1) (by decide +kernel) rfl
theorem tw482 : Cond.selects RX2 yX2_address yX2_address ∈ BW := bw3 (i := 2) (by decide +kernel) rfl
set_option maxRecDepth 20000 in
theorem tw483 : Cond.code yX2_address cX2_address 4 (some .int) ∈ BW := bw3 (i := 3) rfl rfl
theorem tw484 : Cond.methodLink RX7 247 yX7_tellCached ∈ BW := bw3 (i := 4) (by decide +kernel) rfl
theorem tw486 : Cond.instanceMethod yX7_tellCached ∈ BW := bw3 (i := 6) (by decide +kernel) rfl
set_option maxRecDepth 20000 in
theorem tw487 : Cond.code yX7_tellCached cX7_tellCached 1 (some .int) ∈ BW := bw3 (i := 7) rfl rfl
theorem tw488 : Cond.methodLink RX7 207 yX7_doBlockOp ∈ BW := bw3 (i := 8) (by decide +kernel) rfl
theorem tw490 : Cond.instanceMethod yX7_doBlockOp ∈ BW := bw3 (i := 10) (by decide +kernel) rfl
set_option maxRecDepth 20000 in
theorem tw491 : Cond.code yX7_doBlockOp cX7_doBlockOp 2 (some .int) ∈ BW := bw3 (i := 11) rfl rfl
theorem tw492 : Cond.methodLink RX7 250 yX7_wrongOfBlockOp ∈ BW := bw3 (i := 12) (by decide +kernel) rfl
theorem tw494 : Cond.instanceMethod yX7_wrongOfBlockOp ∈ BW := bw3 (i := 14) (by decide +kernel) rfl
set_option maxRecDepth 20000 in
theorem tw495 : Cond.code yX7_wrongOfBlockOp cX7_wrongOfBlockOp 2 (some .int) ∈ BW := bw3 (i := 15) rfl rfl
theorem tw496 : Cond.methodLink RX7 272 yX3_isBlock ∈ BW := bw3 (i := 16) (by decide +kernel) rfl
theorem tw497 : Cond.static yX3_isBlock ∈ BW := bw3 (i := 17) (by decide +kernel) rfl
set_option maxRecDepth 20000 in
theorem tw498 : Cond.code yX3_isBlock cX3_isBlock 2 (some .boolean) ∈ BW := bw3 (i := 18) rfl rfl
theorem tw499 : Cond.constantLong RX3 24 64 ∈ BW := bw3 (i := 19) (by decide +kernel) rfl
theorem tw500 : Cond.methodLink RX7 281 yX2_fitsStraight ∈ BW := bw3 (i := 20) (by decide +kernel) rfl
theorem tw501 : Cond.static yX2_fitsStraight ∈ BW := bw3 (i := 21) (by decide +kernel) rfl
set_option maxRecDepth 20000 in
theorem tw502 : Cond.code yX2_fitsStraight cX2_fitsStraight 3 (some .boolean) ∈ BW := bw3 (i := 22) rfl rfl
theorem tw503 : Cond.constantLong RX2 65 1024 ∈ BW := bw3 (i := 23) (by decide +kernel) rfl
theorem tw504 : Cond.methodLink RX7 253 yX7_storeFromData ∈ BW := bw3 (i := 24) (by decide +kernel) rfl
theorem tw506 : Cond.instanceMethod yX7_storeFromData ∈ BW := bw3 (i := 26) (by decide +kernel) rfl
set_option maxRecDepth 20000 in
theorem tw507 : Cond.code yX7_storeFromData cX7_storeFromData 3 none ∈ BW := bw3 (i := 27) rfl rfl
theorem tw508 : Cond.methodLink RX7 308 yX3_store ∈ BW := bw3 (i := 28) (by decide +kernel) rfl
theorem tw509 : Cond.instanceMethod yX3_store ∈ BW := bw3 (i := 29) (by decide +kernel) rfl
theorem tw510 : Cond.selects RX3 yX3_store yX3_store ∈ BW := bw3 (i := 30) (by decide +kernel) rfl
set_option maxRecDepth 20000 in
theorem tw511 : Cond.code yX3_store cX3_store 4 none ∈ BW := bw3 (i := 31) rfl rfl
theorem tw512 : Cond.methodLink RX3 26 yX3_isBlock ∈ BW := bw3 (i := 32) (by decide +kernel) rfl
theorem tw513 : Cond.methodLink RX3 41 yX3_placeOf ∈ BW := bw3 (i := 33) (by decide +kernel) rfl
theorem tw515 : Cond.instanceMethod yX3_placeOf ∈ BW := bw3 (i := 35) (by decide +kernel) rfl
set_option maxRecDepth 20000 in
theorem tw516 : Cond.code yX3_placeOf cX3_placeOf 3 (some .int) ∈ BW := bw3 (i := 36) rfl rfl
theorem tw517 : Cond.methodLink RX3 55 yX3_placeForNew ∈ BW := bw3 (i := 37) (by decide +kernel) rfl
theorem tw519 : Cond.instanceMethod yX3_placeForNew ∈ BW := bw3 (i := 39) (by decide +kernel) rfl
set_option maxRecDepth 20000 in
theorem tw520 : Cond.code yX3_placeForNew cX3_placeForNew 3 (some .int) ∈ BW := bw3 (i := 40) rfl rfl
theorem tw521 : Cond.methodLink RX7 311 yX7_endStoring ∈ BW := bw3 (i := 41) (by decide +kernel) rfl
theorem tw523 : Cond.instanceMethod yX7_endStoring ∈ BW := bw3 (i := 43) (by decide +kernel) rfl
set_option maxRecDepth 20000 in
theorem tw524 : Cond.code yX7_endStoring cX7_endStoring 1 none ∈ BW := bw3 (i := 44) rfl rfl
theorem tw525 : Cond.methodLink RX7 256 yX7_readToData ∈ BW := bw3 (i := 45) (by decide +kernel) rfl
theorem tw527 : Cond.instanceMethod yX7_readToData ∈ BW := bw3 (i := 47) (by decide +kernel) rfl
set_option maxRecDepth 20000 in
theorem tw528 : Cond.code yX7_readToData cX7_readToData 2 none ∈ BW := bw3 (i := 48) rfl rfl
theorem tw529 : Cond.methodLink RX7 295 yX3_load ∈ BW := bw3 (i := 49) (by decide +kernel) rfl
theorem tw530 : Cond.instanceMethod yX3_load ∈ BW := bw3 (i := 50) (by decide +kernel) rfl
theorem tw531 : Cond.selects RX3 yX3_load yX3_load ∈ BW := bw3 (i := 51) (by decide +kernel) rfl
set_option maxRecDepth 20000 in
theorem tw532 : Cond.code yX3_load cX3_load 4 none ∈ BW := bw3 (i := 52) rfl rfl
theorem tw533 : Cond.methodLink RX7 259 yX7_sameAsData ∈ BW := bw3 (i := 53) (by decide +kernel) rfl
theorem tw535 : Cond.instanceMethod yX7_sameAsData ∈ BW := bw3 (i := 55) (by decide +kernel) rfl
set_option maxRecDepth 20000 in
theorem tw536 : Cond.code yX7_sameAsData cX7_sameAsData 3 (some .boolean) ∈ BW := bw3 (i := 56) rfl rfl
theorem tw537 : Cond.methodLink RX7 262 yX7_storeZeros ∈ BW := bw3 (i := 57) (by decide +kernel) rfl
theorem tw539 : Cond.instanceMethod yX7_storeZeros ∈ BW := bw3 (i := 59) (by decide +kernel) rfl
set_option maxRecDepth 20000 in
theorem tw540 : Cond.code yX7_storeZeros cX7_storeZeros 2 none ∈ BW := bw3 (i := 60) rfl rfl
theorem tw541 : Cond.methodLink RX7 265 yX7_compareAndWrite ∈ BW := bw3 (i := 61) (by decide +kernel) rfl
theorem tw543 : Cond.instanceMethod yX7_compareAndWrite ∈ BW := bw3 (i := 63) (by decide +kernel) rfl
set_option maxRecDepth 20000 in
theorem tw544 : Cond.code yX7_compareAndWrite cX7_compareAndWrite 1 (some .int) ∈ BW := bw3 (i := 64) rfl rfl
theorem tw545 : Cond.methodLink RX7 292 yX2_layStraight ∈ BW := bw3 (i := 65) (by decide +kernel) rfl
theorem tw546 : Cond.instanceMethod yX2_layStraight ∈ BW := bw3 (i := 66) (by decide +kernel) rfl
theorem tw547 : Cond.selects RX2 yX2_layStraight yX2_layStraight ∈ BW := bw3 (i := 67) (by decide +kernel) rfl
set_option maxRecDepth 20000 in
theorem tw548 : Cond.code yX2_layStraight cX2_layStraight 3 none ∈ BW := bw3 (i := 68) rfl rfl
theorem tw549 : Cond.methodLink RX7 210 yX7_answer ∈ BW := bw3 (i := 69) (by decide +kernel) rfl
theorem tw551 : Cond.instanceMethod yX7_answer ∈ BW := bw3 (i := 71) (by decide +kernel) rfl
set_option maxRecDepth 20000 in
theorem tw552 : Cond.code yX7_answer cX7_answer 7 none ∈ BW := bw3 (i := 72) rfl rfl
theorem tw553 : Cond.methodLink RX7 217 yX1_addressOfTail ∈ BW := bw3 (i := 73) (by decide +kernel) rfl
theorem tw554 : Cond.instanceMethod yX1_addressOfTail ∈ BW := bw3 (i := 74) (by decide +kernel) rfl
theorem tw555 : Cond.selects RX1 yX1_addressOfTail yX1_addressOfTail ∈ BW := bw3 (i := 75) (by decide +kernel) rfl
set_option maxRecDepth 20000 in
theorem tw556 : Cond.code yX1_addressOfTail cX1_addressOfTail 1 (some .int) ∈ BW := bw3 (i := 76) rfl rfl
theorem tw557 : Cond.methodLink RX7 220 yX1_advance ∈ BW := bw3 (i := 77) (by decide +kernel) rfl
theorem tw558 : Cond.instanceMethod yX1_advance ∈ BW := bw3 (i := 78) (by decide +kernel) rfl
theorem tw559 : Cond.selects RX1 yX1_advance yX1_advance ∈ BW := bw3 (i := 79) (by decide +kernel) rfl
set_option maxRecDepth 20000 in
theorem tw560 : Cond.code yX1_advance cX1_advance 1 none ∈ BW := bw3 (i := 80) rfl rfl
theorem tw561 : Cond.methodLink RL 49 yX7_interrupts ∈ BW := bw3 (i := 81) (by decide +kernel) rfl
theorem tw562 : Cond.instanceMethod yX7_interrupts ∈ BW := bw3 (i := 82) (by decide +kernel) rfl
theorem tw563 : Cond.selects RX7 yX7_interrupts yX7_interrupts ∈ BW := bw3 (i := 83) (by decide +kernel) rfl
set_option maxRecDepth 20000 in
theorem tw564 : Cond.code yX7_interrupts cX7_interrupts 3 (some .int) ∈ BW := bw3 (i := 84) rfl rfl
theorem tw565 : Cond.methodLink RL 53 yX7_block ∈ BW := bw3 (i := 85) (by decide +kernel) rfl
theorem tw566 : Cond.instanceMethod yX7_block ∈ BW := bw3 (i := 86) (by decide +kernel) rfl
theorem tw567 : Cond.selects RX7 yX7_block yX7_block ∈ BW := bw3 (i := 87) (by decide +kernel) rfl
set_option maxRecDepth 20000 in
theorem tw568 : Cond.code yX7_block cX7_block 4 (some .long) ∈ BW := bw3 (i := 88) rfl rfl
theorem tw569 : Cond.methodLink RX7 134 yX3_onMedium ∈ BW := bw3 (i := 89) (by decide +kernel) rfl
theorem tw570 : Cond.instanceMethod yX3_onMedium ∈ BW := bw3 (i := 90) (by decide +kernel) rfl
theorem tw571 : Cond.selects RX3 yX3_onMedium yX3_onMedium ∈ BW := bw3 (i := 91) (by decide +kernel) rfl
set_option maxRecDepth 20000 in
theorem tw572 : Cond.code yX3_onMedium cX3_onMedium 3 (some .long) ∈ BW := bw3 (i := 92) rfl rfl
theorem tw573 : Cond.methodLink RX3 37 yX3_isLong ∈ BW := bw3 (i := 93) (by decide +kernel) rfl
theorem tw574 : Cond.static yX3_isLong ∈ BW := bw3 (i := 94) (by decide +kernel) rfl
set_option maxRecDepth 20000 in
theorem tw575 : Cond.code yX3_isLong cX3_isLong 2 (some .boolean) ∈ BW := bw3 (i := 95) rfl rfl
theorem tw576 : Cond.methodLink RX7 138 yX3_asRead ∈ BW := bw3 (i := 96) (by decide +kernel) rfl
theorem tw577 : Cond.instanceMethod yX3_asRead ∈ BW := bw3 (i := 97) (by decide +kernel) rfl
theorem tw578 : Cond.selects RX3 yX3_asRead yX3_asRead ∈ BW := bw3 (i := 98) (by decide +kernel) rfl
set_option maxRecDepth 20000 in
theorem tw579 : Cond.code yX3_asRead cX3_asRead 4 (some .long) ∈ BW := bw3 (i := 99) rfl rfl
theorem tw580 : Cond.methodLink RX3 45 yX3_onMedium ∈ BW := bw3 (i := 100) (by decide +kernel) rfl
theorem tw581 : Cond.methodLink RL 58 yX7_queue ∈ BW := bw3 (i := 101) (by decide +kernel) rfl
theorem tw582 : Cond.instanceMethod yX7_queue ∈ BW := bw3 (i := 102) (by decide +kernel) rfl
theorem tw583 : Cond.selects RX7 yX7_queue yX7_queue ∈ BW := bw3 (i := 103) (by decide +kernel) rfl
set_option maxRecDepth 20000 in
theorem tw584 : Cond.code yX7_queue cX7_queue 3 (some .int) ∈ BW := bw3 (i := 104) rfl rfl
theorem tw585 : Cond.methodLink RX7 141 yX7_tellOfSubmission ∈ BW := bw3 (i := 105) (by decide +kernel) rfl
theorem tw586 : Cond.static yX7_tellOfSubmission ∈ BW := bw3 (i := 106) (by decide +kernel) rfl
set_option maxRecDepth 20000 in
theorem tw587 : Cond.code yX7_tellOfSubmission cX7_tellOfSubmission 2 (some .int) ∈ BW := bw3 (i := 107) rfl rfl
theorem tw588 : Cond.methodLink RX7 145 yX7_tellOfCompletion ∈ BW := bw3 (i := 108) (by decide +kernel) rfl
theorem tw589 : Cond.static yX7_tellOfCompletion ∈ BW := bw3 (i := 109) (by decide +kernel) rfl
set_option maxRecDepth 20000 in
theorem tw590 : Cond.code yX7_tellOfCompletion cX7_tellOfCompletion 2 (some .int) ∈ BW := bw3 (i := 110) rfl rfl
theorem tw591 : Cond.methodLink RL 62 yX7_count ∈ BW := bw3 (i := 111) (by decide +kernel) rfl
theorem tw592 : Cond.instanceMethod yX7_count ∈ BW := bw3 (i := 112) (by decide +kernel) rfl
theorem tw593 : Cond.selects RX7 yX7_count yX7_count ∈ BW := bw3 (i := 113) (by decide +kernel) rfl
set_option maxRecDepth 20000 in
theorem tw594 : Cond.code yX7_count cX7_count 2 (some .int) ∈ BW := bw3 (i := 114) rfl rfl
theorem tw595 : Cond.classLink RL 10 RX8 ∈ BW := bw3 (i := 115) (by decide +kernel) rfl
theorem tw596 : Cond.instantiable RX8 30 ∈ BW := bw3 (i := 116) (by decide +kernel) rfl
theorem tw597 : Cond.methodLink RL 12 yX8_init ∈ BW := bw3 (i := 117) (by decide +kernel) rfl
theorem tw598 : Cond.instanceMethod yX8_init ∈ BW := bw3 (i := 118) (by decide +kernel) rfl
set_option maxRecDepth 20000 in
theorem tw599 : Cond.code yX8_init cX8_init 1 none ∈ BW := bw3 (i := 119) rfl rfl
theorem tw600 : Cond.methodLink RX8 1 objectInit ∈ BW := bw3 (i := 120) (by decide +kernel) rfl
theorem tw601 : Cond.classLink RX8 13 "[[J" ∈ BW := bw3 (i := 121) (by decide +kernel) rfl
theorem tw603 : Cond.fieldLink RX8 9 "DoorbellDriveModel" "memory" "[J" ∈ BW := bw3 (i := 123) (by decide +kernel) rfl
theorem tw604 : Cond.fieldLink RX8 15 "DoorbellDriveModel" "medium" "[[J" ∈ BW := bw3 (i := 124) (by decide +kernel) rfl
theorem tw605 : Cond.fieldLink RX8 18 "DoorbellDriveModel" "cached" "[[J" ∈ BW := bw3 (i := 125) (by decide +kernel) rfl
theorem tw606 : Cond.fieldLink RX8 21 "DoorbellDriveModel" "cachedBlock" "[I" ∈ BW := bw3 (i := 126) (by decide +kernel) rfl
theorem tw607 : Cond.fieldLink RX8 66 "DoorbellDriveModel" "cachedMany" "I" ∈ BW := bw3 (i := 127) (by decide +kernel) rfl
theorem tw608 : Cond.fieldLink RX8 115 "DoorbellDriveModel" "turn" "I" ∈ BW := bw3 (i := 128) (by decide +kernel) rfl
theorem tw609 : Cond.fieldLink RX8 112 "DoorbellDriveModel" "bits" "I" ∈ BW := bw3 (i := 129) (by decide +kernel) rfl
theorem tw610 : Cond.fieldLink RX8 25 "DoorbellDriveModel" "caching" "Z" ∈ BW := bw3 (i := 130) (by decide +kernel) rfl
theorem tw611 : Cond.fieldLink RX8 99 "DoorbellDriveModel" "on" "Z" ∈ BW := bw3 (i := 131) (by decide +kernel) rfl
theorem tw612 : Cond.fieldLink RX8 29 "DoorbellDriveModel" "is" "[Z" ∈ BW := bw3 (i := 132) (by decide +kernel) rfl
theorem tw613 : Cond.fieldLink RX8 33 "DoorbellDriveModel" "interrupts" "[Z" ∈ BW := bw3 (i := 133) (by decide +kernel) rfl
theorem tw614 : Cond.fieldLink RX8 36 "DoorbellDriveModel" "base" "[I" ∈ BW := bw3 (i := 134) (by decide +kernel) rfl
theorem tw615 : Cond.fieldLink RX8 39 "DoorbellDriveModel" "size" "[I" ∈ BW := bw3 (i := 135) (by decide +kernel) rfl
theorem tw616 : Cond.fieldLink RX8 42 "DoorbellDriveModel" "head" "[I" ∈ BW := bw3 (i := 136) (by decide +kernel) rfl
theorem tw617 : Cond.fieldLink RX8 45 "DoorbellDriveModel" "tail" "[I" ∈ BW := bw3 (i := 137) (by decide +kernel) rfl
theorem tw618 : Cond.fieldLink RX8 48 "DoorbellDriveModel" "answers" "[I" ∈ BW := bw3 (i := 138) (by decide +kernel) rfl
theorem tw619 : Cond.fieldLink RX8 51 "DoorbellDriveModel" "phase" "[I" ∈ BW := bw3 (i := 139) (by decide +kernel) rfl
theorem tw620 : Cond.fieldLink RX8 166 "DoorbellDriveModel" "done" "J" ∈ BW := bw3 (i := 140) (by decide +kernel) rfl
theorem tw621 : Cond.fieldLink RX8 169 "DoorbellDriveModel" "failed" "J" ∈ BW := bw3 (i := 141) (by decide +kernel) rfl
theorem tw622 : Cond.fieldLink RX8 180 "DoorbellDriveModel" "blocksRead" "J" ∈ BW := bw3 (i := 142) (by decide +kernel) rfl
theorem tw623 : Cond.fieldLink RX8 83 "DoorbellDriveModel" "blocksStored" "J" ∈ BW := bw3 (i := 143) (by decide +kernel) rfl
theorem tw624 : Cond.fieldLink RX8 136 "DoorbellDriveModel" "p" "J" ∈ BW := bw3 (i := 144) (by decide +kernel) rfl
theorem tw625 : Cond.fieldLink RX8 139 "DoorbellDriveModel" "q" "J" ∈ BW := bw3 (i := 145) (by decide +kernel) rfl
theorem tw626 : Cond.fieldLink RX8 142 "DoorbellDriveModel" "x" "J" ∈ BW := bw3 (i := 146) (by decide +kernel) rfl
theorem tw627 : Cond.fieldLink RX8 156 "DoorbellDriveModel" "result" "J" ∈ BW := bw3 (i := 147) (by decide +kernel) rfl
theorem tw628 : Cond.fieldLink RX8 153 "DoorbellDriveModel" "n" "I" ∈ BW := bw3 (i := 148) (by decide +kernel) rfl
theorem tw629 : Cond.fieldLink RX8 147 "DoorbellDriveModel" "op" "I" ∈ BW := bw3 (i := 149) (by decide +kernel) rfl
theorem tw630 : Cond.fieldLink RX8 150 "DoorbellDriveModel" "flag" "Z" ∈ BW := bw3 (i := 150) (by decide +kernel) rfl
theorem tw631 : Cond.fieldLink RX8 54 "DoorbellDriveModel" "spot" "[I" ∈ BW := bw3 (i := 151) (by decide +kernel) rfl
theorem tw632 : Cond.fieldLink RX8 57 "DoorbellDriveModel" "one" "[J" ∈ BW := bw3 (i := 152) (by decide +kernel) rfl
theorem tw633 : Cond.laysFinal "DoorbellDriveModel" "DoorbellDriveModel" "memory" "[J" ∈ BW := bw3 (i := 153) (by decide +kernel) rfl
theorem tw635 : Cond.laysFinal "DoorbellDriveModel" "DoorbellDriveModel" "medium" "[[J" ∈ BW := bw3 (i := 155) (by decide +kernel) rfl
theorem tw637 : Cond.laysFinal "DoorbellDriveModel" "DoorbellDriveModel" "cached" "[[J" ∈ BW := bw3 (i := 157) (by decide +kernel) rfl
theorem tw639 : Cond.laysFinal "DoorbellDriveModel" "DoorbellDriveModel" "cachedBlock" "[I" ∈ BW := bw3 (i := 159) (by decide +kernel) rfl
theorem tw641 : Cond.lays "DoorbellDriveModel" "DoorbellDriveModel" "cachedMany" "I" ∈ BW := bw3 (i := 161) (by decide +kernel) rfl
theorem tw643 : Cond.lays "DoorbellDriveModel" "DoorbellDriveModel" "turn" "I" ∈ BW := bw3 (i := 163) (by decide +kernel) rfl
theorem tw645 : Cond.lays "DoorbellDriveModel" "DoorbellDriveModel" "bits" "I" ∈ BW := bw3 (i := 165) (by decide +kernel) rfl
theorem tw647 : Cond.lays "DoorbellDriveModel" "DoorbellDriveModel" "caching" "Z" ∈ BW := bw3 (i := 167) (by decide +kernel) rfl
theorem tw649 : Cond.lays "DoorbellDriveModel" "DoorbellDriveModel" "on" "Z" ∈ BW := bw3 (i := 169) (by decide +kernel) rfl
theorem tw651 : Cond.laysFinal "DoorbellDriveModel" "DoorbellDriveModel" "is" "[Z" ∈ BW := bw3 (i := 171) (by decide +kernel) rfl
theorem tw653 : Cond.laysFinal "DoorbellDriveModel" "DoorbellDriveModel" "interrupts" "[Z" ∈ BW := bw3 (i := 173) (by decide +kernel) rfl
theorem tw655 : Cond.laysFinal "DoorbellDriveModel" "DoorbellDriveModel" "base" "[I" ∈ BW := bw3 (i := 175) (by decide +kernel) rfl
theorem tw657 : Cond.laysFinal "DoorbellDriveModel" "DoorbellDriveModel" "size" "[I" ∈ BW := bw3 (i := 177) (by decide +kernel) rfl
theorem tw659 : Cond.laysFinal "DoorbellDriveModel" "DoorbellDriveModel" "head" "[I" ∈ BW := bw3 (i := 179) (by decide +kernel) rfl
theorem tw661 : Cond.laysFinal "DoorbellDriveModel" "DoorbellDriveModel" "tail" "[I" ∈ BW := bw3 (i := 181) (by decide +kernel) rfl
theorem tw663 : Cond.laysFinal "DoorbellDriveModel" "DoorbellDriveModel" "answers" "[I" ∈ BW := bw3 (i := 183) (by decide +kernel) rfl
theorem tw665 : Cond.laysFinal "DoorbellDriveModel" "DoorbellDriveModel" "phase" "[I" ∈ BW := bw3 (i := 185) (by decide +kernel) rfl
theorem tw667 : Cond.lays "DoorbellDriveModel" "DoorbellDriveModel" "done" "J" ∈ BW := bw3 (i := 187) (by decide +kernel) rfl
theorem tw669 : Cond.lays "DoorbellDriveModel" "DoorbellDriveModel" "failed" "J" ∈ BW := bw3 (i := 189) (by decide +kernel) rfl
theorem tw671 : Cond.lays "DoorbellDriveModel" "DoorbellDriveModel" "blocksRead" "J" ∈ BW := bw3 (i := 191) (by decide +kernel) rfl
theorem tw673 : Cond.lays "DoorbellDriveModel" "DoorbellDriveModel" "blocksStored" "J" ∈ BW := bw3 (i := 193) (by decide +kernel) rfl
theorem tw675 : Cond.lays "DoorbellDriveModel" "DoorbellDriveModel" "p" "J" ∈ BW := bw3 (i := 195) (by decide +kernel) rfl
theorem tw677 : Cond.lays "DoorbellDriveModel" "DoorbellDriveModel" "q" "J" ∈ BW := bw3 (i := 197) (by decide +kernel) rfl
theorem tw679 : Cond.lays "DoorbellDriveModel" "DoorbellDriveModel" "x" "J" ∈ BW := bw3 (i := 199) (by decide +kernel) rfl
theorem tw681 : Cond.lays "DoorbellDriveModel" "DoorbellDriveModel" "result" "J" ∈ BW := bw3 (i := 201) (by decide +kernel) rfl
theorem tw683 : Cond.lays "DoorbellDriveModel" "DoorbellDriveModel" "n" "I" ∈ BW := bw3 (i := 203) (by decide +kernel) rfl
theorem tw685 : Cond.lays "DoorbellDriveModel" "DoorbellDriveModel" "op" "I" ∈ BW := bw3 (i := 205) (by decide +kernel) rfl
theorem tw687 : Cond.lays "DoorbellDriveModel" "DoorbellDriveModel" "flag" "Z" ∈ BW := bw3 (i := 207) (by decide +kernel) rfl
theorem tw689 : Cond.laysFinal "DoorbellDriveModel" "DoorbellDriveModel" "spot" "[I" ∈ BW := bw3 (i := 209) (by decide +kernel) rfl
theorem tw691 : Cond.laysFinal "DoorbellDriveModel" "DoorbellDriveModel" "one" "[J" ∈ BW := bw3 (i := 211) (by decide +kernel) rfl
theorem tw694 : Cond.arrayClass .boolean ∈ BW := bw3 (i := 214) (by decide +kernel) rfl
theorem tw695 : Cond.methodLink RL 17 yX8_peek ∈ BW := bw3 (i := 215) (by decide +kernel) rfl
theorem tw696 : Cond.instanceMethod yX8_peek ∈ BW := bw3 (i := 216) (by decide +kernel) rfl
theorem tw697 : Cond.selects RX8 yX8_peek yX8_peek ∈ BW := bw3 (i := 217) (by decide +kernel) rfl
set_option maxRecDepth 20000 in
theorem tw698 : Cond.code yX8_peek cX8_peek 2 (some .long) ∈ BW := bw3 (i := 218) rfl rfl
theorem tw699 : Cond.constantLong RX8 60 1023 ∈ BW := bw3 (i := 219) (by decide +kernel) rfl
theorem tw700 : Cond.methodLink RX8 62 yX8_in ∈ BW := bw3 (i := 220) (by decide +kernel) rfl
theorem tw701 : Cond.static yX8_in ∈ BW := bw3 (i := 221) (by decide +kernel) rfl
set_option maxRecDepth 20000 in
theorem tw702 : Cond.code yX8_in cX8_in 6 (some .boolean) ∈ BW := bw3 (i := 222) rfl rfl
theorem tw703 : Cond.methodLink RL 24 yX8_poke ∈ BW := bw3 (i := 223) (by decide +kernel) rfl
theorem tw704 : Cond.instanceMethod yX8_poke ∈ BW := bw3 (i := 224) (by decide +kernel) rfl
theorem tw705 : Cond.selects RX8 yX8_poke yX8_poke ∈ BW := bw3 (i := 225) (by decide +kernel) rfl
set_option maxRecDepth 20000 in
theorem tw706 : Cond.code yX8_poke cX8_poke 4 (some .int) ∈ BW := bw3 (i := 226) rfl rfl
theorem tw707 : Cond.methodLink RL 29 yX8_begin ∈ BW := bw3 (i := 227) (by decide +kernel) rfl
theorem tw708 : Cond.instanceMethod yX8_begin ∈ BW := bw3 (i := 228) (by decide +kernel) rfl
theorem tw709 : Cond.selects RX8 yX8_begin yX8_begin ∈ BW := bw3 (i := 229) (by decide +kernel) rfl
set_option maxRecDepth 20000 in
theorem tw710 : Cond.code yX8_begin cX8_begin 5 (some .int) ∈ BW := bw3 (i := 230) rfl rfl
theorem tw711 : Cond.methodLink RX8 95 yX8_fits ∈ BW := bw3 (i := 231) (by decide +kernel) rfl
theorem tw712 : Cond.static yX8_fits ∈ BW := bw3 (i := 232) (by decide +kernel) rfl
set_option maxRecDepth 20000 in
theorem tw713 : Cond.code yX8_fits cX8_fits 5 (some .boolean) ∈ BW := bw3 (i := 233) rfl rfl
theorem tw714 : Cond.constantLong RX8 87 2 ∈ BW := bw3 (i := 234) (by decide +kernel) rfl
theorem tw715 : Cond.constantLong RX8 89 16 ∈ BW := bw3 (i := 235) (by decide +kernel) rfl
theorem tw716 : Cond.constantLong RX8 91 4 ∈ BW := bw3 (i := 236) (by decide +kernel) rfl
theorem tw717 : Cond.constantLong RX8 93 1024 ∈ BW := bw3 (i := 237) (by decide +kernel) rfl
theorem tw718 : Cond.methodLink RX8 102 yJ7_fill_Z ∈ BW := bw3 (i := 238) (by decide +kernel) rfl
theorem tw719 : Cond.static yJ7_fill_Z ∈ BW := bw3 (i := 239) (by decide +kernel) rfl
set_option maxRecDepth 20000 in
theorem tw720 : Cond.code yJ7_fill_Z cJ7_fill_Z 4 none ∈ BW := bw4 (i := 0) rfl rfl
theorem tw721 : Cond.methodLink RX8 108 yX8_make ∈ BW := bw4 (i := 1) (by decide +kernel) rfl
theorem tw723 : Cond.instanceMethod yX8_make ∈ BW := bw4 (i := 3) (by decide +kernel) rfl
set_option maxRecDepth 20000 in
theorem tw724 : Cond.code yX8_make cX8_make 6 none ∈ BW := bw4 (i := 4) rfl rfl
theorem tw725 : Cond.methodLink RL 34 yX8_stop ∈ BW := bw4 (i := 5) (by decide +kernel) rfl
theorem tw726 : Cond.instanceMethod yX8_stop ∈ BW := bw4 (i := 6) (by decide +kernel) rfl
theorem tw727 : Cond.selects RX8 yX8_stop yX8_stop ∈ BW := bw4 (i := 7) (by decide +kernel) rfl
set_option maxRecDepth 20000 in
theorem tw728 : Cond.code yX8_stop cX8_stop 3 (some .int) ∈ BW := bw4 (i := 8) rfl rfl
theorem tw729 : Cond.methodLink RX8 118 yX8_flush ∈ BW := bw4 (i := 9) (by decide +kernel) rfl
theorem tw731 : Cond.instanceMethod yX8_flush ∈ BW := bw4 (i := 11) (by decide +kernel) rfl
set_option maxRecDepth 20000 in
theorem tw732 : Cond.code yX8_flush cX8_flush 1 none ∈ BW := bw4 (i := 12) rfl rfl
theorem tw733 : Cond.methodLink RX8 80 yX8_giveUp ∈ BW := bw4 (i := 13) (by decide +kernel) rfl
theorem tw735 : Cond.instanceMethod yX8_giveUp ∈ BW := bw4 (i := 15) (by decide +kernel) rfl
set_option maxRecDepth 20000 in
theorem tw736 : Cond.code yX8_giveUp cX8_giveUp 2 none ∈ BW := bw4 (i := 16) rfl rfl
theorem tw737 : Cond.methodLink RX8 74 ⟨"java/lang/System", "arraycopy", "(Ljava/lang/Object;ILjava/lang/Object;II)V"⟩ ∈ BW := bw4 (i := 17) (by decide +kernel) rfl
theorem tw738 : Cond.methodLink RL 39 yX8_ring ∈ BW := bw4 (i := 18) (by decide +kernel) rfl
theorem tw739 : Cond.instanceMethod yX8_ring ∈ BW := bw4 (i := 19) (by decide +kernel) rfl
theorem tw740 : Cond.selects RX8 yX8_ring yX8_ring ∈ BW := bw4 (i := 20) (by decide +kernel) rfl
set_option maxRecDepth 20000 in
theorem tw741 : Cond.code yX8_ring cX8_ring 3 (some .int) ∈ BW := bw4 (i := 21) rfl rfl
theorem tw742 : Cond.constantLong RX8 121 3 ∈ BW := bw4 (i := 22) (by decide +kernel) rfl
theorem tw743 : Cond.methodLink RX8 123 yX8_many ∈ BW := bw4 (i := 23) (by decide +kernel) rfl
theorem tw745 : Cond.instanceMethod yX8_many ∈ BW := bw4 (i := 25) (by decide +kernel) rfl
set_option maxRecDepth 20000 in
theorem tw746 : Cond.code yX8_many cX8_many 2 (some .int) ∈ BW := bw4 (i := 26) rfl rfl
theorem tw747 : Cond.methodLink RL 43 yX8_seen ∈ BW := bw4 (i := 27) (by decide +kernel) rfl
theorem tw748 : Cond.instanceMethod yX8_seen ∈ BW := bw4 (i := 28) (by decide +kernel) rfl
theorem tw749 : Cond.selects RX8 yX8_seen yX8_seen ∈ BW := bw4 (i := 29) (by decide +kernel) rfl
set_option maxRecDepth 20000 in
theorem tw750 : Cond.code yX8_seen cX8_seen 4 (some .int) ∈ BW := bw4 (i := 30) rfl rfl
theorem tw751 : Cond.methodLink RL 48 yX8_run ∈ BW := bw4 (i := 31) (by decide +kernel) rfl
theorem tw752 : Cond.instanceMethod yX8_run ∈ BW := bw4 (i := 32) (by decide +kernel) rfl
theorem tw753 : Cond.selects RX8 yX8_run yX8_run ∈ BW := bw4 (i := 33) (by decide +kernel) rfl
set_option maxRecDepth 20000 in
theorem tw754 : Cond.code yX8_run cX8_run 5 (some .int) ∈ BW := bw4 (i := 34) rfl rfl
theorem tw755 : Cond.constantLong RX8 126 200 ∈ BW := bw4 (i := 35) (by decide +kernel) rfl
theorem tw756 : Cond.methodLink RX8 128 yX8_isReady ∈ BW := bw4 (i := 36) (by decide +kernel) rfl
theorem tw758 : Cond.instanceMethod yX8_isReady ∈ BW := bw4 (i := 38) (by decide +kernel) rfl
set_option maxRecDepth 20000 in
theorem tw759 : Cond.code yX8_isReady cX8_isReady 3 (some .boolean) ∈ BW := bw4 (i := 39) rfl rfl
theorem tw760 : Cond.methodLink RX8 132 yX8_command ∈ BW := bw4 (i := 40) (by decide +kernel) rfl
theorem tw762 : Cond.instanceMethod yX8_command ∈ BW := bw4 (i := 42) (by decide +kernel) rfl
set_option maxRecDepth 20000 in
theorem tw763 : Cond.code yX8_command cX8_command 8 none ∈ BW := bw4 (i := 43) rfl rfl
theorem tw764 : Cond.constantLong RX8 145 255 ∈ BW := bw4 (i := 44) (by decide +kernel) rfl
theorem tw765 : Cond.methodLink RX8 159 yX8_admin ∈ BW := bw4 (i := 45) (by decide +kernel) rfl
theorem tw767 : Cond.instanceMethod yX8_admin ∈ BW := bw4 (i := 47) (by decide +kernel) rfl
set_option maxRecDepth 20000 in
theorem tw768 : Cond.code yX8_admin cX8_admin 5 (some .int) ∈ BW := bw4 (i := 48) rfl rfl
theorem tw769 : Cond.methodLink RX8 174 yX8_place ∈ BW := bw4 (i := 49) (by decide +kernel) rfl
theorem tw771 : Cond.instanceMethod yX8_place ∈ BW := bw4 (i := 51) (by decide +kernel) rfl
set_option maxRecDepth 20000 in
theorem tw772 : Cond.code yX8_place cX8_place 9 (some .boolean) ∈ BW := bw4 (i := 52) rfl rfl
theorem tw773 : Cond.methodLink RX8 183 yX8_isPage ∈ BW := bw4 (i := 53) (by decide +kernel) rfl
theorem tw774 : Cond.static yX8_isPage ∈ BW := bw4 (i := 54) (by decide +kernel) rfl
set_option maxRecDepth 20000 in
theorem tw775 : Cond.code yX8_isPage cX8_isPage 2 (some .boolean) ∈ BW := bw4 (i := 55) rfl rfl
theorem tw776 : Cond.constantLong RX8 178 64 ∈ BW := bw4 (i := 56) (by decide +kernel) rfl
theorem tw777 : Cond.methodLink RX8 163 yX8_blocks ∈ BW := bw4 (i := 57) (by decide +kernel) rfl
theorem tw779 : Cond.instanceMethod yX8_blocks ∈ BW := bw4 (i := 59) (by decide +kernel) rfl
set_option maxRecDepth 20000 in
theorem tw780 : Cond.code yX8_blocks cX8_blocks 5 (some .int) ∈ BW := bw4 (i := 60) rfl rfl
theorem tw781 : Cond.constantLong RX8 187 63 ∈ BW := bw4 (i := 61) (by decide +kernel) rfl
theorem tw782 : Cond.methodLink RX8 189 yX8_blockOf ∈ BW := bw4 (i := 62) (by decide +kernel) rfl
theorem tw784 : Cond.instanceMethod yX8_blockOf ∈ BW := bw4 (i := 64) (by decide +kernel) rfl
set_option maxRecDepth 20000 in
theorem tw785 : Cond.code yX8_blockOf cX8_blockOf 3 (some (.array .long)) ∈ BW := bw4 (i := 65) rfl rfl
theorem tw786 : Cond.methodLink RX8 70 yX8_find ∈ BW := bw4 (i := 66) (by decide +kernel) rfl
theorem tw788 : Cond.instanceMethod yX8_find ∈ BW := bw4 (i := 68) (by decide +kernel) rfl
set_option maxRecDepth 20000 in
theorem tw789 : Cond.code yX8_find cX8_find 3 (some .int) ∈ BW := bw4 (i := 69) rfl rfl
theorem tw790 : Cond.methodLink RX8 193 yX8_store ∈ BW := bw4 (i := 70) (by decide +kernel) rfl
theorem tw792 : Cond.instanceMethod yX8_store ∈ BW := bw4 (i := 72) (by decide +kernel) rfl
set_option maxRecDepth 20000 in
theorem tw793 : Cond.code yX8_store cX8_store 4 none ∈ BW := bw4 (i := 73) rfl rfl
theorem tw794 : Cond.constantLong RX8 172 65535 ∈ BW := bw4 (i := 74) (by decide +kernel) rfl
theorem tw795 : Cond.methodLink RL 52 yX8_interrupts ∈ BW := bw4 (i := 75) (by decide +kernel) rfl
theorem tw796 : Cond.instanceMethod yX8_interrupts ∈ BW := bw4 (i := 76) (by decide +kernel) rfl
theorem tw797 : Cond.selects RX8 yX8_interrupts yX8_interrupts ∈ BW := bw4 (i := 77) (by decide +kernel) rfl
set_option maxRecDepth 20000 in
theorem tw798 : Cond.code yX8_interrupts cX8_interrupts 3 (some .int) ∈ BW := bw4 (i := 78) rfl rfl
theorem tw799 : Cond.methodLink RL 57 yX8_block ∈ BW := bw4 (i := 79) (by decide +kernel) rfl
theorem tw800 : Cond.instanceMethod yX8_block ∈ BW := bw4 (i := 80) (by decide +kernel) rfl
theorem tw801 : Cond.selects RX8 yX8_block yX8_block ∈ BW := bw4 (i := 81) (by decide +kernel) rfl
set_option maxRecDepth 20000 in
theorem tw802 : Cond.code yX8_block cX8_block 4 (some .long) ∈ BW := bw4 (i := 82) rfl rfl
theorem tw803 : Cond.constantLong RX8 197 7 ∈ BW := bw4 (i := 83) (by decide +kernel) rfl
theorem tw804 : Cond.methodLink RL 61 yX8_queue ∈ BW := bw4 (i := 84) (by decide +kernel) rfl
theorem tw805 : Cond.instanceMethod yX8_queue ∈ BW := bw4 (i := 85) (by decide +kernel) rfl
theorem tw806 : Cond.selects RX8 yX8_queue yX8_queue ∈ BW := bw4 (i := 86) (by decide +kernel) rfl
set_option maxRecDepth 20000 in
theorem tw807 : Cond.code yX8_queue cX8_queue 4 (some .int) ∈ BW := bw4 (i := 87) rfl rfl
theorem tw808 : Cond.constantLong RX8 199 8 ∈ BW := bw4 (i := 88) (by decide +kernel) rfl
theorem tw809 : Cond.methodLink RL 65 yX8_count ∈ BW := bw4 (i := 89) (by decide +kernel) rfl
theorem tw810 : Cond.instanceMethod yX8_count ∈ BW := bw4 (i := 90) (by decide +kernel) rfl
theorem tw811 : Cond.selects RX8 yX8_count yX8_count ∈ BW := bw4 (i := 91) (by decide +kernel) rfl
set_option maxRecDepth 20000 in
theorem tw812 : Cond.code yX8_count cX8_count 2 (some .int) ∈ BW := bw4 (i := 92) rfl rfl
theorem tw813 : Cond.constantLong RL 18 4294967295 ∈ BW := bw4 (i := 93) (by decide +kernel) rfl
theorem inX0 : ∀ w ∈ u_ws RX0 TX0 7, w ∈ BW := fun w h => by
  obtain ⟨k, hk, rfl⟩ := List.mem_map.mp h
  have hk := List.mem_range.mp hk
  match k, hk with
  | 0, _ => exact tw152
  | 1, _ => exact tw154
  | 2, _ => exact tw156
  | 3, _ => exact tw158
  | 4, _ => exact tw160
  | 5, _ => exact tw162
  | 6, _ => exact tw164
theorem inX1 : ∀ w ∈ u_ws RX1 TX1 7, w ∈ BW := fun w h => by
  obtain ⟨k, hk, rfl⟩ := List.mem_map.mp h
  have hk := List.mem_range.mp hk
  match k, hk with
  | 0, _ => exact tw123
  | 1, _ => exact tw124
  | 2, _ => exact tw125
  | 3, _ => exact tw126
  | 4, _ => exact tw127
  | 5, _ => exact tw119
  | 6, _ => exact tw121
theorem inX2 : ∀ w ∈ u_ws RX2 TX2 3, w ∈ BW := fun w h => by
  obtain ⟨k, hk, rfl⟩ := List.mem_map.mp h
  have hk := List.mem_range.mp hk
  match k, hk with
  | 0, _ => exact tw176
  | 1, _ => exact tw178
  | 2, _ => exact tw180
theorem inX3 : ∀ w ∈ u_ws RX3 TX3 5, w ∈ BW := fun w h => by
  obtain ⟨k, hk, rfl⟩ := List.mem_map.mp h
  have hk := List.mem_range.mp hk
  match k, hk with
  | 0, _ => exact tw43
  | 1, _ => exact tw45
  | 2, _ => exact tw47
  | 3, _ => exact tw49
  | 4, _ => exact tw51
theorem inX4 : ∀ w ∈ u_ws RX4 TX4 1, w ∈ BW := fun w h => by
  obtain ⟨k, hk, rfl⟩ := List.mem_map.mp h
  have hk := List.mem_range.mp hk
  match k, hk with
  | 0, _ => exact tw28
theorem inX6 : ∀ w ∈ u_ws RX6 TX6 6, w ∈ BW := fun w h => by
  obtain ⟨k, hk, rfl⟩ := List.mem_map.mp h
  have hk := List.mem_range.mp hk
  match k, hk with
  | 0, _ => exact tw99
  | 1, _ => exact tw101
  | 2, _ => exact tw103
  | 3, _ => exact tw105
  | 4, _ => exact tw107
  | 5, _ => exact tw97
theorem inX7 : ∀ w ∈ u_ws RX7 TX7 15, w ∈ BW := fun w h => by
  obtain ⟨k, hk, rfl⟩ := List.mem_map.mp h
  have hk := List.mem_range.mp hk
  match k, hk with
  | 0, _ => exact tw198
  | 1, _ => exact tw200
  | 2, _ => exact tw202
  | 3, _ => exact tw204
  | 4, _ => exact tw206
  | 5, _ => exact tw208
  | 6, _ => exact tw210
  | 7, _ => exact tw212
  | 8, _ => exact tw214
  | 9, _ => exact tw216
  | 10, _ => exact tw218
  | 11, _ => exact tw220
  | 12, _ => exact tw222
  | 13, _ => exact tw224
  | 14, _ => exact tw226
theorem inX8 : ∀ w ∈ u_ws RX8 TX8 30, w ∈ BW := fun w h => by
  obtain ⟨k, hk, rfl⟩ := List.mem_map.mp h
  have hk := List.mem_range.mp hk
  match k, hk with
  | 0, _ => exact tw633
  | 1, _ => exact tw635
  | 2, _ => exact tw637
  | 3, _ => exact tw639
  | 4, _ => exact tw641
  | 5, _ => exact tw643
  | 6, _ => exact tw645
  | 7, _ => exact tw647
  | 8, _ => exact tw649
  | 9, _ => exact tw651
  | 10, _ => exact tw653
  | 11, _ => exact tw655
  | 12, _ => exact tw657
  | 13, _ => exact tw659
  | 14, _ => exact tw661
  | 15, _ => exact tw663
  | 16, _ => exact tw665
  | 17, _ => exact tw667
  | 18, _ => exact tw669
  | 19, _ => exact tw671
  | 20, _ => exact tw673
  | 21, _ => exact tw675
  | 22, _ => exact tw677
  | 23, _ => exact tw679
  | 24, _ => exact tw681
  | 25, _ => exact tw683
  | 26, _ => exact tw685
  | 27, _ => exact tw687
  | 28, _ => exact tw689
  | 29, _ => exact tw691
  | k + 30, hk => exact absurd hk (by omega)
