def dh_cw (mi : dh_MI) : Cond := .code mi.1 mi.2.1 mi.2.2.1 mi.2.2.2.1
set_option maxRecDepth 100000 in
theorem dh_wc0 : lw_tbl[1057]? = some (.code ⟨"DoubleHeap$Evening", "wonByHer", "(LDoubleHeap$Law;IZ)Z"⟩ prog_2_method_2_code 11 (some .boolean)) := rfl
set_option maxRecDepth 100000 in
theorem dh_wc1 : lw_tbl[560]? = some (.code ⟨"DoubleHeap$Law", "adopt", "(LDoubleHeap$Rules;)V"⟩ prog_3_method_2_code 2 none) := rfl
set_option maxRecDepth 100000 in
theorem dh_wc2 : lw_tbl[622]? = some (.code ⟨"DoubleHeap$Law", "ready", "(I)V"⟩ prog_3_method_3_code 6 none) := rfl
set_option maxRecDepth 100000 in
theorem dh_wc3 : lw_tbl[630]? = some (.code ⟨"DoubleHeap$Law", "takesAt", "(II)J"⟩ prog_3_method_4_code 8 (some .long)) := rfl
set_option maxRecDepth 100000 in
theorem dh_wc4 : lw_tbl[665]? = some (.code ⟨"DoubleHeap$Law", "losingFrom", "(I)J"⟩ prog_3_method_5_code 2 (some .long)) := rfl
set_option maxRecDepth 100000 in
theorem dh_wc5 : lw_tbl[626]? = some (.code ⟨"DoubleHeap$Law", "goodAt", "(II)J"⟩ prog_3_method_6_code 3 (some .long)) := rfl
set_option maxRecDepth 100000 in
theorem dh_wc6 : lw_tbl[732]? = some (.code ⟨"DoubleHeap$Law", "lostNumbers", "()J"⟩ prog_3_method_7_code 4 (some .long)) := rfl
set_option maxRecDepth 100000 in
theorem dh_wc7 : lw_tbl[1029]? = some (.code ⟨"DoubleHeap$Law", "herTake", "(II)I"⟩ prog_3_method_8_code 5 (some .int)) := rfl
set_option maxRecDepth 100000 in
theorem dh_wc8 : lw_tbl[483]? = some (.code ⟨"DoubleHeap$LawReader", "read", "(LDoubleHeap$Tape;I)I"⟩ prog_4_method_2_code 7 (some .int)) := rfl
set_option maxRecDepth 100000 in
theorem dh_wc9 : lw_tbl[487]? = some (.code ⟨"DoubleHeap$LawReader", "load", "(LDoubleHeap$Tape;I)V"⟩ prog_4_method_3_code 4 none) := rfl
set_option maxRecDepth 100000 in
theorem dh_wc10 : lw_tbl[505]? = some (.code ⟨"DoubleHeap$LawReader", "letter", "()I"⟩ prog_4_method_4_code 2 (some .int)) := rfl
set_option maxRecDepth 100000 in
theorem dh_wc11 : lw_tbl[540]? = some (.code ⟨"DoubleHeap$LawReader", "condition", "(II)V"⟩ prog_4_method_5_code 6 none) := rfl
set_option maxRecDepth 100000 in
theorem dh_wc12 : lw_tbl[544]? = some (.code ⟨"DoubleHeap$LawReader", "test", "(I)V"⟩ prog_4_method_6_code 4 none) := rfl
set_option maxRecDepth 100000 in
theorem dh_wc13 : lw_tbl[517]? = some (.code ⟨"DoubleHeap$LawReader", "expression", "(II)V"⟩ prog_4_method_7_code 6 none) := rfl
set_option maxRecDepth 100000 in
theorem dh_wc14 : lw_tbl[521]? = some (.code ⟨"DoubleHeap$LawReader", "factor", "(I)V"⟩ prog_4_method_8_code 5 none) := rfl
set_option maxRecDepth 100000 in
theorem dh_wc15 : lw_tbl[525]? = some (.code ⟨"DoubleHeap$LawReader", "mayOpen", "(I)Z"⟩ prog_4_method_9_code 2 (some .boolean)) := rfl
set_option maxRecDepth 100000 in
theorem dh_wc16 : lw_tbl[509]? = some (.code ⟨"DoubleHeap$LawReader", "sign", "()I"⟩ prog_4_method_10_code 1 (some .int)) := rfl
set_option maxRecDepth 100000 in
theorem dh_wc17 : lw_tbl[529]? = some (.code ⟨"DoubleHeap$LawReader", "expect", "(I)V"⟩ prog_4_method_11_code 2 none) := rfl
set_option maxRecDepth 100000 in
theorem dh_wc18 : lw_tbl[513]? = some (.code ⟨"DoubleHeap$LawReader", "fail", "(I)V"⟩ prog_4_method_12_code 2 none) := rfl
set_option maxRecDepth 100000 in
theorem dh_wc19 : lw_tbl[741]? = some (.code ⟨"DoubleHeap$Numbers", "load", "(J)V"⟩ prog_5_method_2_code 4 none) := rfl
set_option maxRecDepth 100000 in
theorem dh_wc20 : lw_tbl[746]? = some (.code ⟨"DoubleHeap$Numbers", "at", "(I)I"⟩ prog_5_method_3_code 2 (some .int)) := rfl
set_option maxRecDepth 100000 in
theorem dh_wc21 : lw_tbl[770]? = some (.code ⟨"DoubleHeap$Numbers", "countWays", "(I)V"⟩ prog_5_method_4_code 4 none) := rfl
set_option maxRecDepth 100000 in
theorem dh_wc22 : lw_tbl[775]? = some (.code ⟨"DoubleHeap$Numbers", "waysWith", "(II)I"⟩ prog_5_method_5_code 4 (some .int)) := rfl
set_option maxRecDepth 100000 in
theorem dh_wc23 : lw_tbl[782]? = some (.code ⟨"DoubleHeap$Numbers", "ways", "(I)I"⟩ prog_5_method_6_code 2 (some .int)) := rfl
set_option maxRecDepth 100000 in
theorem dh_wc24 : lw_tbl[786]? = some (.code ⟨"DoubleHeap$Numbers", "greatestFirst", "(I)J"⟩ prog_5_method_7_code 6 (some .long)) := rfl
set_option maxRecDepth 100000 in
theorem dh_wc25 : lw_tbl[909]? = some (.code ⟨"DoubleHeap$Numbers", "leastLag", "()I"⟩ prog_5_method_8_code 2 (some .int)) := rfl
set_option maxRecDepth 100000 in
theorem dh_wc26 : lw_tbl[913]? = some (.code ⟨"DoubleHeap$Numbers", "lagsFrom", "(I)I"⟩ prog_5_method_9_code 4 (some .int)) := rfl
set_option maxRecDepth 100000 in
theorem dh_wc27 : lw_tbl[922]? = some (.code ⟨"DoubleHeap$Numbers", "simpleOnes", "(J)I"⟩ prog_5_method_10_code 5 (some .int)) := rfl
set_option maxRecDepth 100000 in
theorem dh_wc28 : lw_tbl[938]? = some (.code ⟨"DoubleHeap$Numbers", "firstSimple", "(J)I"⟩ prog_5_method_11_code 4 (some .int)) := rfl
set_option maxRecDepth 100000 in
theorem dh_wc29 : lw_tbl[926]? = some (.code ⟨"DoubleHeap$Numbers", "simpleAt", "(I)J"⟩ prog_5_method_12_code 2 (some .long)) := rfl
set_option maxRecDepth 100000 in
theorem dh_wc30 : lw_tbl[930]? = some (.code ⟨"DoubleHeap$Numbers", "lostOfSimple", "(II)J"⟩ prog_5_method_13_code 10 (some .long)) := rfl
set_option maxRecDepth 100000 in
theorem dh_wc31 : lw_tbl[933]? = some (.code ⟨"DoubleHeap$Numbers", "upTo", "(I)J"⟩ prog_5_method_14_code 1 (some .long)) := rfl
set_option maxRecDepth 100000 in
theorem dh_wc32 : lw_tbl[799]? = some (.code ⟨"DoubleHeap$Rivals", "goodOfTwo", "(LDoubleHeap$Law;III)I"⟩ prog_6_method_2_code 7 (some .int)) := rfl
set_option maxRecDepth 100000 in
theorem dh_wc33 : lw_tbl[804]? = some (.code ⟨"DoubleHeap$Rivals", "lostOfTwo", "(LDoubleHeap$Law;III)J"⟩ prog_6_method_3_code 12 (some .long)) := rfl
set_option maxRecDepth 100000 in
theorem dh_wc34 : lw_tbl[808]? = some (.code ⟨"DoubleHeap$Rivals", "losingOfTwo", "(IIZ)J"⟩ prog_6_method_4_code 8 (some .long)) := rfl
set_option maxRecDepth 100000 in
theorem dh_wc35 : lw_tbl[818]? = some (.code ⟨"DoubleHeap$Rivals", "goodGrowing", "(LDoubleHeap$Law;III)J"⟩ prog_6_method_5_code 7 (some .long)) := rfl
set_option maxRecDepth 100000 in
theorem dh_wc36 : lw_tbl[824]? = some (.code ⟨"DoubleHeap$Rivals", "losingGrowing", "(II)J"⟩ prog_6_method_6_code 7 (some .long)) := rfl
set_option maxRecDepth 100000 in
theorem dh_wc37 : lw_tbl[829]? = some (.code ⟨"DoubleHeap$Rivals", "lostGrowing", "(LDoubleHeap$Law;II)J"⟩ prog_6_method_7_code 8 (some .long)) := rfl
set_option maxRecDepth 100000 in
theorem dh_wc38 : lw_tbl[840]? = some (.code ⟨"DoubleHeap$Rivals", "goodAgainst", "(LDoubleHeap$Law;LDoubleHeap$Law;II)J"⟩ prog_6_method_8_code 11 (some .long)) := rfl
set_option maxRecDepth 100000 in
theorem dh_wc39 : lw_tbl[848]? = some (.code ⟨"DoubleHeap$Rivals", "onesWin", "(LDoubleHeap$Law;II)Z"⟩ prog_6_method_9_code 8 (some .boolean)) := rfl
set_option maxRecDepth 100000 in
theorem dh_wc40 : lw_tbl[852]? = some (.code ⟨"DoubleHeap$Rivals", "oneWins", "(LDoubleHeap$Law;II)Z"⟩ prog_6_method_10_code 4 (some .boolean)) := rfl
set_option maxRecDepth 100000 in
theorem dh_wc41 : lw_tbl[861]? = some (.code ⟨"DoubleHeap$Rivals", "fillPasses", "(LDoubleHeap$Law;I)V"⟩ prog_6_method_11_code 10 none) := rfl
set_option maxRecDepth 100000 in
theorem dh_wc42 : lw_tbl[869]? = some (.code ⟨"DoubleHeap$Rivals", "goodWithPasses", "(LDoubleHeap$Law;IIII)J"⟩ prog_6_method_12_code 6 (some .long)) := rfl
set_option maxRecDepth 100000 in
theorem dh_wc43 : lw_tbl[865]? = some (.code ⟨"DoubleHeap$Rivals", "wonWithPasses", "(LDoubleHeap$Law;IIII)Z"⟩ prog_6_method_13_code 6 (some .boolean)) := rfl
set_option maxRecDepth 100000 in
theorem dh_wc44 : lw_tbl[872]? = some (.code ⟨"DoubleHeap$Rivals", "passCell", "(III)I"⟩ prog_6_method_14_code 3 (some .int)) := rfl
set_option maxRecDepth 100000 in
theorem dh_wc45 : lw_tbl[501]? = some (.code ⟨"DoubleHeap$Rules", "clear", "()V"⟩ prog_7_method_2_code 1 none) := rfl
set_option maxRecDepth 100000 in
theorem dh_wc46 : lw_tbl[564]? = some (.code ⟨"DoubleHeap$Rules", "adopt", "(LDoubleHeap$Rules;)V"⟩ prog_7_method_3_code 2 none) := rfl
set_option maxRecDepth 100000 in
theorem dh_wc47 : lw_tbl[533]? = some (.code ⟨"DoubleHeap$Rules", "step", "(II)V"⟩ prog_7_method_4_code 3 none) := rfl
set_option maxRecDepth 100000 in
theorem dh_wc48 : lw_tbl[548]? = some (.code ⟨"DoubleHeap$Rules", "settle", "(I)V"⟩ prog_7_method_5_code 5 none) := rfl
set_option maxRecDepth 100000 in
theorem dh_wc49 : lw_tbl[552]? = some (.code ⟨"DoubleHeap$Rules", "addRule", "(III)V"⟩ prog_7_method_6_code 4 none) := rfl
set_option maxRecDepth 100000 in
theorem dh_wc50 : lw_tbl[638]? = some (.code ⟨"DoubleHeap$Rules", "most", "(II)I"⟩ prog_7_method_7_code 4 (some .int)) := rfl
set_option maxRecDepth 100000 in
theorem dh_wc51 : lw_tbl[661]? = some (.code ⟨"DoubleHeap$Rules", "forbids", "(III)Z"⟩ prog_7_method_8_code 5 (some .boolean)) := rfl
set_option maxRecDepth 100000 in
theorem dh_wc52 : lw_tbl[642]? = some (.code ⟨"DoubleHeap$Rules", "run", "(IIII)I"⟩ prog_7_method_9_code 9 (some .int)) := rfl
set_option maxRecDepth 100000 in
theorem dh_wc53 : lw_tbl[646]? = some (.code ⟨"DoubleHeap$Rules", "push", "(I)V"⟩ prog_7_method_10_code 2 none) := rfl
set_option maxRecDepth 100000 in
theorem dh_wc54 : lw_tbl[650]? = some (.code ⟨"DoubleHeap$Rules", "pop", "()I"⟩ prog_7_method_11_code 1 (some .int)) := rfl
set_option maxRecDepth 100000 in
theorem dh_wc55 : lw_tbl[655]? = some (.code ⟨"DoubleHeap$Rules", "joined", "(III)I"⟩ prog_7_method_12_code 4 (some .int)) := rfl
set_option maxRecDepth 100000 in
theorem dh_wc56 : lw_tbl[1013]? = some (.code ⟨"DoubleHeap$Stove", "begin", "(II)V"⟩ prog_8_method_2_code 3 none) := rfl
set_option maxRecDepth 100000 in
theorem dh_wc57 : lw_tbl[1021]? = some (.code ⟨"DoubleHeap$Stove", "move", "(I)V"⟩ prog_8_method_3_code 2 none) := rfl
set_option maxRecDepth 100000 in
theorem dh_wc58 : lw_tbl[1049]? = some (.code ⟨"DoubleHeap$Stove", "giveBack", "()I"⟩ prog_8_method_4_code 2 (some .int)) := rfl
set_option maxRecDepth 100000 in
theorem dh_wc59 : lw_tbl[1077]? = some (.code ⟨"DoubleHeap$Stove", "copy", "(LDoubleHeap$Stove;)V"⟩ prog_8_method_5_code 2 none) := rfl
set_option maxRecDepth 100000 in
theorem dh_wc60 : lw_tbl[602]? = some (.code ⟨"DoubleHeap$Tale", "adopt", "(LDoubleHeap$Tale;)V"⟩ prog_9_method_2_code 2 none) := rfl
set_option maxRecDepth 100000 in
theorem dh_wc61 : lw_tbl[583]? = some (.code ⟨"DoubleHeap$Tale", "read", "(LDoubleHeap$Tape;I)I"⟩ prog_9_method_3_code 4 (some .int)) := rfl
set_option maxRecDepth 100000 in
theorem dh_wc62 : lw_tbl[598]? = some (.code ⟨"DoubleHeap$Tale", "readTakes", "(LDoubleHeap$Tape;II)I"⟩ prog_9_method_4_code 9 (some .int)) := rfl
set_option maxRecDepth 100000 in
theorem dh_wc63 : lw_tbl[586]? = some (.code ⟨"DoubleHeap$Tale", "digitsEnd", "(LDoubleHeap$Tape;II)I"⟩ prog_9_method_5_code 5 (some .int)) := rfl
set_option maxRecDepth 100000 in
theorem dh_wc64 : lw_tbl[591]? = some (.code ⟨"DoubleHeap$Tale", "number", "(LDoubleHeap$Tape;II)I"⟩ prog_9_method_6_code 5 (some .int)) := rfl
set_option maxRecDepth 100000 in
theorem dh_wc65 : lw_tbl[973]? = some (.code ⟨"DoubleHeap$Tale", "takeAt", "(I)I"⟩ prog_9_method_7_code 2 (some .int)) := rfl
set_option maxRecDepth 100000 in
theorem dh_wc66 : lw_tbl[965]? = some (.code ⟨"DoubleHeap$Tale", "heapAt", "(I)I"⟩ prog_9_method_8_code 2 (some .int)) := rfl
set_option maxRecDepth 100000 in
theorem dh_wc67 : lw_tbl[969]? = some (.code ⟨"DoubleHeap$Tale", "lastAt", "(I)I"⟩ prog_9_method_9_code 2 (some .int)) := rfl
set_option maxRecDepth 100000 in
theorem dh_wc68 : lw_tbl[961]? = some (.code ⟨"DoubleHeap$Tale", "tally", "(LDoubleHeap$Law;II)I"⟩ prog_9_method_10_code 9 (some .int)) := rfl
set_option maxRecDepth 100000 in
theorem dh_wc69 : lw_tbl[984]? = some (.code ⟨"DoubleHeap$Tale", "goodAtTheEnd", "(LDoubleHeap$Law;II)I"⟩ prog_9_method_11_code 8 (some .int)) := rfl
set_option maxRecDepth 100000 in
theorem dh_wc70 : lw_tbl[467]? = some (.code ⟨"DoubleHeap$Tape", "hasRoom", "()Z"⟩ prog_10_method_2_code 1 (some .boolean)) := rfl
set_option maxRecDepth 100000 in
theorem dh_wc71 : lw_tbl[471]? = some (.code ⟨"DoubleHeap$Tape", "append", "(I)V"⟩ prog_10_method_3_code 3 none) := rfl
set_option maxRecDepth 100000 in
theorem dh_wc72 : lw_tbl[497]? = some (.code ⟨"DoubleHeap$Tape", "at", "(I)I"⟩ prog_10_method_4_code 2 (some .int)) := rfl
set_option maxRecDepth 100000 in
theorem dh_wc73 : lw_tbl[556]? = some (.code ⟨"DoubleHeap$Tape", "clear", "()V"⟩ prog_10_method_5_code 1 none) := rfl
set_option maxRecDepth 100000 in
theorem dh_wc74 : lw_tbl[686]? = some (.code ⟨"DoubleHeap$Walks", "measure", "(LDoubleHeap$Law;III)I"⟩ prog_11_method_2_code 7 (some .int)) := rfl
set_option maxRecDepth 100000 in
theorem dh_wc75 : lw_tbl[692]? = some (.code ⟨"DoubleHeap$Walks", "measured", "(LDoubleHeap$Law;III)I"⟩ prog_11_method_3_code 13 (some .int)) := rfl
set_option maxRecDepth 100000 in
theorem dh_wc76 : lw_tbl[758]? = some (.code ⟨"DoubleHeap$Walks", "takeOfRow", "(LDoubleHeap$Law;IIII)I"⟩ prog_11_method_4_code 10 (some .int)) := rfl
set_option maxRecDepth 100000 in
theorem dh_wc77 : lw_tbl[762]? = some (.code ⟨"DoubleHeap$Walks", "nextOfRow", "(JIII)I"⟩ prog_11_method_5_code 9 (some .int)) := rfl
set_option maxRecDepth 100000 in
theorem dh_wc78 : lw_tbl[708]? = some (.code ⟨"DoubleHeap$Walks", "rows", "(LDoubleHeap$Law;II)J"⟩ prog_11_method_6_code 5 (some .long)) := rfl
set_option maxRecDepth 100000 in
theorem dh_wc79 : lw_tbl[724]? = some (.code ⟨"DoubleHeap$Walks", "wonRows", "(LDoubleHeap$Law;II)J"⟩ prog_11_method_7_code 4 (some .long)) := rfl
set_option maxRecDepth 100000 in
theorem dh_wc80 : lw_tbl[712]? = some (.code ⟨"DoubleHeap$Walks", "fillRows", "(LDoubleHeap$Law;II)V"⟩ prog_11_method_8_code 6 none) := rfl
set_option maxRecDepth 100000 in
theorem dh_wc81 : lw_tbl[716]? = some (.code ⟨"DoubleHeap$Walks", "fillRowsAt", "(LDoubleHeap$Law;II)V"⟩ prog_11_method_9_code 12 none) := rfl
set_option maxRecDepth 100000 in
theorem dh_wc82 : lw_tbl[882]? = some (.code ⟨"DoubleHeap$Walks", "fillHopes", "(LDoubleHeap$Law;II)V"⟩ prog_11_method_10_code 6 none) := rfl
set_option maxRecDepth 100000 in
theorem dh_wc83 : lw_tbl[886]? = some (.code ⟨"DoubleHeap$Walks", "fillHopesAt", "(LDoubleHeap$Law;II)V"⟩ prog_11_method_11_code 9 none) := rfl
set_option maxRecDepth 100000 in
theorem dh_wc84 : lw_tbl[897]? = some (.code ⟨"DoubleHeap$Walks", "hopeOfHers", "(II)I"⟩ prog_11_method_12_code 3 (some .int)) := rfl
set_option maxRecDepth 100000 in
theorem dh_wc85 : lw_tbl[901]? = some (.code ⟨"DoubleHeap$Walks", "hopeOfChilds", "(II)I"⟩ prog_11_method_13_code 3 (some .int)) := rfl
set_option maxRecDepth 100000 in
theorem dh_wc86 : lw_tbl[893]? = some (.code ⟨"DoubleHeap$Walks", "hopefulTake", "(LDoubleHeap$Law;II)I"⟩ prog_11_method_14_code 7 (some .int)) := rfl
set_option maxRecDepth 100000 in
theorem dh_wc87 : lw_tbl[463]? = some (.code ⟨"DoubleHeap", "feed", "(IIIII)I"⟩ prog_1_method_2_code 6 (some .int)) := rfl
set_option maxRecDepth 100000 in
theorem dh_wc88 : lw_tbl[475]? = some (.code ⟨"DoubleHeap", "law", "(II)I"⟩ prog_1_method_3_code 5 (some .int)) := rfl
set_option maxRecDepth 100000 in
theorem dh_wc89 : lw_tbl[575]? = some (.code ⟨"DoubleHeap", "game", "(II)I"⟩ prog_1_method_4_code 5 (some .int)) := rfl
set_option maxRecDepth 100000 in
theorem dh_wc90 : lw_tbl[607]? = some (.code ⟨"DoubleHeap", "state", "(IIII)I"⟩ prog_1_method_5_code 8 (some .int)) := rfl
set_option maxRecDepth 100000 in
theorem dh_wc91 : lw_tbl[703]? = some (.code ⟨"DoubleHeap", "takes", "(IIII)J"⟩ prog_1_method_6_code 6 (some .long)) := rfl
set_option maxRecDepth 100000 in
theorem dh_wc92 : lw_tbl[728]? = some (.code ⟨"DoubleHeap", "lost", "(I)J"⟩ prog_1_method_7_code 3 (some .long)) := rfl
set_option maxRecDepth 100000 in
theorem dh_wc93 : lw_tbl[737]? = some (.code ⟨"DoubleHeap", "lostAt", "(II)I"⟩ prog_1_method_8_code 4 (some .int)) := rfl
set_option maxRecDepth 100000 in
theorem dh_wc94 : lw_tbl[750]? = some (.code ⟨"DoubleHeap", "ends", "(IIII)I"⟩ prog_1_method_9_code 5 (some .int)) := rfl
set_option maxRecDepth 100000 in
theorem dh_wc95 : lw_tbl[766]? = some (.code ⟨"DoubleHeap", "sums", "(III)I"⟩ prog_1_method_10_code 5 (some .int)) := rfl
set_option maxRecDepth 100000 in
theorem dh_wc96 : lw_tbl[790]? = some (.code ⟨"DoubleHeap", "sum", "(II)J"⟩ prog_1_method_11_code 4 (some .long)) := rfl
set_option maxRecDepth 100000 in
theorem dh_wc97 : lw_tbl[795]? = some (.code ⟨"DoubleHeap", "two", "(IIIII)I"⟩ prog_1_method_12_code 8 (some .int)) := rfl
set_option maxRecDepth 100000 in
theorem dh_wc98 : lw_tbl[814]? = some (.code ⟨"DoubleHeap", "growing", "(IIIII)I"⟩ prog_1_method_13_code 7 (some .int)) := rfl
set_option maxRecDepth 100000 in
theorem dh_wc99 : lw_tbl[836]? = some (.code ⟨"DoubleHeap", "each", "(IIIII)I"⟩ prog_1_method_14_code 8 (some .int)) := rfl
set_option maxRecDepth 100000 in
theorem dh_wc100 : lw_tbl[844]? = some (.code ⟨"DoubleHeap", "ones", "(III)I"⟩ prog_1_method_15_code 5 (some .int)) := rfl
set_option maxRecDepth 100000 in
theorem dh_wc101 : lw_tbl[857]? = some (.code ⟨"DoubleHeap", "passes", "(IIIIII)I"⟩ prog_1_method_16_code 10 (some .int)) := rfl
set_option maxRecDepth 100000 in
theorem dh_wc102 : lw_tbl[878]? = some (.code ⟨"DoubleHeap", "hope", "(IIIII)I"⟩ prog_1_method_17_code 7 (some .int)) := rfl
set_option maxRecDepth 100000 in
theorem dh_wc103 : lw_tbl[905]? = some (.code ⟨"DoubleHeap", "pattern", "(II)I"⟩ prog_1_method_18_code 5 (some .int)) := rfl
set_option maxRecDepth 100000 in
theorem dh_wc104 : lw_tbl[918]? = some (.code ⟨"DoubleHeap", "simple", "(II)I"⟩ prog_1_method_19_code 6 (some .int)) := rfl
set_option maxRecDepth 100000 in
theorem dh_wc105 : lw_tbl[942]? = some (.code ⟨"DoubleHeap", "longest", "(IIII)I"⟩ prog_1_method_20_code 5 (some .int)) := rfl
set_option maxRecDepth 100000 in
theorem dh_wc106 : lw_tbl[946]? = some (.code ⟨"DoubleHeap", "unlike", "(III)I"⟩ prog_1_method_21_code 11 (some .int)) := rfl
set_option maxRecDepth 100000 in
theorem dh_wc107 : lw_tbl[950]? = some (.code ⟨"DoubleHeap", "judged", "(IIII)I"⟩ prog_1_method_22_code 7 (some .int)) := rfl
set_option maxRecDepth 100000 in
theorem dh_wc108 : lw_tbl[980]? = some (.code ⟨"DoubleHeap", "fromWhen", "(II)I"⟩ prog_1_method_23_code 7 (some .int)) := rfl
set_option maxRecDepth 100000 in
theorem dh_wc109 : lw_tbl[988]? = some (.code ⟨"DoubleHeap", "thought", "(I)I"⟩ prog_1_method_24_code 5 (some .int)) := rfl
set_option maxRecDepth 100000 in
theorem dh_wc110 : lw_tbl[996]? = some (.code ⟨"DoubleHeap", "chance", "(IIII)J"⟩ prog_1_method_25_code 16 (some .long)) := rfl
set_option maxRecDepth 100000 in
theorem dh_wc111 : lw_tbl[1009]? = some (.code ⟨"DoubleHeap", "stove", "(II)Z"⟩ prog_1_method_26_code 3 (some .boolean)) := rfl
set_option maxRecDepth 100000 in
theorem dh_wc112 : lw_tbl[1017]? = some (.code ⟨"DoubleHeap", "take", "(I)I"⟩ prog_1_method_27_code 3 (some .int)) := rfl
set_option maxRecDepth 100000 in
theorem dh_wc113 : lw_tbl[1025]? = some (.code ⟨"DoubleHeap", "she", "()I"⟩ prog_1_method_28_code 3 (some .int)) := rfl
set_option maxRecDepth 100000 in
theorem dh_wc114 : lw_tbl[1034]? = some (.code ⟨"DoubleHeap", "child", "()I"⟩ prog_1_method_29_code 5 (some .int)) := rfl
set_option maxRecDepth 100000 in
theorem dh_wc115 : lw_tbl[1045]? = some (.code ⟨"DoubleHeap", "back", "()I"⟩ prog_1_method_30_code 1 (some .int)) := rfl
set_option maxRecDepth 100000 in
theorem dh_wc116 : lw_tbl[1053]? = some (.code ⟨"DoubleHeap", "against", "(IIII)I"⟩ prog_1_method_31_code 7 (some .int)) := rfl
set_option maxRecDepth 100000 in
theorem dh_wc117 : lw_tbl[1065]? = some (.code ⟨"DoubleHeap", "evenings", "(IIII)I"⟩ prog_1_method_32_code 8 (some .int)) := rfl
set_option maxRecDepth 100000 in
theorem dh_wc118 : lw_tbl[1069]? = some (.code ⟨"DoubleHeap", "seed", "(I)Z"⟩ prog_1_method_33_code 2 (some .boolean)) := rfl
set_option maxRecDepth 100000 in
theorem dh_wc119 : lw_tbl[1073]? = some (.code ⟨"DoubleHeap", "keep", "()I"⟩ prog_1_method_34_code 1 (some .int)) := rfl
set_option maxRecDepth 100000 in
theorem dh_wc120 : lw_tbl[1082]? = some (.code ⟨"DoubleHeap", "undo", "()Z"⟩ prog_1_method_35_code 1 (some .boolean)) := rfl
set_option maxRecDepth 100000 in
theorem dh_wc121 : lw_tbl[1086]? = some (.code ⟨"DoubleHeap", "check", "(II)I"⟩ prog_1_method_36_code 6 (some .int)) := rfl
set_option maxRecDepth 100000 in
theorem dh_wc122 : lw_tbl[1091]? = some (.code ⟨"DoubleHeap", "count", "(I)I"⟩ prog_1_method_37_code 2 (some .int)) := rfl
set_option maxRecDepth 100000 in
theorem dh_wc123 : lw_tbl[1095]? = some (.code ⟨"DoubleHeap", "toldLaws", "()I"⟩ prog_1_method_38_code 3 (some .int)) := rfl
set_option maxRecDepth 100000 in
theorem dh_wc124 : lw_tbl[1099]? = some (.code ⟨"DoubleHeap", "toldTales", "()I"⟩ prog_1_method_39_code 3 (some .int)) := rfl
set_option maxRecDepth 100000 in
theorem dh_wc125 : lw_tbl[1103]? = some (.code ⟨"DoubleHeap", "sizeOfText", "(I)I"⟩ prog_1_method_40_code 3 (some .int)) := rfl
set_option maxRecDepth 100000 in
theorem dh_wc126 : lw_tbl[479]? = some (.code ⟨"DoubleHeap", "lawAt", "(I)LDoubleHeap$Law;"⟩ prog_1_method_41_code 2 (some (.object "DoubleHeap$Law"))) := rfl
set_option maxRecDepth 100000 in
theorem dh_wc127 : lw_tbl[615]? = some (.code ⟨"DoubleHeap", "toldLaw", "(I)LDoubleHeap$Law;"⟩ prog_1_method_42_code 3 (some (.object "DoubleHeap$Law"))) := rfl
set_option maxRecDepth 100000 in
theorem dh_wc128 : lw_tbl[611]? = some (.code ⟨"DoubleHeap", "readyLaw", "(III)LDoubleHeap$Law;"⟩ prog_1_method_43_code 5 (some (.object "DoubleHeap$Law"))) := rfl
set_option maxRecDepth 100000 in
theorem dh_wc129 : lw_tbl[579]? = some (.code ⟨"DoubleHeap", "taleAt", "(I)LDoubleHeap$Tale;"⟩ prog_1_method_44_code 2 (some (.object "DoubleHeap$Tale"))) := rfl
set_option maxRecDepth 100000 in
theorem dh_wc130 : lw_tbl[954]? = some (.code ⟨"DoubleHeap", "toldTale", "(I)LDoubleHeap$Tale;"⟩ prog_1_method_45_code 3 (some (.object "DoubleHeap$Tale"))) := rfl
set_option maxRecDepth 100000 in
theorem dh_wc131 : lw_tbl[992]? = some (.code ⟨"DoubleHeap", "fits", "(LDoubleHeap$Law;I)Z"⟩ prog_1_method_46_code 5 (some .boolean)) := rfl
set_option maxRecDepth 100000 in
theorem dh_wc132 : lw_tbl[699]? = some (.code ⟨"DoubleHeap", "shyest", "(IJII)I"⟩ prog_1_method_47_code 12 (some .int)) := rfl
set_option maxRecDepth 100000 in
theorem dh_wc133 : lw_tbl[754]? = some (.code ⟨"DoubleHeap", "rowAnswer", "(IIIII)I"⟩ prog_1_method_48_code 9 (some .int)) := rfl
set_option maxRecDepth 100000 in
theorem dh_wc134 : lw_tbl[832]? = some (.code ⟨"DoubleHeap", "wonOrLeast", "(JI)I"⟩ prog_1_method_49_code 3 (some .int)) := rfl
set_option maxRecDepth 100000 in
theorem dh_wc135 : lw_tbl[618]? = some (.code ⟨"DoubleHeap", "isState", "(II)Z"⟩ prog_1_method_50_code 2 (some .boolean)) := rfl
set_option maxRecDepth 100000 in
theorem dh_wc136 : lw_tbl[957]? = some (.code ⟨"DoubleHeap", "isPlayer", "(I)Z"⟩ prog_1_method_51_code 1 (some .boolean)) := rfl
set_option maxRecDepth 100000 in
theorem dh_wc137 : lw_tbl[536]? = some (.code ⟨"DoubleHeap", "isDigit", "(I)Z"⟩ prog_1_method_52_code 1 (some .boolean)) := rfl
set_option maxRecDepth 100000 in
theorem dh_wc138 : lw_tbl[594]? = some (.code ⟨"DoubleHeap", "fault", "(II)I"⟩ prog_1_method_53_code 2 (some .int)) := rfl
set_option maxRecDepth 100000 in
theorem dh_wc139 : lw_tbl[634]? = some (.code ⟨"DoubleHeap", "cell", "(II)I"⟩ prog_1_method_54_code 2 (some .int)) := rfl
set_option maxRecDepth 100000 in
theorem dh_wc140 : lw_tbl[672]? = some (.code ⟨"DoubleHeap", "has", "(JI)Z"⟩ prog_1_method_55_code 3 (some .boolean)) := rfl
set_option maxRecDepth 100000 in
theorem dh_wc141 : lw_tbl[669]? = some (.code ⟨"DoubleHeap", "least", "(J)I"⟩ prog_1_method_56_code 3 (some .int)) := rfl
set_option maxRecDepth 100000 in
theorem dh_wc142 : lw_tbl[675]? = some (.code ⟨"DoubleHeap", "greatest", "(J)I"⟩ prog_1_method_57_code 3 (some .int)) := rfl
set_option maxRecDepth 100000 in
theorem dh_wc143 : lw_tbl[1037]? = some (.code ⟨"DoubleHeap", "nextDraw", "(I)I"⟩ prog_1_method_58_code 1 (some .int)) := rfl
set_option maxRecDepth 100000 in
theorem dh_wc144 : lw_tbl[1041]? = some (.code ⟨"DoubleHeap", "drawn", "(JI)I"⟩ prog_1_method_59_code 6 (some .int)) := rfl
set_option maxRecDepth 100000 in
theorem dh_wc145 : lw_tbl[1001]? = some (.code ⟨"DoubleHeap", "commonDivisor", "(JJ)J"⟩ prog_1_method_60_code 11 (some .long)) := rfl
set_option maxRecDepth 100000 in
theorem dh_wc146 : lw_tbl[1302]? = some (.code ⟨"DoubleHeapModel", "in", "(III)Z"⟩ prog_13_method_2_code 3 (some .boolean)) := rfl
set_option maxRecDepth 100000 in
theorem dh_wc147 : lw_tbl[1403]? = some (.code ⟨"DoubleHeapModel", "min", "(II)I"⟩ prog_13_method_3_code 2 (some .int)) := rfl
set_option maxRecDepth 100000 in
theorem dh_wc148 : lw_tbl[1469]? = some (.code ⟨"DoubleHeapModel", "max", "(II)I"⟩ prog_13_method_4_code 2 (some .int)) := rfl
set_option maxRecDepth 100000 in
theorem dh_wc149 : lw_tbl[1417]? = some (.code ⟨"DoubleHeapModel", "has", "(JI)Z"⟩ prog_13_method_5_code 3 (some .boolean)) := rfl
set_option maxRecDepth 100000 in
theorem dh_wc150 : lw_tbl[1453]? = some (.code ⟨"DoubleHeapModel", "bits", "(J)I"⟩ prog_13_method_6_code 4 (some .int)) := rfl
set_option maxRecDepth 100000 in
theorem dh_wc151 : lw_tbl[1447]? = some (.code ⟨"DoubleHeapModel", "lowestOf", "(J)I"⟩ prog_13_method_7_code 3 (some .int)) := rfl
set_option maxRecDepth 100000 in
theorem dh_wc152 : lw_tbl[1450]? = some (.code ⟨"DoubleHeapModel", "highestOf", "(J)I"⟩ prog_13_method_8_code 3 (some .int)) := rfl
set_option maxRecDepth 100000 in
theorem dh_wc153 : lw_tbl[1441]? = some (.code ⟨"DoubleHeapModel", "isLaw", "(I)Z"⟩ prog_13_method_9_code 2 (some .boolean)) := rfl
set_option maxRecDepth 100000 in
theorem dh_wc154 : lw_tbl[1614]? = some (.code ⟨"DoubleHeapModel", "isGame", "(I)Z"⟩ prog_13_method_10_code 2 (some .boolean)) := rfl
set_option maxRecDepth 100000 in
theorem dh_wc155 : lw_tbl[1444]? = some (.code ⟨"DoubleHeapModel", "isState", "(II)Z"⟩ prog_13_method_11_code 2 (some .boolean)) := rfl
set_option maxRecDepth 100000 in
theorem dh_wc156 : lw_tbl[1410]? = some (.code ⟨"DoubleHeapModel", "at", "(III)I"⟩ prog_13_method_12_code 3 (some .int)) := rfl
set_option maxRecDepth 100000 in
theorem dh_wc157 : lw_tbl[1457]? = some (.code ⟨"DoubleHeapModel", "takesOf", "(III)J"⟩ prog_13_method_13_code 4 (some .long)) := rfl
set_option maxRecDepth 100000 in
theorem dh_wc158 : lw_tbl[1421]? = some (.code ⟨"DoubleHeapModel", "goodOf", "(III)J"⟩ prog_13_method_14_code 4 (some .long)) := rfl
set_option maxRecDepth 100000 in
theorem dh_wc159 : lw_tbl[1295]? = some (.code ⟨"DoubleHeapModel", "types", "(I)V"⟩ prog_13_method_15_code 3 none) := rfl
set_option maxRecDepth 100000 in
theorem dh_wc160 : lw_tbl[1291]? = some (.code ⟨"DoubleHeapModel", "feed", "(IIIII)I"⟩ prog_13_method_16_code 6 (some .int)) := rfl
set_option maxRecDepth 100000 in
theorem dh_wc161 : lw_tbl[1310]? = some (.code ⟨"DoubleHeapModel", "here", "()I"⟩ prog_13_method_17_code 1 (some .int)) := rfl
set_option maxRecDepth 100000 in
theorem dh_wc162 : lw_tbl[1331]? = some (.code ⟨"DoubleHeapModel", "isDigit", "()Z"⟩ prog_13_method_18_code 1 (some .boolean)) := rfl
set_option maxRecDepth 100000 in
theorem dh_wc163 : lw_tbl[1314]? = some (.code ⟨"DoubleHeapModel", "wrongAt", "(II)Z"⟩ prog_13_method_19_code 3 (some .boolean)) := rfl
set_option maxRecDepth 100000 in
theorem dh_wc164 : lw_tbl[1381]? = some (.code ⟨"DoubleHeapModel", "takesSign", "(I)Z"⟩ prog_13_method_20_code 2 (some .boolean)) := rfl
set_option maxRecDepth 100000 in
theorem dh_wc165 : lw_tbl[1335]? = some (.code ⟨"DoubleHeapModel", "readsNumber", "()Z"⟩ prog_13_method_21_code 2 (some .boolean)) := rfl
set_option maxRecDepth 100000 in
theorem dh_wc166 : lw_tbl[1339]? = some (.code ⟨"DoubleHeapModel", "notes", "(II)V"⟩ prog_13_method_22_code 3 none) := rfl
set_option maxRecDepth 100000 in
theorem dh_wc167 : lw_tbl[1326]? = some (.code ⟨"DoubleHeapModel", "opens", "(I)Z"⟩ prog_13_method_23_code 2 (some .boolean)) := rfl
set_option maxRecDepth 100000 in
theorem dh_wc168 : lw_tbl[1353]? = some (.code ⟨"DoubleHeapModel", "waitTop", "()I"⟩ prog_13_method_24_code 1 (some .int)) := rfl
set_option maxRecDepth 100000 in
theorem dh_wc169 : lw_tbl[1342]? = some (.code ⟨"DoubleHeapModel", "factOf", "(I)I"⟩ prog_13_method_25_code 1 (some .int)) := rfl
set_option maxRecDepth 100000 in
theorem dh_wc170 : lw_tbl[1345]? = some (.code ⟨"DoubleHeapModel", "sumSign", "(I)I"⟩ prog_13_method_26_code 1 (some .int)) := rfl
set_option maxRecDepth 100000 in
theorem dh_wc171 : lw_tbl[1349]? = some (.code ⟨"DoubleHeapModel", "closesSums", "(Z)V"⟩ prog_13_method_27_code 2 none) := rfl
set_option maxRecDepth 100000 in
theorem dh_wc172 : lw_tbl[1322]? = some (.code ⟨"DoubleHeapModel", "readsFactor", "()Z"⟩ prog_13_method_28_code 2 (some .boolean)) := rfl
set_option maxRecDepth 100000 in
theorem dh_wc173 : lw_tbl[1357]? = some (.code ⟨"DoubleHeapModel", "hasOpenSum", "(I)Z"⟩ prog_13_method_29_code 3 (some .boolean)) := rfl
set_option maxRecDepth 100000 in
theorem dh_wc174 : lw_tbl[1318]? = some (.code ⟨"DoubleHeapModel", "readsSum", "()Z"⟩ prog_13_method_30_code 3 (some .boolean)) := rfl
set_option maxRecDepth 100000 in
theorem dh_wc175 : lw_tbl[1369]? = some (.code ⟨"DoubleHeapModel", "endsPiece", "()V"⟩ prog_13_method_31_code 1 none) := rfl
set_option maxRecDepth 100000 in
theorem dh_wc176 : lw_tbl[1373]? = some (.code ⟨"DoubleHeapModel", "lands", "(Z)V"⟩ prog_13_method_32_code 3 none) := rfl
set_option maxRecDepth 100000 in
theorem dh_wc177 : lw_tbl[1377]? = some (.code ⟨"DoubleHeapModel", "jumps", "(I)V"⟩ prog_13_method_33_code 2 none) := rfl
set_option maxRecDepth 100000 in
theorem dh_wc178 : lw_tbl[1365]? = some (.code ⟨"DoubleHeapModel", "readsCompared", "()Z"⟩ prog_13_method_34_code 2 (some .boolean)) := rfl
set_option maxRecDepth 100000 in
theorem dh_wc179 : lw_tbl[1361]? = some (.code ⟨"DoubleHeapModel", "readsCondition", "()Z"⟩ prog_13_method_35_code 1 (some .boolean)) := rfl
set_option maxRecDepth 100000 in
theorem dh_wc180 : lw_tbl[1306]? = some (.code ⟨"DoubleHeapModel", "readsRule", "()Z"⟩ prog_13_method_36_code 2 (some .boolean)) := rfl
set_option maxRecDepth 100000 in
theorem dh_wc181 : lw_tbl[1299]? = some (.code ⟨"DoubleHeapModel", "law", "(II)I"⟩ prog_13_method_37_code 4 (some .int)) := rfl
set_option maxRecDepth 100000 in
theorem dh_wc182 : lw_tbl[1400]? = some (.code ⟨"DoubleHeapModel", "reckon", "(III)I"⟩ prog_13_method_38_code 3 (some .int)) := rfl
set_option maxRecDepth 100000 in
theorem dh_wc183 : lw_tbl[1397]? = some (.code ⟨"DoubleHeapModel", "comesTo", "(II)I"⟩ prog_13_method_39_code 8 (some .int)) := rfl
set_option maxRecDepth 100000 in
theorem dh_wc184 : lw_tbl[1393]? = some (.code ⟨"DoubleHeapModel", "feels", "(III)V"⟩ prog_13_method_40_code 4 none) := rfl
set_option maxRecDepth 100000 in
theorem dh_wc185 : lw_tbl[1389]? = some (.code ⟨"DoubleHeapModel", "mostOf", "(II)I"⟩ prog_13_method_41_code 5 (some .int)) := rfl
set_option maxRecDepth 100000 in
theorem dh_wc186 : lw_tbl[1407]? = some (.code ⟨"DoubleHeapModel", "forbids", "(III)Z"⟩ prog_13_method_42_code 5 (some .boolean)) := rfl
set_option maxRecDepth 100000 in
theorem dh_wc187 : lw_tbl[1385]? = some (.code ⟨"DoubleHeapModel", "laysLaw", "(I)V"⟩ prog_13_method_43_code 8 none) := rfl
set_option maxRecDepth 100000 in
theorem dh_wc188 : lw_tbl[1414]? = some (.code ⟨"DoubleHeapModel", "goodBy", "(IIJ)J"⟩ prog_13_method_44_code 8 (some .long)) := rfl
set_option maxRecDepth 100000 in
theorem dh_wc189 : lw_tbl[1429]? = some (.code ⟨"DoubleHeapModel", "readsTwo", "()Z"⟩ prog_13_method_45_code 2 (some .boolean)) := rfl
set_option maxRecDepth 100000 in
theorem dh_wc190 : lw_tbl[1425]? = some (.code ⟨"DoubleHeapModel", "game", "(II)I"⟩ prog_13_method_46_code 6 (some .int)) := rfl
set_option maxRecDepth 100000 in
theorem dh_wc191 : lw_tbl[1433]? = some (.code ⟨"DoubleHeapModel", "readsTakes", "(I)I"⟩ prog_13_method_47_code 5 (some .int)) := rfl
set_option maxRecDepth 100000 in
theorem dh_wc192 : lw_tbl[1461]? = some (.code ⟨"DoubleHeapModel", "laysRows", "(II)V"⟩ prog_13_method_48_code 5 none) := rfl
set_option maxRecDepth 100000 in
theorem dh_wc193 : lw_tbl[1465]? = some (.code ⟨"DoubleHeapModel", "laysState", "(III)V"⟩ prog_13_method_49_code 18 none) := rfl
set_option maxRecDepth 100000 in
theorem dh_wc194 : lw_tbl[1472]? = some (.code ⟨"DoubleHeapModel", "less", "(J)J"⟩ prog_13_method_50_code 2 (some .long)) := rfl
set_option maxRecDepth 100000 in
theorem dh_wc195 : lw_tbl[1477]? = some (.code ⟨"DoubleHeapModel", "shyOf", "(III)I"⟩ prog_13_method_51_code 9 (some .int)) := rfl
set_option maxRecDepth 100000 in
theorem dh_wc196 : lw_tbl[1437]? = some (.code ⟨"DoubleHeapModel", "state", "(IIII)I"⟩ prog_13_method_52_code 7 (some .int)) := rfl
set_option maxRecDepth 100000 in
theorem dh_wc197 : lw_tbl[1481]? = some (.code ⟨"DoubleHeapModel", "takes", "(IIII)J"⟩ prog_13_method_53_code 5 (some .long)) := rfl
set_option maxRecDepth 100000 in
theorem dh_wc198 : lw_tbl[1486]? = some (.code ⟨"DoubleHeapModel", "lost", "(I)J"⟩ prog_13_method_54_code 2 (some .long)) := rfl
set_option maxRecDepth 100000 in
theorem dh_wc199 : lw_tbl[1493]? = some (.code ⟨"DoubleHeapModel", "numberAt", "(JI)I"⟩ prog_13_method_55_code 5 (some .int)) := rfl
set_option maxRecDepth 100000 in
theorem dh_wc200 : lw_tbl[1490]? = some (.code ⟨"DoubleHeapModel", "lostAt", "(II)I"⟩ prog_13_method_56_code 3 (some .int)) := rfl
set_option maxRecDepth 100000 in
theorem dh_wc201 : lw_tbl[1497]? = some (.code ⟨"DoubleHeapModel", "ends", "(IIII)I"⟩ prog_13_method_57_code 9 (some .int)) := rfl
set_option maxRecDepth 100000 in
theorem dh_wc202 : lw_tbl[1501]? = some (.code ⟨"DoubleHeapModel", "longest", "(IIII)I"⟩ prog_13_method_58_code 9 (some .int)) := rfl
set_option maxRecDepth 100000 in
theorem dh_wc203 : lw_tbl[1513]? = some (.code ⟨"DoubleHeapModel", "laysLost", "(J)V"⟩ prog_13_method_59_code 4 none) := rfl
set_option maxRecDepth 100000 in
theorem dh_wc204 : lw_tbl[1518]? = some (.code ⟨"DoubleHeapModel", "waysBy", "(II)I"⟩ prog_13_method_60_code 3 (some .int)) := rfl
set_option maxRecDepth 100000 in
theorem dh_wc205 : lw_tbl[1509]? = some (.code ⟨"DoubleHeapModel", "laysWays", "(I)V"⟩ prog_13_method_61_code 4 none) := rfl
set_option maxRecDepth 100000 in
theorem dh_wc206 : lw_tbl[1522]? = some (.code ⟨"DoubleHeapModel", "greatestFirst", "(I)J"⟩ prog_13_method_62_code 6 (some .long)) := rfl
set_option maxRecDepth 100000 in
theorem dh_wc207 : lw_tbl[1505]? = some (.code ⟨"DoubleHeapModel", "sums", "(III)I"⟩ prog_13_method_63_code 6 (some .int)) := rfl
set_option maxRecDepth 100000 in
theorem dh_wc208 : lw_tbl[1527]? = some (.code ⟨"DoubleHeapModel", "sum", "(II)J"⟩ prog_13_method_64_code 3 (some .long)) := rfl
set_option maxRecDepth 100000 in
theorem dh_wc209 : lw_tbl[1534]? = some (.code ⟨"DoubleHeapModel", "atTwo", "(III)I"⟩ prog_13_method_65_code 3 (some .int)) := rfl
set_option maxRecDepth 100000 in
theorem dh_wc210 : lw_tbl[1538]? = some (.code ⟨"DoubleHeapModel", "goodTwo", "(IIIIZ)I"⟩ prog_13_method_66_code 9 (some .int)) := rfl
set_option maxRecDepth 100000 in
theorem dh_wc211 : lw_tbl[1531]? = some (.code ⟨"DoubleHeapModel", "two", "(IIIII)I"⟩ prog_13_method_67_code 9 (some .int)) := rfl
set_option maxRecDepth 100000 in
theorem dh_wc212 : lw_tbl[1546]? = some (.code ⟨"DoubleHeapModel", "goodGrowing", "(IIIII)I"⟩ prog_13_method_68_code 10 (some .int)) := rfl
set_option maxRecDepth 100000 in
theorem dh_wc213 : lw_tbl[1542]? = some (.code ⟨"DoubleHeapModel", "growing", "(IIIII)I"⟩ prog_13_method_69_code 9 (some .int)) := rfl
set_option maxRecDepth 100000 in
theorem dh_wc214 : lw_tbl[1554]? = some (.code ⟨"DoubleHeapModel", "goodEach", "(I[ZII)I"⟩ prog_13_method_70_code 6 (some .int)) := rfl
set_option maxRecDepth 100000 in
theorem dh_wc215 : lw_tbl[1550]? = some (.code ⟨"DoubleHeapModel", "each", "(IIIII)I"⟩ prog_13_method_71_code 8 (some .int)) := rfl
set_option maxRecDepth 100000 in
theorem dh_wc216 : lw_tbl[1562]? = some (.code ⟨"DoubleHeapModel", "winsByOnes", "(III)Z"⟩ prog_13_method_72_code 7 (some .boolean)) := rfl
set_option maxRecDepth 100000 in
theorem dh_wc217 : lw_tbl[1558]? = some (.code ⟨"DoubleHeapModel", "ones", "(III)I"⟩ prog_13_method_73_code 6 (some .int)) := rfl
set_option maxRecDepth 100000 in
theorem dh_wc218 : lw_tbl[1570]? = some (.code ⟨"DoubleHeapModel", "takesPassing", "(IIIII)Z"⟩ prog_13_method_74_code 7 (some .boolean)) := rfl
set_option maxRecDepth 100000 in
theorem dh_wc219 : lw_tbl[1574]? = some (.code ⟨"DoubleHeapModel", "passesWell", "(IIII)Z"⟩ prog_13_method_75_code 5 (some .boolean)) := rfl
set_option maxRecDepth 100000 in
theorem dh_wc220 : lw_tbl[1566]? = some (.code ⟨"DoubleHeapModel", "passes", "(IIIIII)I"⟩ prog_13_method_76_code 9 (some .int)) := rfl
set_option maxRecDepth 100000 in
theorem dh_wc221 : lw_tbl[1582]? = some (.code ⟨"DoubleHeapModel", "laysHope", "(III)V"⟩ prog_13_method_77_code 9 none) := rfl
set_option maxRecDepth 100000 in
theorem dh_wc222 : lw_tbl[1578]? = some (.code ⟨"DoubleHeapModel", "hope", "(IIIII)I"⟩ prog_13_method_78_code 8 (some .int)) := rfl
set_option maxRecDepth 100000 in
theorem dh_wc223 : lw_tbl[1590]? = some (.code ⟨"DoubleHeapModel", "fromPlace", "(I)I"⟩ prog_13_method_79_code 3 (some .int)) := rfl
set_option maxRecDepth 100000 in
theorem dh_wc224 : lw_tbl[1586]? = some (.code ⟨"DoubleHeapModel", "pattern", "(II)I"⟩ prog_13_method_80_code 4 (some .int)) := rfl
set_option maxRecDepth 100000 in
theorem dh_wc225 : lw_tbl[1602]? = some (.code ⟨"DoubleHeapModel", "isWonSimple", "(IIII)Z"⟩ prog_13_method_81_code 7 (some .boolean)) := rfl
set_option maxRecDepth 100000 in
theorem dh_wc226 : lw_tbl[1598]? = some (.code ⟨"DoubleHeapModel", "isSimple", "(III)Z"⟩ prog_13_method_82_code 6 (some .boolean)) := rfl
set_option maxRecDepth 100000 in
theorem dh_wc227 : lw_tbl[1594]? = some (.code ⟨"DoubleHeapModel", "simple", "(II)I"⟩ prog_13_method_83_code 6 (some .int)) := rfl
set_option maxRecDepth 100000 in
theorem dh_wc228 : lw_tbl[1606]? = some (.code ⟨"DoubleHeapModel", "unlike", "(III)I"⟩ prog_13_method_84_code 9 (some .int)) := rfl
set_option maxRecDepth 100000 in
theorem dh_wc229 : lw_tbl[1618]? = some (.code ⟨"DoubleHeapModel", "sees", "(II)V"⟩ prog_13_method_85_code 4 none) := rfl
set_option maxRecDepth 100000 in
theorem dh_wc230 : lw_tbl[1610]? = some (.code ⟨"DoubleHeapModel", "judged", "(IIII)I"⟩ prog_13_method_86_code 10 (some .int)) := rfl
set_option maxRecDepth 100000 in
theorem dh_wc231 : lw_tbl[1622]? = some (.code ⟨"DoubleHeapModel", "fromWhen", "(II)I"⟩ prog_13_method_87_code 8 (some .int)) := rfl
set_option maxRecDepth 100000 in
theorem dh_wc232 : lw_tbl[1626]? = some (.code ⟨"DoubleHeapModel", "thought", "(I)I"⟩ prog_13_method_88_code 4 (some .int)) := rfl
set_option maxRecDepth 100000 in
theorem dh_wc233 : lw_tbl[1630]? = some (.code ⟨"DoubleHeapModel", "isThought", "(II)Z"⟩ prog_13_method_89_code 4 (some .boolean)) := rfl
set_option maxRecDepth 100000 in
theorem dh_wc234 : lw_tbl[1638]? = some (.code ⟨"DoubleHeapModel", "gcd", "(JJ)J"⟩ prog_13_method_90_code 10 (some .long)) := rfl
set_option maxRecDepth 100000 in
theorem dh_wc235 : lw_tbl[1635]? = some (.code ⟨"DoubleHeapModel", "chance", "(IIII)J"⟩ prog_13_method_91_code 14 (some .long)) := rfl
set_option maxRecDepth 100000 in
theorem dh_wc236 : lw_tbl[1651]? = some (.code ⟨"DoubleHeapModel", "stoveHeap", "()I"⟩ prog_13_method_92_code 3 (some .int)) := rfl
set_option maxRecDepth 100000 in
theorem dh_wc237 : lw_tbl[1655]? = some (.code ⟨"DoubleHeapModel", "stoveLast", "()I"⟩ prog_13_method_93_code 1 (some .int)) := rfl
set_option maxRecDepth 100000 in
theorem dh_wc238 : lw_tbl[1659]? = some (.code ⟨"DoubleHeapModel", "takesNow", "(I)I"⟩ prog_13_method_94_code 2 (some .int)) := rfl
set_option maxRecDepth 100000 in
theorem dh_wc239 : lw_tbl[1643]? = some (.code ⟨"DoubleHeapModel", "stove", "(II)Z"⟩ prog_13_method_95_code 3 (some .boolean)) := rfl
set_option maxRecDepth 100000 in
theorem dh_wc240 : lw_tbl[1647]? = some (.code ⟨"DoubleHeapModel", "take", "(I)I"⟩ prog_13_method_96_code 2 (some .int)) := rfl
set_option maxRecDepth 100000 in
theorem dh_wc241 : lw_tbl[1667]? = some (.code ⟨"DoubleHeapModel", "hersOf", "(III)I"⟩ prog_13_method_97_code 5 (some .int)) := rfl
set_option maxRecDepth 100000 in
theorem dh_wc242 : lw_tbl[1675]? = some (.code ⟨"DoubleHeapModel", "childsOf", "(III)I"⟩ prog_13_method_98_code 6 (some .int)) := rfl
set_option maxRecDepth 100000 in
theorem dh_wc243 : lw_tbl[1663]? = some (.code ⟨"DoubleHeapModel", "she", "()I"⟩ prog_13_method_99_code 2 (some .int)) := rfl
set_option maxRecDepth 100000 in
theorem dh_wc244 : lw_tbl[1671]? = some (.code ⟨"DoubleHeapModel", "child", "()I"⟩ prog_13_method_100_code 2 (some .int)) := rfl
set_option maxRecDepth 100000 in
theorem dh_wc245 : lw_tbl[1680]? = some (.code ⟨"DoubleHeapModel", "back", "()I"⟩ prog_13_method_101_code 1 (some .int)) := rfl
set_option maxRecDepth 100000 in
theorem dh_wc246 : lw_tbl[1688]? = some (.code ⟨"DoubleHeapModel", "plays", "(III)Z"⟩ prog_13_method_102_code 8 (some .boolean)) := rfl
set_option maxRecDepth 100000 in
theorem dh_wc247 : lw_tbl[1684]? = some (.code ⟨"DoubleHeapModel", "against", "(IIII)I"⟩ prog_13_method_103_code 7 (some .int)) := rfl
set_option maxRecDepth 100000 in
theorem dh_wc248 : lw_tbl[1692]? = some (.code ⟨"DoubleHeapModel", "evenings", "(IIII)I"⟩ prog_13_method_104_code 8 (some .int)) := rfl
set_option maxRecDepth 100000 in
theorem dh_wc249 : lw_tbl[1696]? = some (.code ⟨"DoubleHeapModel", "seed", "(I)Z"⟩ prog_13_method_105_code 2 (some .boolean)) := rfl
set_option maxRecDepth 100000 in
theorem dh_wc250 : lw_tbl[1701]? = some (.code ⟨"DoubleHeapModel", "keep", "()I"⟩ prog_13_method_106_code 2 (some .int)) := rfl
set_option maxRecDepth 100000 in
theorem dh_wc251 : lw_tbl[1705]? = some (.code ⟨"DoubleHeapModel", "undo", "()Z"⟩ prog_13_method_107_code 2 (some .boolean)) := rfl
set_option maxRecDepth 100000 in
theorem dh_wc252 : lw_tbl[1709]? = some (.code ⟨"DoubleHeapModel", "check", "(II)I"⟩ prog_13_method_108_code 4 (some .int)) := rfl
set_option maxRecDepth 100000 in
theorem dh_wc253 : lw_tbl[1713]? = some (.code ⟨"DoubleHeapModel", "count", "(I)I"⟩ prog_13_method_109_code 2 (some .int)) := rfl
set_option maxRecDepth 100000 in
theorem dh_wc254 : lw_tbl[678]? = some (.code ⟨"java/lang/Long", "bitCount", "(J)I"⟩ prog_14_method_50_code 2 (some .int)) := rfl
set_option maxRecDepth 100000 in
theorem dh_wc255 : lw_tbl[571]? = some (.code ⟨"java/util/Arrays", "fill", "([JJ)V"⟩ prog_17_method_101_code 5 none) := rfl
set_option maxRecDepth 100000 in
theorem dh_cws0 : ∀ mi ∈ dh_mt0, mi.2.2.2.2.2.2.1 ≠ 12 → dh_cw mi ∈ lw_tbl := List.forall_mem_cons.mpr ⟨fun _ => List.mem_of_getElem? dh_wc0, List.forall_mem_cons.mpr ⟨fun _ => List.mem_of_getElem? dh_wc1, List.forall_mem_cons.mpr ⟨fun _ => List.mem_of_getElem? dh_wc2, List.forall_mem_cons.mpr ⟨fun _ => List.mem_of_getElem? dh_wc3, List.forall_mem_cons.mpr ⟨fun _ => List.mem_of_getElem? dh_wc4, List.forall_mem_cons.mpr ⟨fun _ => List.mem_of_getElem? dh_wc5, List.forall_mem_cons.mpr ⟨fun _ => List.mem_of_getElem? dh_wc6, List.forall_mem_cons.mpr ⟨fun _ => List.mem_of_getElem? dh_wc7, List.forall_mem_cons.mpr ⟨fun _ => List.mem_of_getElem? dh_wc8, List.forall_mem_cons.mpr ⟨fun _ => List.mem_of_getElem? dh_wc9, List.forall_mem_cons.mpr ⟨fun _ => List.mem_of_getElem? dh_wc10, List.forall_mem_cons.mpr ⟨fun _ => List.mem_of_getElem? dh_wc11, List.forall_mem_cons.mpr ⟨fun _ => List.mem_of_getElem? dh_wc12, List.forall_mem_cons.mpr ⟨fun _ => List.mem_of_getElem? dh_wc13, List.forall_mem_cons.mpr ⟨fun _ => List.mem_of_getElem? dh_wc14, List.forall_mem_cons.mpr ⟨fun _ => List.mem_of_getElem? dh_wc15, List.forall_mem_cons.mpr ⟨fun _ => List.mem_of_getElem? dh_wc16, List.forall_mem_cons.mpr ⟨fun _ => List.mem_of_getElem? dh_wc17, List.forall_mem_cons.mpr ⟨fun _ => List.mem_of_getElem? dh_wc18, List.forall_mem_cons.mpr ⟨fun _ => List.mem_of_getElem? dh_wc19, List.forall_mem_cons.mpr ⟨fun _ => List.mem_of_getElem? dh_wc20, List.forall_mem_cons.mpr ⟨fun _ => List.mem_of_getElem? dh_wc21, List.forall_mem_cons.mpr ⟨fun _ => List.mem_of_getElem? dh_wc22, List.forall_mem_cons.mpr ⟨fun _ => List.mem_of_getElem? dh_wc23, List.forall_mem_cons.mpr ⟨fun _ => List.mem_of_getElem? dh_wc24, List.forall_mem_cons.mpr ⟨fun _ => List.mem_of_getElem? dh_wc25, List.forall_mem_cons.mpr ⟨fun _ => List.mem_of_getElem? dh_wc26, List.forall_mem_cons.mpr ⟨fun _ => List.mem_of_getElem? dh_wc27, List.forall_mem_cons.mpr ⟨fun _ => List.mem_of_getElem? dh_wc28, List.forall_mem_cons.mpr ⟨fun _ => List.mem_of_getElem? dh_wc29, List.forall_mem_cons.mpr ⟨fun _ => List.mem_of_getElem? dh_wc30, List.forall_mem_cons.mpr ⟨fun _ => List.mem_of_getElem? dh_wc31, List.forall_mem_cons.mpr ⟨fun _ => List.mem_of_getElem? dh_wc32, List.forall_mem_cons.mpr ⟨fun _ => List.mem_of_getElem? dh_wc33, List.forall_mem_cons.mpr ⟨fun _ => List.mem_of_getElem? dh_wc34, List.forall_mem_cons.mpr ⟨fun _ => List.mem_of_getElem? dh_wc35, List.forall_mem_cons.mpr ⟨fun _ => List.mem_of_getElem? dh_wc36, List.forall_mem_cons.mpr ⟨fun _ => List.mem_of_getElem? dh_wc37, List.forall_mem_cons.mpr ⟨fun _ => List.mem_of_getElem? dh_wc38, List.forall_mem_cons.mpr ⟨fun _ => List.mem_of_getElem? dh_wc39, fun _ h => absurd h List.not_mem_nil⟩⟩⟩⟩⟩⟩⟩⟩⟩⟩⟩⟩⟩⟩⟩⟩⟩⟩⟩⟩⟩⟩⟩⟩⟩⟩⟩⟩⟩⟩⟩⟩⟩⟩⟩⟩⟩⟩⟩⟩
set_option maxRecDepth 100000 in
theorem dh_cws1 : ∀ mi ∈ dh_mt1, mi.2.2.2.2.2.2.1 ≠ 12 → dh_cw mi ∈ lw_tbl := List.forall_mem_cons.mpr ⟨fun _ => List.mem_of_getElem? dh_wc40, List.forall_mem_cons.mpr ⟨fun _ => List.mem_of_getElem? dh_wc41, List.forall_mem_cons.mpr ⟨fun _ => List.mem_of_getElem? dh_wc42, List.forall_mem_cons.mpr ⟨fun _ => List.mem_of_getElem? dh_wc43, List.forall_mem_cons.mpr ⟨fun _ => List.mem_of_getElem? dh_wc44, List.forall_mem_cons.mpr ⟨fun _ => List.mem_of_getElem? dh_wc45, List.forall_mem_cons.mpr ⟨fun _ => List.mem_of_getElem? dh_wc46, List.forall_mem_cons.mpr ⟨fun _ => List.mem_of_getElem? dh_wc47, List.forall_mem_cons.mpr ⟨fun _ => List.mem_of_getElem? dh_wc48, List.forall_mem_cons.mpr ⟨fun _ => List.mem_of_getElem? dh_wc49, List.forall_mem_cons.mpr ⟨fun _ => List.mem_of_getElem? dh_wc50, List.forall_mem_cons.mpr ⟨fun _ => List.mem_of_getElem? dh_wc51, List.forall_mem_cons.mpr ⟨fun _ => List.mem_of_getElem? dh_wc52, List.forall_mem_cons.mpr ⟨fun _ => List.mem_of_getElem? dh_wc53, List.forall_mem_cons.mpr ⟨fun _ => List.mem_of_getElem? dh_wc54, List.forall_mem_cons.mpr ⟨fun _ => List.mem_of_getElem? dh_wc55, List.forall_mem_cons.mpr ⟨fun _ => List.mem_of_getElem? dh_wc56, List.forall_mem_cons.mpr ⟨fun _ => List.mem_of_getElem? dh_wc57, List.forall_mem_cons.mpr ⟨fun _ => List.mem_of_getElem? dh_wc58, List.forall_mem_cons.mpr ⟨fun _ => List.mem_of_getElem? dh_wc59, List.forall_mem_cons.mpr ⟨fun _ => List.mem_of_getElem? dh_wc60, List.forall_mem_cons.mpr ⟨fun _ => List.mem_of_getElem? dh_wc61, List.forall_mem_cons.mpr ⟨fun _ => List.mem_of_getElem? dh_wc62, List.forall_mem_cons.mpr ⟨fun _ => List.mem_of_getElem? dh_wc63, List.forall_mem_cons.mpr ⟨fun _ => List.mem_of_getElem? dh_wc64, List.forall_mem_cons.mpr ⟨fun _ => List.mem_of_getElem? dh_wc65, List.forall_mem_cons.mpr ⟨fun _ => List.mem_of_getElem? dh_wc66, List.forall_mem_cons.mpr ⟨fun _ => List.mem_of_getElem? dh_wc67, List.forall_mem_cons.mpr ⟨fun _ => List.mem_of_getElem? dh_wc68, List.forall_mem_cons.mpr ⟨fun _ => List.mem_of_getElem? dh_wc69, List.forall_mem_cons.mpr ⟨fun _ => List.mem_of_getElem? dh_wc70, List.forall_mem_cons.mpr ⟨fun _ => List.mem_of_getElem? dh_wc71, List.forall_mem_cons.mpr ⟨fun _ => List.mem_of_getElem? dh_wc72, List.forall_mem_cons.mpr ⟨fun _ => List.mem_of_getElem? dh_wc73, List.forall_mem_cons.mpr ⟨fun _ => List.mem_of_getElem? dh_wc74, List.forall_mem_cons.mpr ⟨fun _ => List.mem_of_getElem? dh_wc75, List.forall_mem_cons.mpr ⟨fun _ => List.mem_of_getElem? dh_wc76, List.forall_mem_cons.mpr ⟨fun _ => List.mem_of_getElem? dh_wc77, List.forall_mem_cons.mpr ⟨fun _ => List.mem_of_getElem? dh_wc78, List.forall_mem_cons.mpr ⟨fun _ => List.mem_of_getElem? dh_wc79, fun _ h => absurd h List.not_mem_nil⟩⟩⟩⟩⟩⟩⟩⟩⟩⟩⟩⟩⟩⟩⟩⟩⟩⟩⟩⟩⟩⟩⟩⟩⟩⟩⟩⟩⟩⟩⟩⟩⟩⟩⟩⟩⟩⟩⟩⟩
set_option maxRecDepth 100000 in
theorem dh_cws2 : ∀ mi ∈ dh_mt2, mi.2.2.2.2.2.2.1 ≠ 12 → dh_cw mi ∈ lw_tbl := List.forall_mem_cons.mpr ⟨fun _ => List.mem_of_getElem? dh_wc80, List.forall_mem_cons.mpr ⟨fun _ => List.mem_of_getElem? dh_wc81, List.forall_mem_cons.mpr ⟨fun _ => List.mem_of_getElem? dh_wc82, List.forall_mem_cons.mpr ⟨fun _ => List.mem_of_getElem? dh_wc83, List.forall_mem_cons.mpr ⟨fun _ => List.mem_of_getElem? dh_wc84, List.forall_mem_cons.mpr ⟨fun _ => List.mem_of_getElem? dh_wc85, List.forall_mem_cons.mpr ⟨fun _ => List.mem_of_getElem? dh_wc86, List.forall_mem_cons.mpr ⟨fun _ => List.mem_of_getElem? dh_wc87, List.forall_mem_cons.mpr ⟨fun _ => List.mem_of_getElem? dh_wc88, List.forall_mem_cons.mpr ⟨fun _ => List.mem_of_getElem? dh_wc89, List.forall_mem_cons.mpr ⟨fun _ => List.mem_of_getElem? dh_wc90, List.forall_mem_cons.mpr ⟨fun _ => List.mem_of_getElem? dh_wc91, List.forall_mem_cons.mpr ⟨fun _ => List.mem_of_getElem? dh_wc92, List.forall_mem_cons.mpr ⟨fun _ => List.mem_of_getElem? dh_wc93, List.forall_mem_cons.mpr ⟨fun _ => List.mem_of_getElem? dh_wc94, List.forall_mem_cons.mpr ⟨fun _ => List.mem_of_getElem? dh_wc95, List.forall_mem_cons.mpr ⟨fun _ => List.mem_of_getElem? dh_wc96, List.forall_mem_cons.mpr ⟨fun _ => List.mem_of_getElem? dh_wc97, List.forall_mem_cons.mpr ⟨fun _ => List.mem_of_getElem? dh_wc98, List.forall_mem_cons.mpr ⟨fun _ => List.mem_of_getElem? dh_wc99, List.forall_mem_cons.mpr ⟨fun _ => List.mem_of_getElem? dh_wc100, List.forall_mem_cons.mpr ⟨fun _ => List.mem_of_getElem? dh_wc101, List.forall_mem_cons.mpr ⟨fun _ => List.mem_of_getElem? dh_wc102, List.forall_mem_cons.mpr ⟨fun _ => List.mem_of_getElem? dh_wc103, List.forall_mem_cons.mpr ⟨fun _ => List.mem_of_getElem? dh_wc104, List.forall_mem_cons.mpr ⟨fun _ => List.mem_of_getElem? dh_wc105, List.forall_mem_cons.mpr ⟨fun _ => List.mem_of_getElem? dh_wc106, List.forall_mem_cons.mpr ⟨fun _ => List.mem_of_getElem? dh_wc107, List.forall_mem_cons.mpr ⟨fun _ => List.mem_of_getElem? dh_wc108, List.forall_mem_cons.mpr ⟨fun _ => List.mem_of_getElem? dh_wc109, List.forall_mem_cons.mpr ⟨fun _ => List.mem_of_getElem? dh_wc110, List.forall_mem_cons.mpr ⟨fun _ => List.mem_of_getElem? dh_wc111, List.forall_mem_cons.mpr ⟨fun _ => List.mem_of_getElem? dh_wc112, List.forall_mem_cons.mpr ⟨fun _ => List.mem_of_getElem? dh_wc113, List.forall_mem_cons.mpr ⟨fun _ => List.mem_of_getElem? dh_wc114, List.forall_mem_cons.mpr ⟨fun _ => List.mem_of_getElem? dh_wc115, List.forall_mem_cons.mpr ⟨fun _ => List.mem_of_getElem? dh_wc116, List.forall_mem_cons.mpr ⟨fun _ => List.mem_of_getElem? dh_wc117, List.forall_mem_cons.mpr ⟨fun _ => List.mem_of_getElem? dh_wc118, List.forall_mem_cons.mpr ⟨fun _ => List.mem_of_getElem? dh_wc119, fun _ h => absurd h List.not_mem_nil⟩⟩⟩⟩⟩⟩⟩⟩⟩⟩⟩⟩⟩⟩⟩⟩⟩⟩⟩⟩⟩⟩⟩⟩⟩⟩⟩⟩⟩⟩⟩⟩⟩⟩⟩⟩⟩⟩⟩⟩
set_option maxRecDepth 100000 in
theorem dh_cws3 : ∀ mi ∈ dh_mt3, mi.2.2.2.2.2.2.1 ≠ 12 → dh_cw mi ∈ lw_tbl := List.forall_mem_cons.mpr ⟨fun _ => List.mem_of_getElem? dh_wc120, List.forall_mem_cons.mpr ⟨fun _ => List.mem_of_getElem? dh_wc121, List.forall_mem_cons.mpr ⟨fun _ => List.mem_of_getElem? dh_wc122, List.forall_mem_cons.mpr ⟨fun _ => List.mem_of_getElem? dh_wc123, List.forall_mem_cons.mpr ⟨fun _ => List.mem_of_getElem? dh_wc124, List.forall_mem_cons.mpr ⟨fun _ => List.mem_of_getElem? dh_wc125, List.forall_mem_cons.mpr ⟨fun _ => List.mem_of_getElem? dh_wc126, List.forall_mem_cons.mpr ⟨fun _ => List.mem_of_getElem? dh_wc127, List.forall_mem_cons.mpr ⟨fun _ => List.mem_of_getElem? dh_wc128, List.forall_mem_cons.mpr ⟨fun _ => List.mem_of_getElem? dh_wc129, List.forall_mem_cons.mpr ⟨fun _ => List.mem_of_getElem? dh_wc130, List.forall_mem_cons.mpr ⟨fun _ => List.mem_of_getElem? dh_wc131, List.forall_mem_cons.mpr ⟨fun _ => List.mem_of_getElem? dh_wc132, List.forall_mem_cons.mpr ⟨fun _ => List.mem_of_getElem? dh_wc133, List.forall_mem_cons.mpr ⟨fun _ => List.mem_of_getElem? dh_wc134, List.forall_mem_cons.mpr ⟨fun _ => List.mem_of_getElem? dh_wc135, List.forall_mem_cons.mpr ⟨fun _ => List.mem_of_getElem? dh_wc136, List.forall_mem_cons.mpr ⟨fun _ => List.mem_of_getElem? dh_wc137, List.forall_mem_cons.mpr ⟨fun _ => List.mem_of_getElem? dh_wc138, List.forall_mem_cons.mpr ⟨fun _ => List.mem_of_getElem? dh_wc139, List.forall_mem_cons.mpr ⟨fun _ => List.mem_of_getElem? dh_wc140, List.forall_mem_cons.mpr ⟨fun _ => List.mem_of_getElem? dh_wc141, List.forall_mem_cons.mpr ⟨fun _ => List.mem_of_getElem? dh_wc142, List.forall_mem_cons.mpr ⟨fun _ => List.mem_of_getElem? dh_wc143, List.forall_mem_cons.mpr ⟨fun _ => List.mem_of_getElem? dh_wc144, List.forall_mem_cons.mpr ⟨fun _ => List.mem_of_getElem? dh_wc145, List.forall_mem_cons.mpr ⟨fun _ => List.mem_of_getElem? dh_wc146, List.forall_mem_cons.mpr ⟨fun _ => List.mem_of_getElem? dh_wc147, List.forall_mem_cons.mpr ⟨fun _ => List.mem_of_getElem? dh_wc148, List.forall_mem_cons.mpr ⟨fun _ => List.mem_of_getElem? dh_wc149, List.forall_mem_cons.mpr ⟨fun _ => List.mem_of_getElem? dh_wc150, List.forall_mem_cons.mpr ⟨fun _ => List.mem_of_getElem? dh_wc151, List.forall_mem_cons.mpr ⟨fun _ => List.mem_of_getElem? dh_wc152, List.forall_mem_cons.mpr ⟨fun _ => List.mem_of_getElem? dh_wc153, List.forall_mem_cons.mpr ⟨fun _ => List.mem_of_getElem? dh_wc154, List.forall_mem_cons.mpr ⟨fun _ => List.mem_of_getElem? dh_wc155, List.forall_mem_cons.mpr ⟨fun _ => List.mem_of_getElem? dh_wc156, List.forall_mem_cons.mpr ⟨fun _ => List.mem_of_getElem? dh_wc157, List.forall_mem_cons.mpr ⟨fun _ => List.mem_of_getElem? dh_wc158, List.forall_mem_cons.mpr ⟨fun _ => List.mem_of_getElem? dh_wc159, fun _ h => absurd h List.not_mem_nil⟩⟩⟩⟩⟩⟩⟩⟩⟩⟩⟩⟩⟩⟩⟩⟩⟩⟩⟩⟩⟩⟩⟩⟩⟩⟩⟩⟩⟩⟩⟩⟩⟩⟩⟩⟩⟩⟩⟩⟩
set_option maxRecDepth 100000 in
theorem dh_cws4 : ∀ mi ∈ dh_mt4, mi.2.2.2.2.2.2.1 ≠ 12 → dh_cw mi ∈ lw_tbl := List.forall_mem_cons.mpr ⟨fun _ => List.mem_of_getElem? dh_wc160, List.forall_mem_cons.mpr ⟨fun _ => List.mem_of_getElem? dh_wc161, List.forall_mem_cons.mpr ⟨fun _ => List.mem_of_getElem? dh_wc162, List.forall_mem_cons.mpr ⟨fun _ => List.mem_of_getElem? dh_wc163, List.forall_mem_cons.mpr ⟨fun _ => List.mem_of_getElem? dh_wc164, List.forall_mem_cons.mpr ⟨fun _ => List.mem_of_getElem? dh_wc165, List.forall_mem_cons.mpr ⟨fun _ => List.mem_of_getElem? dh_wc166, List.forall_mem_cons.mpr ⟨fun _ => List.mem_of_getElem? dh_wc167, List.forall_mem_cons.mpr ⟨fun _ => List.mem_of_getElem? dh_wc168, List.forall_mem_cons.mpr ⟨fun _ => List.mem_of_getElem? dh_wc169, List.forall_mem_cons.mpr ⟨fun _ => List.mem_of_getElem? dh_wc170, List.forall_mem_cons.mpr ⟨fun _ => List.mem_of_getElem? dh_wc171, List.forall_mem_cons.mpr ⟨fun _ => List.mem_of_getElem? dh_wc172, List.forall_mem_cons.mpr ⟨fun _ => List.mem_of_getElem? dh_wc173, List.forall_mem_cons.mpr ⟨fun _ => List.mem_of_getElem? dh_wc174, List.forall_mem_cons.mpr ⟨fun _ => List.mem_of_getElem? dh_wc175, List.forall_mem_cons.mpr ⟨fun _ => List.mem_of_getElem? dh_wc176, List.forall_mem_cons.mpr ⟨fun _ => List.mem_of_getElem? dh_wc177, List.forall_mem_cons.mpr ⟨fun _ => List.mem_of_getElem? dh_wc178, List.forall_mem_cons.mpr ⟨fun _ => List.mem_of_getElem? dh_wc179, List.forall_mem_cons.mpr ⟨fun _ => List.mem_of_getElem? dh_wc180, List.forall_mem_cons.mpr ⟨fun _ => List.mem_of_getElem? dh_wc181, List.forall_mem_cons.mpr ⟨fun _ => List.mem_of_getElem? dh_wc182, List.forall_mem_cons.mpr ⟨fun _ => List.mem_of_getElem? dh_wc183, List.forall_mem_cons.mpr ⟨fun _ => List.mem_of_getElem? dh_wc184, List.forall_mem_cons.mpr ⟨fun _ => List.mem_of_getElem? dh_wc185, List.forall_mem_cons.mpr ⟨fun _ => List.mem_of_getElem? dh_wc186, List.forall_mem_cons.mpr ⟨fun _ => List.mem_of_getElem? dh_wc187, List.forall_mem_cons.mpr ⟨fun _ => List.mem_of_getElem? dh_wc188, List.forall_mem_cons.mpr ⟨fun _ => List.mem_of_getElem? dh_wc189, List.forall_mem_cons.mpr ⟨fun _ => List.mem_of_getElem? dh_wc190, List.forall_mem_cons.mpr ⟨fun _ => List.mem_of_getElem? dh_wc191, List.forall_mem_cons.mpr ⟨fun _ => List.mem_of_getElem? dh_wc192, List.forall_mem_cons.mpr ⟨fun _ => List.mem_of_getElem? dh_wc193, List.forall_mem_cons.mpr ⟨fun _ => List.mem_of_getElem? dh_wc194, List.forall_mem_cons.mpr ⟨fun _ => List.mem_of_getElem? dh_wc195, List.forall_mem_cons.mpr ⟨fun _ => List.mem_of_getElem? dh_wc196, List.forall_mem_cons.mpr ⟨fun _ => List.mem_of_getElem? dh_wc197, List.forall_mem_cons.mpr ⟨fun _ => List.mem_of_getElem? dh_wc198, List.forall_mem_cons.mpr ⟨fun _ => List.mem_of_getElem? dh_wc199, fun _ h => absurd h List.not_mem_nil⟩⟩⟩⟩⟩⟩⟩⟩⟩⟩⟩⟩⟩⟩⟩⟩⟩⟩⟩⟩⟩⟩⟩⟩⟩⟩⟩⟩⟩⟩⟩⟩⟩⟩⟩⟩⟩⟩⟩⟩
set_option maxRecDepth 100000 in
theorem dh_cws5 : ∀ mi ∈ dh_mt5, mi.2.2.2.2.2.2.1 ≠ 12 → dh_cw mi ∈ lw_tbl := List.forall_mem_cons.mpr ⟨fun _ => List.mem_of_getElem? dh_wc200, List.forall_mem_cons.mpr ⟨fun _ => List.mem_of_getElem? dh_wc201, List.forall_mem_cons.mpr ⟨fun _ => List.mem_of_getElem? dh_wc202, List.forall_mem_cons.mpr ⟨fun _ => List.mem_of_getElem? dh_wc203, List.forall_mem_cons.mpr ⟨fun _ => List.mem_of_getElem? dh_wc204, List.forall_mem_cons.mpr ⟨fun _ => List.mem_of_getElem? dh_wc205, List.forall_mem_cons.mpr ⟨fun _ => List.mem_of_getElem? dh_wc206, List.forall_mem_cons.mpr ⟨fun _ => List.mem_of_getElem? dh_wc207, List.forall_mem_cons.mpr ⟨fun _ => List.mem_of_getElem? dh_wc208, List.forall_mem_cons.mpr ⟨fun _ => List.mem_of_getElem? dh_wc209, List.forall_mem_cons.mpr ⟨fun _ => List.mem_of_getElem? dh_wc210, List.forall_mem_cons.mpr ⟨fun _ => List.mem_of_getElem? dh_wc211, List.forall_mem_cons.mpr ⟨fun _ => List.mem_of_getElem? dh_wc212, List.forall_mem_cons.mpr ⟨fun _ => List.mem_of_getElem? dh_wc213, List.forall_mem_cons.mpr ⟨fun _ => List.mem_of_getElem? dh_wc214, List.forall_mem_cons.mpr ⟨fun _ => List.mem_of_getElem? dh_wc215, List.forall_mem_cons.mpr ⟨fun _ => List.mem_of_getElem? dh_wc216, List.forall_mem_cons.mpr ⟨fun _ => List.mem_of_getElem? dh_wc217, List.forall_mem_cons.mpr ⟨fun _ => List.mem_of_getElem? dh_wc218, List.forall_mem_cons.mpr ⟨fun _ => List.mem_of_getElem? dh_wc219, List.forall_mem_cons.mpr ⟨fun _ => List.mem_of_getElem? dh_wc220, List.forall_mem_cons.mpr ⟨fun _ => List.mem_of_getElem? dh_wc221, List.forall_mem_cons.mpr ⟨fun _ => List.mem_of_getElem? dh_wc222, List.forall_mem_cons.mpr ⟨fun _ => List.mem_of_getElem? dh_wc223, List.forall_mem_cons.mpr ⟨fun _ => List.mem_of_getElem? dh_wc224, List.forall_mem_cons.mpr ⟨fun _ => List.mem_of_getElem? dh_wc225, List.forall_mem_cons.mpr ⟨fun _ => List.mem_of_getElem? dh_wc226, List.forall_mem_cons.mpr ⟨fun _ => List.mem_of_getElem? dh_wc227, List.forall_mem_cons.mpr ⟨fun _ => List.mem_of_getElem? dh_wc228, List.forall_mem_cons.mpr ⟨fun _ => List.mem_of_getElem? dh_wc229, List.forall_mem_cons.mpr ⟨fun _ => List.mem_of_getElem? dh_wc230, List.forall_mem_cons.mpr ⟨fun _ => List.mem_of_getElem? dh_wc231, List.forall_mem_cons.mpr ⟨fun _ => List.mem_of_getElem? dh_wc232, List.forall_mem_cons.mpr ⟨fun _ => List.mem_of_getElem? dh_wc233, List.forall_mem_cons.mpr ⟨fun _ => List.mem_of_getElem? dh_wc234, List.forall_mem_cons.mpr ⟨fun _ => List.mem_of_getElem? dh_wc235, List.forall_mem_cons.mpr ⟨fun _ => List.mem_of_getElem? dh_wc236, List.forall_mem_cons.mpr ⟨fun _ => List.mem_of_getElem? dh_wc237, List.forall_mem_cons.mpr ⟨fun _ => List.mem_of_getElem? dh_wc238, List.forall_mem_cons.mpr ⟨fun _ => List.mem_of_getElem? dh_wc239, fun _ h => absurd h List.not_mem_nil⟩⟩⟩⟩⟩⟩⟩⟩⟩⟩⟩⟩⟩⟩⟩⟩⟩⟩⟩⟩⟩⟩⟩⟩⟩⟩⟩⟩⟩⟩⟩⟩⟩⟩⟩⟩⟩⟩⟩⟩
set_option maxRecDepth 100000 in
theorem dh_cws6 : ∀ mi ∈ dh_mt6, mi.2.2.2.2.2.2.1 ≠ 12 → dh_cw mi ∈ lw_tbl := List.forall_mem_cons.mpr ⟨fun _ => List.mem_of_getElem? dh_wc240, List.forall_mem_cons.mpr ⟨fun _ => List.mem_of_getElem? dh_wc241, List.forall_mem_cons.mpr ⟨fun _ => List.mem_of_getElem? dh_wc242, List.forall_mem_cons.mpr ⟨fun _ => List.mem_of_getElem? dh_wc243, List.forall_mem_cons.mpr ⟨fun _ => List.mem_of_getElem? dh_wc244, List.forall_mem_cons.mpr ⟨fun _ => List.mem_of_getElem? dh_wc245, List.forall_mem_cons.mpr ⟨fun _ => List.mem_of_getElem? dh_wc246, List.forall_mem_cons.mpr ⟨fun _ => List.mem_of_getElem? dh_wc247, List.forall_mem_cons.mpr ⟨fun _ => List.mem_of_getElem? dh_wc248, List.forall_mem_cons.mpr ⟨fun _ => List.mem_of_getElem? dh_wc249, List.forall_mem_cons.mpr ⟨fun _ => List.mem_of_getElem? dh_wc250, List.forall_mem_cons.mpr ⟨fun _ => List.mem_of_getElem? dh_wc251, List.forall_mem_cons.mpr ⟨fun _ => List.mem_of_getElem? dh_wc252, List.forall_mem_cons.mpr ⟨fun _ => List.mem_of_getElem? dh_wc253, List.forall_mem_cons.mpr ⟨fun _ => List.mem_of_getElem? dh_wc254, List.forall_mem_cons.mpr ⟨fun _ => List.mem_of_getElem? dh_wc255, List.forall_mem_cons.mpr ⟨fun h => absurd rfl h, fun _ h => absurd h List.not_mem_nil⟩⟩⟩⟩⟩⟩⟩⟩⟩⟩⟩⟩⟩⟩⟩⟩⟩
theorem dh_cws : ∀ mi ∈ dh_mt, mi.2.2.2.2.2.2.1 ≠ 12 → dh_cw mi ∈ lw_tbl := List.forall_mem_append.mpr ⟨dh_cws0, List.forall_mem_append.mpr ⟨dh_cws1, List.forall_mem_append.mpr ⟨dh_cws2, List.forall_mem_append.mpr ⟨dh_cws3, List.forall_mem_append.mpr ⟨dh_cws4, List.forall_mem_append.mpr ⟨dh_cws5, dh_cws6⟩⟩⟩⟩⟩⟩
theorem dh_cw_in {mi : dh_MI} (h : mi ∈ dh_mt) (ho : mi.2.2.2.2.2.2.1 ≠ 12) : dh_cw mi ∈ dh_B := List.mem_filter.mpr ⟨dh_cws mi h ho, rfl⟩
