theorem mt0 : vh_mt[0]? = some (⟨"VillageHalls", "<init>", "()V"⟩, prog_1_method_1_code, 1, none, 2, 4, 84, 1) := by rfl
theorem mt1 : vh_mt[1]? = some (⟨"VillageHalls$Sheets", "<init>", "()V"⟩, prog_10_method_1_code, 2, none, 2, 1, 20, 1) := by rfl
theorem mt2 : vh_mt[2]? = some (⟨"VillageHalls", "newHalls", "()[LVillageHalls$Hall;"⟩, prog_1_method_35_code, 2, (some (.array (.object "VillageHalls$Hall"))), 0, 2, 41, 0) := by rfl
theorem mt3 : vh_mt[3]? = some (⟨"VillageHalls$Hall", "<init>", "()V"⟩, prog_6_method_1_code, 2, none, 2, 1, 20, 1) := by rfl
theorem mt4 : vh_mt[4]? = some (⟨"VillageHalls$Tape", "<init>", "()V"⟩, prog_11_method_1_code, 1, none, 2, 1, 20, 1) := by rfl
theorem mt5 : vh_mt[5]? = some (⟨"VillageHalls$RuleReader", "<init>", "(LVillageHalls$Tape;[LVillageHalls$Hall;)V"⟩, prog_9_method_1_code, 3, none, 2, 3, 62, 3) := by rfl
theorem mt6 : vh_mt[6]? = some (⟨"VillageHalls$Diary", "<init>", "([LVillageHalls$Hall;)V"⟩, prog_4_method_1_code, 3, none, 2, 2, 40, 2) := by rfl
theorem mt7 : vh_mt[7]? = some (⟨"VillageHalls$Booking", "<init>", "()V"⟩, prog_3_method_1_code, 1, none, 2, 1, 20, 1) := by rfl
theorem mt8 : vh_mt[8]? = some (⟨"VillageHalls$FuneralPlan", "<init>", "(LVillageHalls$Diary;[LVillageHalls$Hall;)V"⟩, prog_5_method_1_code, 3, none, 2, 2, 40, 3) := by rfl
theorem mt9 : vh_mt[9]? = some (⟨"VillageHalls$Log", "<init>", "()V"⟩, prog_7_method_1_code, 1, none, 2, 1, 20, 1) := by rfl
theorem mt10 : vh_mt[10]? = some (⟨"VillageHalls$Meetings", "<init>", "()V"⟩, prog_8_method_1_code, 1, none, 2, 1, 20, 1) := by rfl
theorem mt11 : vh_mt[11]? = some (⟨"VillageHalls$Asks", "<init>", "()V"⟩, prog_2_method_1_code, 1, none, 2, 1, 20, 1) := by rfl
theorem mt12 : vh_mt[12]? = some (⟨"VillageHalls", "sheet", "(III)I"⟩, prog_1_method_2_code, 4, (some .int), 1, 2, 42, 4) := by rfl
theorem mt13 : vh_mt[13]? = some (⟨"VillageHalls$Sheets", "isNumber", "(I)Z"⟩, prog_10_method_2_code, 1, (some .boolean), 0, 1, 22, 1) := by rfl
theorem mt14 : vh_mt[14]? = some (⟨"VillageHalls", "within", "(III)Z"⟩, prog_1_method_36_code, 3, (some .boolean), 0, 0, 0, 3) := by rfl
theorem mt15 : vh_mt[15]? = some (⟨"VillageHalls", "found", "(I)I"⟩, prog_1_method_33_code, 2, (some .int), 1, 0, 0, 2) := by rfl
theorem mt16 : vh_mt[16]? = some (⟨"VillageHalls$Sheets", "lay", "(III)V"⟩, prog_10_method_6_code, 5, none, 1, 0, 0, 4) := by rfl
theorem mt17 : vh_mt[17]? = some (⟨"VillageHalls", "passed", "(I)I"⟩, prog_1_method_34_code, 2, (some .int), 1, 0, 0, 2) := by rfl
theorem mt18 : vh_mt[18]? = some (⟨"VillageHalls", "set", "(III)I"⟩, prog_1_method_3_code, 4, (some .int), 1, 2, 42, 4) := by rfl
theorem mt19 : vh_mt[19]? = some (⟨"VillageHalls$Sheets", "isMissing", "(I)Z"⟩, prog_10_method_3_code, 2, (some .boolean), 1, 0, 0, 2) := by rfl
theorem mt20 : vh_mt[20]? = some (⟨"VillageHalls$Sheets", "hasPlaces", "(III)Z"⟩, prog_10_method_4_code, 4, (some .boolean), 1, 0, 0, 4) := by rfl
theorem mt21 : vh_mt[21]? = some (⟨"VillageHalls$Sheets", "put", "(III)I"⟩, prog_10_method_7_code, 5, (some .int), 1, 0, 0, 4) := by rfl
theorem mt22 : vh_mt[22]? = some (⟨"VillageHalls", "copy", "(IIIII)I"⟩, prog_1_method_4_code, 6, (some .int), 1, 2, 65, 6) := by rfl
theorem mt23 : vh_mt[23]? = some (⟨"VillageHalls$Sheets", "areOfOneLane", "(II)Z"⟩, prog_10_method_5_code, 3, (some .boolean), 1, 0, 0, 3) := by rfl
theorem mt24 : vh_mt[24]? = some (⟨"VillageHalls$Sheets", "carry", "(IIIII)V"⟩, prog_10_method_9_code, 6, none, 1, 1, 40, 6) := by rfl
theorem mt25 : vh_mt[25]? = some (⟨"VillageHalls", "drop", "(I)I"⟩, prog_1_method_5_code, 2, (some .int), 1, 2, 42, 2) := by rfl
theorem mt26 : vh_mt[26]? = some (⟨"VillageHalls$Sheets", "remove", "(I)I"⟩, prog_10_method_10_code, 2, (some .int), 1, 0, 0, 2) := by rfl
theorem mt27 : vh_mt[27]? = some (⟨"VillageHalls", "feed", "(JI)I"⟩, prog_1_method_6_code, 4, (some .int), 1, 1, 24, 3) := by rfl
theorem mt28 : vh_mt[28]? = some (⟨"VillageHalls$Tape", "hasRoomFor", "(I)Z"⟩, prog_11_method_2_code, 2, (some .boolean), 1, 0, 0, 2) := by rfl
theorem mt29 : vh_mt[29]? = some (⟨"VillageHalls$Tape", "append", "(JI)V"⟩, prog_11_method_3_code, 5, none, 1, 0, 0, 3) := by rfl
theorem mt30 : vh_mt[30]? = some (⟨"VillageHalls", "rules", "()I"⟩, prog_1_method_7_code, 1, (some .int), 1, 10, 214, 1) := by rfl
theorem mt31 : vh_mt[31]? = some (⟨"VillageHalls$RuleReader", "readTape", "()Z"⟩, prog_9_method_2_code, 3, (some .boolean), 1, 9, 192, 1) := by rfl
theorem mt32 : vh_mt[32]? = some (⟨"VillageHalls$Hall", "takeOver", "(LVillageHalls$Hall;)V"⟩, prog_6_method_2_code, 3, none, 1, 0, 0, 2) := by rfl
theorem mt33 : vh_mt[33]? = some (⟨"VillageHalls$Tape", "rewind", "()V"⟩, prog_11_method_5_code, 1, none, 1, 2, 43, 1) := by rfl
theorem mt34 : vh_mt[34]? = some (⟨"VillageHalls$Tape", "advance", "()V"⟩, prog_11_method_6_code, 1, none, 1, 1, 23, 1) := by rfl
theorem mt35 : vh_mt[35]? = some (⟨"VillageHalls$Tape", "endOfRun", "(II)I"⟩, prog_11_method_7_code, 4, (some .int), 1, 0, 0, 3) := by rfl
theorem mt36 : vh_mt[36]? = some (⟨"VillageHalls$RuleReader", "readHall", "()Z"⟩, prog_9_method_3_code, 3, (some .boolean), 1, 8, 170, 1) := by rfl
theorem mt37 : vh_mt[37]? = some (⟨"VillageHalls$Tape", "isWord", "(Ljava/lang/String;)Z"⟩, prog_11_method_8_code, 3, (some .boolean), 1, 4, 85, 2) := by rfl
theorem mt38 : vh_mt[38]? = some (⟨"java/lang/String", "length", "()I"⟩, prog_16_method_54_code, 1, (some .int), 1, 1, 20, 1) := by rfl
theorem mt39 : vh_mt[39]? = some (⟨"java/lang/String", "coder", "()B"⟩, prog_16_method_152_code, 1, (some .byte), 1, 0, 0, 1) := by rfl
theorem mt40 : vh_mt[40]? = some (⟨"java/lang/String", "charAt", "(I)C"⟩, prog_16_method_56_code, 2, (some .char), 1, 3, 64, 2) := by rfl
theorem mt41 : vh_mt[41]? = some (⟨"java/lang/String", "isLatin1", "()Z"⟩, prog_16_method_154_code, 1, (some .boolean), 1, 0, 0, 1) := by rfl
theorem mt42 : vh_mt[42]? = some (⟨"java/lang/StringLatin1", "charAt", "([BI)C"⟩, prog_17_method_2_code, 2, (some .char), 0, 2, 43, 2) := by rfl
theorem mt43 : vh_mt[43]? = some (⟨"java/lang/String", "checkIndex", "(II)V"⟩, prog_16_method_155_code, 2, none, 0, 1, 22, 2) := by rfl
theorem mt44 : vh_mt[44]? = some (⟨"jdk/internal/util/Preconditions", "checkIndex", "(IILjava/util/function/BiFunction;)I"⟩, prog_20_method_11_code, 3, (some .int), 0, 0, 0, 3) := by rfl
theorem mt45 : vh_mt[45]? = some (⟨"VillageHalls$RuleReader", "refuse", "(I)Z"⟩, prog_9_method_14_code, 2, (some .boolean), 1, 0, 0, 2) := by rfl
theorem mt46 : vh_mt[46]? = some (⟨"VillageHalls$RuleReader", "readNumber", "(I)Z"⟩, prog_9_method_11_code, 2, (some .boolean), 1, 2, 43, 2) := by rfl
theorem mt47 : vh_mt[47]? = some (⟨"VillageHalls$Tape", "value", "()I"⟩, prog_11_method_9_code, 3, (some .int), 1, 0, 0, 1) := by rfl
theorem mt48 : vh_mt[48]? = some (⟨"VillageHalls$RuleReader", "readRule", "()Z"⟩, prog_9_method_4_code, 2, (some .boolean), 1, 7, 149, 1) := by rfl
theorem mt49 : vh_mt[49]? = some (⟨"VillageHalls$RuleReader", "ruleHere", "()I"⟩, prog_9_method_12_code, 1, (some .int), 1, 5, 107, 1) := by rfl
theorem mt50 : vh_mt[50]? = some (⟨"VillageHalls$RuleReader", "readSetup", "()Z"⟩, prog_9_method_5_code, 1, (some .boolean), 1, 3, 64, 1) := by rfl
theorem mt51 : vh_mt[51]? = some (⟨"VillageHalls$RuleReader", "readLicences", "()Z"⟩, prog_9_method_6_code, 1, (some .boolean), 1, 3, 64, 1) := by rfl
theorem mt52 : vh_mt[52]? = some (⟨"VillageHalls$RuleReader", "readRate", "()Z"⟩, prog_9_method_7_code, 2, (some .boolean), 1, 6, 127, 1) := by rfl
theorem mt53 : vh_mt[53]? = some (⟨"VillageHalls$RuleReader", "useHere", "()I"⟩, prog_9_method_13_code, 1, (some .int), 1, 5, 107, 1) := by rfl
theorem mt54 : vh_mt[54]? = some (⟨"VillageHalls$RuleReader", "readFirst", "()Z"⟩, prog_9_method_8_code, 3, (some .boolean), 1, 6, 127, 1) := by rfl
theorem mt55 : vh_mt[55]? = some (⟨"VillageHalls$Hall", "raise", "(II)V"⟩, prog_6_method_3_code, 5, none, 1, 0, 0, 3) := by rfl
theorem mt56 : vh_mt[56]? = some (⟨"VillageHalls$RuleReader", "readLate", "()Z"⟩, prog_9_method_9_code, 1, (some .boolean), 1, 3, 64, 1) := by rfl
theorem mt57 : vh_mt[57]? = some (⟨"VillageHalls$RuleReader", "readFire", "()Z"⟩, prog_9_method_10_code, 2, (some .boolean), 1, 3, 64, 1) := by rfl
theorem mt58 : vh_mt[58]? = some (⟨"VillageHalls$Tape", "empty", "()V"⟩, prog_11_method_4_code, 1, none, 1, 0, 0, 1) := by rfl
theorem mt59 : vh_mt[59]? = some (⟨"VillageHalls", "fault", "()I"⟩, prog_1_method_8_code, 1, (some .int), 1, 0, 0, 1) := by rfl
theorem mt60 : vh_mt[60]? = some (⟨"VillageHalls", "hall", "(II)I"⟩, prog_1_method_9_code, 3, (some .int), 1, 2, 43, 3) := by rfl
theorem mt61 : vh_mt[61]? = some (⟨"VillageHalls", "isHall", "(I)Z"⟩, prog_1_method_37_code, 1, (some .boolean), 0, 1, 22, 1) := by rfl
theorem mt62 : vh_mt[62]? = some (⟨"VillageHalls$Hall", "tell", "(I)I"⟩, prog_6_method_4_code, 2, (some .int), 1, 1, 22, 2) := by rfl
theorem mt63 : vh_mt[63]? = some (⟨"VillageHalls", "book", "(II)I"⟩, prog_1_method_10_code, 4, (some .int), 1, 4, 88, 3) := by rfl
theorem mt64 : vh_mt[64]? = some (⟨"VillageHalls$Diary", "isFull", "()Z"⟩, prog_4_method_2_code, 1, (some .boolean), 1, 0, 0, 1) := by rfl
theorem mt65 : vh_mt[65]? = some (⟨"VillageHalls$Diary", "add", "(LVillageHalls$Sheets;II)I"⟩, prog_4_method_5_code, 4, (some .int), 1, 3, 65, 4) := by rfl
theorem mt66 : vh_mt[66]? = some (⟨"VillageHalls$Booking", "fill", "(LVillageHalls$Sheets;II)V"⟩, prog_3_method_2_code, 4, none, 1, 1, 22, 4) := by rfl
theorem mt67 : vh_mt[67]? = some (⟨"VillageHalls$Sheets", "item", "(II)I"⟩, prog_10_method_8_code, 3, (some .int), 1, 0, 0, 3) := by rfl
theorem mt68 : vh_mt[68]? = some (⟨"VillageHalls$Booking", "isAsTold", "()Z"⟩, prog_3_method_3_code, 4, (some .boolean), 1, 2, 42, 1) := by rfl
theorem mt69 : vh_mt[69]? = some (⟨"VillageHalls", "isDay", "(I)Z"⟩, prog_1_method_39_code, 1, (some .boolean), 0, 1, 22, 1) := by rfl
theorem mt70 : vh_mt[70]? = some (⟨"VillageHalls", "isSpan", "(II)Z"⟩, prog_1_method_40_code, 2, (some .boolean), 0, 0, 0, 2) := by rfl
theorem mt71 : vh_mt[71]? = some (⟨"VillageHalls", "cancel", "(II)I"⟩, prog_1_method_11_code, 4, (some .int), 1, 1, 22, 3) := by rfl
theorem mt72 : vh_mt[72]? = some (⟨"VillageHalls$Diary", "has", "(I)Z"⟩, prog_4_method_3_code, 2, (some .boolean), 1, 0, 0, 2) := by rfl
theorem mt73 : vh_mt[73]? = some (⟨"VillageHalls$Diary", "get", "(I)LVillageHalls$Booking;"⟩, prog_4_method_4_code, 2, (some (.object "VillageHalls$Booking")), 1, 0, 0, 2) := by rfl
theorem mt74 : vh_mt[74]? = some (⟨"VillageHalls", "told", "(II)I"⟩, prog_1_method_12_code, 4, (some .int), 1, 1, 23, 3) := by rfl
theorem mt75 : vh_mt[75]? = some (⟨"VillageHalls$Diary", "priceOf", "(LVillageHalls$Booking;)I"⟩, prog_4_method_6_code, 4, (some .int), 1, 0, 0, 2) := by rfl
theorem mt76 : vh_mt[76]? = some (⟨"VillageHalls$Booking", "tell", "(I)I"⟩, prog_3_method_8_code, 2, (some .int), 1, 0, 0, 2) := by rfl
theorem mt77 : vh_mt[77]? = some (⟨"VillageHalls", "clash", "(II)I"⟩, prog_1_method_13_code, 3, (some .int), 1, 2, 45, 3) := by rfl
theorem mt78 : vh_mt[78]? = some (⟨"VillageHalls$Diary", "areClashing", "(LVillageHalls$Booking;LVillageHalls$Booking;)Z"⟩, prog_4_method_8_code, 3, (some .boolean), 1, 1, 23, 3) := by rfl
theorem mt79 : vh_mt[79]? = some (⟨"VillageHalls$Booking", "isOn", "(III)Z"⟩, prog_3_method_6_code, 4, (some .boolean), 1, 0, 0, 4) := by rfl
theorem mt80 : vh_mt[80]? = some (⟨"VillageHalls$Booking", "isTooNear", "(LVillageHalls$Booking;I)Z"⟩, prog_3_method_7_code, 4, (some .boolean), 1, 0, 0, 3) := by rfl
theorem mt81 : vh_mt[81]? = some (⟨"VillageHalls", "holding", "(II)I"⟩, prog_1_method_14_code, 3, (some .int), 1, 5, 116, 3) := by rfl
theorem mt82 : vh_mt[82]? = some (⟨"VillageHalls$Diary", "heldOn", "(I)I"⟩, prog_4_method_12_code, 6, (some .int), 1, 4, 91, 2) := by rfl
theorem mt83 : vh_mt[83]? = some (⟨"VillageHalls$Diary", "thereOn", "(I)I"⟩, prog_4_method_11_code, 4, (some .int), 1, 2, 42, 2) := by rfl
theorem mt84 : vh_mt[84]? = some (⟨"VillageHalls$Booking", "isThereOn", "(I)Z"⟩, prog_3_method_5_code, 2, (some .boolean), 1, 1, 21, 2) := by rfl
theorem mt85 : vh_mt[85]? = some (⟨"VillageHalls$Booking", "isCancelledBy", "(I)Z"⟩, prog_3_method_4_code, 2, (some .boolean), 1, 0, 0, 2) := by rfl
theorem mt86 : vh_mt[86]? = some (⟨"VillageHalls$Diary", "lineUp", "(I)I"⟩, prog_4_method_15_code, 5, (some .int), 1, 0, 0, 2) := by rfl
theorem mt87 : vh_mt[87]? = some (⟨"VillageHalls$Diary", "canHold", "(LVillageHalls$Booking;I)Z"⟩, prog_4_method_13_code, 3, (some .boolean), 1, 3, 69, 3) := by rfl
theorem mt88 : vh_mt[88]? = some (⟨"VillageHalls$Diary", "isFireEnough", "(LVillageHalls$Booking;)Z"⟩, prog_4_method_10_code, 2, (some .boolean), 1, 0, 0, 2) := by rfl
theorem mt89 : vh_mt[89]? = some (⟨"VillageHalls$Diary", "clashingWith", "(LVillageHalls$Booking;I)I"⟩, prog_4_method_9_code, 5, (some .int), 1, 2, 45, 3) := by rfl
theorem mt90 : vh_mt[90]? = some (⟨"VillageHalls$Diary", "licencesIn", "(II)I"⟩, prog_4_method_14_code, 5, (some .int), 1, 0, 0, 3) := by rfl
theorem mt91 : vh_mt[91]? = some (⟨"VillageHalls$Diary", "pricesOf", "(I)I"⟩, prog_4_method_7_code, 4, (some .int), 1, 1, 23, 2) := by rfl
theorem mt92 : vh_mt[92]? = some (⟨"VillageHalls", "most", "(IIII)I"⟩, prog_1_method_15_code, 6, (some .int), 1, 4, 101, 5) := by rfl
theorem mt93 : vh_mt[93]? = some (⟨"VillageHalls$Diary", "worthiest", "(IIII)I"⟩, prog_4_method_17_code, 13, (some .int), 1, 3, 69, 5) := by rfl
theorem mt94 : vh_mt[94]? = some (⟨"VillageHalls$Diary", "lineUpByBeginnings", "(IIII)I"⟩, prog_4_method_18_code, 8, (some .int), 1, 2, 42, 5) := by rfl
theorem mt95 : vh_mt[95]? = some (⟨"VillageHalls", "funeral", "(IIIIII)I"⟩, prog_1_method_16_code, 7, (some .int), 1, 6, 143, 7) := by rfl
theorem mt96 : vh_mt[96]? = some (⟨"VillageHalls$FuneralPlan", "make", "(IIIIII)V"⟩, prog_5_method_2_code, 8, none, 1, 5, 116, 7) := by rfl
theorem mt97 : vh_mt[97]? = some (⟨"VillageHalls$FuneralPlan", "chooseFloor", "()V"⟩, prog_5_method_3_code, 5, none, 1, 3, 69, 1) := by rfl
theorem mt98 : vh_mt[98]? = some (⟨"java/lang/Integer", "bitCount", "(I)I"⟩, prog_14_method_49_code, 1, (some .int), 0, 0, 0, 1) := by rfl
theorem mt99 : vh_mt[99]? = some (⟨"VillageHalls$FuneralPlan", "placeFor", "(I)I"⟩, prog_5_method_4_code, 4, (some .int), 1, 4, 91, 2) := by rfl
theorem mt100 : vh_mt[100]? = some (⟨"VillageHalls$FuneralPlan", "isFreeForGuest", "()Z"⟩, prog_5_method_5_code, 3, (some .boolean), 1, 3, 69, 1) := by rfl
theorem mt101 : vh_mt[101]? = some (⟨"VillageHalls$FuneralPlan", "tell", "(I)I"⟩, prog_5_method_6_code, 2, (some .int), 1, 1, 22, 2) := by rfl
theorem mt102 : vh_mt[102]? = some (⟨"VillageHalls$FuneralPlan", "withoutPlace", "()I"⟩, prog_5_method_7_code, 3, (some .int), 1, 0, 0, 1) := by rfl
theorem mt103 : vh_mt[103]? = some (⟨"VillageHalls", "coin", "(IIII)I"⟩, prog_1_method_17_code, 5, (some .int), 1, 3, 65, 5) := by rfl
theorem mt104 : vh_mt[104]? = some (⟨"VillageHalls", "isMoment", "(IIII)Z"⟩, prog_1_method_41_code, 4, (some .boolean), 0, 2, 42, 4) := by rfl
theorem mt105 : vh_mt[105]? = some (⟨"VillageHalls", "moment", "(II)I"⟩, prog_1_method_42_code, 2, (some .int), 0, 0, 0, 2) := by rfl
theorem mt106 : vh_mt[106]? = some (⟨"VillageHalls$Log", "add", "(IIII)I"⟩, prog_7_method_2_code, 6, (some .int), 1, 0, 0, 5) := by rfl
theorem mt107 : vh_mt[107]? = some (⟨"VillageHalls", "run", "(III)I"⟩, prog_1_method_18_code, 4, (some .int), 1, 3, 67, 4) := by rfl
theorem mt108 : vh_mt[108]? = some (⟨"VillageHalls", "minutesRun", "(II)I"⟩, prog_1_method_43_code, 8, (some .int), 1, 1, 40, 3) := by rfl
theorem mt109 : vh_mt[109]? = some (⟨"VillageHalls", "meter", "(IIII)I"⟩, prog_1_method_19_code, 6, (some .int), 1, 3, 67, 5) := by rfl
theorem mt110 : vh_mt[110]? = some (⟨"VillageHalls", "give", "(IIII)I"⟩, prog_1_method_20_code, 5, (some .int), 1, 2, 42, 5) := by rfl
theorem mt111 : vh_mt[111]? = some (⟨"VillageHalls", "isKey", "(I)Z"⟩, prog_1_method_38_code, 1, (some .boolean), 0, 1, 22, 1) := by rfl
theorem mt112 : vh_mt[112]? = some (⟨"VillageHalls", "key", "(III)I"⟩, prog_1_method_21_code, 7, (some .int), 1, 2, 42, 4) := by rfl
theorem mt113 : vh_mt[113]? = some (⟨"VillageHalls", "look", "(IIII)I"⟩, prog_1_method_22_code, 5, (some .int), 1, 3, 65, 5) := by rfl
theorem mt114 : vh_mt[114]? = some (⟨"VillageHalls", "home", "(II)I"⟩, prog_1_method_23_code, 5, (some .int), 1, 6, 144, 3) := by rfl
theorem mt115 : vh_mt[115]? = some (⟨"VillageHalls", "onlyOneBetween", "(III)I"⟩, prog_1_method_44_code, 9, (some .int), 1, 5, 116, 4) := by rfl
theorem mt116 : vh_mt[116]? = some (⟨"VillageHalls", "isPartlyBetween", "(LVillageHalls$Booking;II)Z"⟩, prog_1_method_45_code, 3, (some .boolean), 0, 1, 40, 3) := by rfl
theorem mt117 : vh_mt[117]? = some (⟨"VillageHalls", "meeting", "(IIIII)I"⟩, prog_1_method_24_code, 6, (some .int), 1, 2, 46, 6) := by rfl
theorem mt118 : vh_mt[118]? = some (⟨"VillageHalls$Meetings", "has", "(I)Z"⟩, prog_8_method_2_code, 2, (some .boolean), 1, 0, 0, 2) := by rfl
theorem mt119 : vh_mt[119]? = some (⟨"VillageHalls$Meetings", "isFull", "()Z"⟩, prog_8_method_3_code, 1, (some .boolean), 1, 0, 0, 1) := by rfl
theorem mt120 : vh_mt[120]? = some (⟨"VillageHalls$Meetings", "add", "(IIII)I"⟩, prog_8_method_4_code, 6, (some .int), 1, 1, 21, 5) := by rfl
theorem mt121 : vh_mt[121]? = some (⟨"VillageHalls", "met", "(II)I"⟩, prog_1_method_25_code, 3, (some .int), 1, 2, 44, 3) := by rfl
theorem mt122 : vh_mt[122]? = some (⟨"VillageHalls$Meetings", "hangingOn", "(I)I"⟩, prog_8_method_5_code, 4, (some .int), 1, 1, 21, 2) := by rfl
theorem mt123 : vh_mt[123]? = some (⟨"VillageHalls", "day", "(I)I"⟩, prog_1_method_26_code, 3, (some .int), 1, 2, 42, 2) := by rfl
theorem mt124 : vh_mt[124]? = some (⟨"VillageHalls", "kind", "(I)I"⟩, prog_1_method_27_code, 2, (some .int), 1, 5, 116, 2) := by rfl
theorem mt125 : vh_mt[125]? = some (⟨"VillageHalls$Diary", "kindOf", "(III)I"⟩, prog_4_method_16_code, 5, (some .int), 1, 2, 42, 4) := by rfl
theorem mt126 : vh_mt[126]? = some (⟨"VillageHalls", "as", "(II)I"⟩, prog_1_method_28_code, 4, (some .int), 1, 5, 116, 3) := by rfl
theorem mt127 : vh_mt[127]? = some (⟨"VillageHalls", "ask", "(II)I"⟩, prog_1_method_29_code, 5, (some .int), 1, 6, 122, 3) := by rfl
theorem mt128 : vh_mt[128]? = some (⟨"VillageHalls$Asks", "about", "(LVillageHalls$Booking;I)V"⟩, prog_2_method_2_code, 3, none, 1, 0, 0, 3) := by rfl
theorem mt129 : vh_mt[129]? = some (⟨"VillageHalls$Asks", "sizeAs", "(I)I"⟩, prog_2_method_5_code, 2, (some .int), 1, 4, 81, 2) := by rfl
theorem mt130 : vh_mt[130]? = some (⟨"VillageHalls$Asks", "body11", "()I"⟩, prog_2_method_8_code, 1, (some .int), 1, 2, 41, 1) := by rfl
theorem mt131 : vh_mt[131]? = some (⟨"VillageHalls$Asks", "begin", "(I)V"⟩, prog_2_method_4_code, 2, none, 1, 0, 0, 2) := by rfl
theorem mt132 : vh_mt[132]? = some (⟨"VillageHalls$Asks", "body10", "()I"⟩, prog_2_method_7_code, 1, (some .int), 1, 1, 21, 1) := by rfl
theorem mt133 : vh_mt[133]? = some (⟨"VillageHalls$Asks", "body12", "()I"⟩, prog_2_method_9_code, 1, (some .int), 1, 3, 61, 1) := by rfl
theorem mt134 : vh_mt[134]? = some (⟨"VillageHalls$Asks", "body13", "()I"⟩, prog_2_method_10_code, 1, (some .int), 1, 2, 41, 1) := by rfl
theorem mt135 : vh_mt[135]? = some (⟨"VillageHalls$Asks", "body20", "()I"⟩, prog_2_method_11_code, 1, (some .int), 1, 1, 21, 1) := by rfl
theorem mt136 : vh_mt[136]? = some (⟨"VillageHalls$Asks", "markAs", "(I)I"⟩, prog_2_method_6_code, 2, (some .int), 1, 5, 101, 2) := by rfl
theorem mt137 : vh_mt[137]? = some (⟨"VillageHalls$Asks", "body21", "()I"⟩, prog_2_method_12_code, 1, (some .int), 1, 2, 41, 1) := by rfl
theorem mt138 : vh_mt[138]? = some (⟨"VillageHalls$Asks", "body22", "()I"⟩, prog_2_method_13_code, 1, (some .int), 1, 4, 81, 1) := by rfl
theorem mt139 : vh_mt[139]? = some (⟨"VillageHalls$Asks", "body23", "()I"⟩, prog_2_method_14_code, 1, (some .int), 1, 2, 41, 1) := by rfl
theorem mt140 : vh_mt[140]? = some (⟨"VillageHalls", "trace", "(I)I"⟩, prog_1_method_30_code, 2, (some .int), 1, 1, 21, 2) := by rfl
theorem mt141 : vh_mt[141]? = some (⟨"VillageHalls$Asks", "traced", "(I)I"⟩, prog_2_method_3_code, 2, (some .int), 1, 0, 0, 2) := by rfl
theorem mt142 : vh_mt[142]? = some (⟨"VillageHalls", "count", "(I)I"⟩, prog_1_method_31_code, 2, (some .int), 1, 6, 140, 2) := by rfl
theorem mt143 : vh_mt[143]? = some (⟨"VillageHalls$Sheets", "howMany", "()I"⟩, prog_10_method_11_code, 3, (some .int), 1, 1, 21, 1) := by rfl
theorem mt144 : vh_mt[144]? = some (⟨"VillageHalls", "howManyOf", "(I)I"⟩, prog_1_method_46_code, 5, (some .int), 1, 5, 116, 2) := by rfl
theorem mt145 : vh_mt[145]? = some (⟨"VillageHalls", "status", "()I"⟩, prog_1_method_32_code, 1, (some .int), 1, 0, 0, 1) := by rfl
theorem mt146 : vh_mt[146]? = some (⟨"VillageHallsModel", "<init>", "()V"⟩, prog_13_method_1_code, 1, none, 2, 1, 20, 1) := by rfl
theorem mt147 : vh_mt[147]? = some (⟨"VillageHallsModel", "sheet", "(III)I"⟩, prog_13_method_6_code, 5, (some .int), 1, 2, 45, 4) := by rfl
theorem mt148 : vh_mt[148]? = some (⟨"VillageHallsModel", "isSheet", "(I)Z"⟩, prog_13_method_5_code, 1, (some .boolean), 0, 1, 25, 1) := by rfl
theorem mt149 : vh_mt[149]? = some (⟨"VillageHallsModel", "in", "(JJJ)Z"⟩, prog_13_method_3_code, 6, (some .boolean), 0, 0, 0, 3) := by rfl
theorem mt150 : vh_mt[150]? = some (⟨"VillageHallsModel", "finding", "(I)I"⟩, prog_13_method_4_code, 2, (some .int), 1, 0, 0, 2) := by rfl
theorem mt151 : vh_mt[151]? = some (⟨"VillageHallsModel", "set", "(III)I"⟩, prog_13_method_7_code, 4, (some .int), 1, 2, 45, 4) := by rfl
theorem mt152 : vh_mt[152]? = some (⟨"VillageHallsModel", "copy", "(IIIII)I"⟩, prog_13_method_8_code, 9, (some .int), 1, 2, 45, 6) := by rfl
theorem mt153 : vh_mt[153]? = some (⟨"VillageHallsModel", "drop", "(I)I"⟩, prog_13_method_9_code, 2, (some .int), 1, 2, 45, 2) := by rfl
theorem mt154 : vh_mt[154]? = some (⟨"VillageHallsModel", "feed", "(JI)I"⟩, prog_13_method_10_code, 5, (some .int), 1, 1, 25, 3) := by rfl
theorem mt155 : vh_mt[155]? = some (⟨"VillageHallsModel", "rules", "()I"⟩, prog_13_method_25_code, 1, (some .int), 1, 6, 135, 1) := by rfl
theorem mt156 : vh_mt[156]? = some (⟨"VillageHallsModel", "readAll", "()V"⟩, prog_13_method_24_code, 3, none, 1, 5, 113, 1) := by rfl
theorem mt157 : vh_mt[157]? = some (⟨"VillageHallsModel", "step", "()V"⟩, prog_13_method_14_code, 2, none, 1, 1, 21, 1) := by rfl
theorem mt158 : vh_mt[158]? = some (⟨"VillageHallsModel", "byteAt", "(I)I"⟩, prog_13_method_11_code, 2, (some .int), 1, 0, 0, 2) := by rfl
theorem mt159 : vh_mt[159]? = some (⟨"VillageHallsModel", "isLetter", "(I)Z"⟩, prog_13_method_12_code, 1, (some .boolean), 0, 0, 0, 1) := by rfl
theorem mt160 : vh_mt[160]? = some (⟨"VillageHallsModel", "isFigure", "(I)Z"⟩, prog_13_method_13_code, 1, (some .boolean), 0, 0, 0, 1) := by rfl
theorem mt161 : vh_mt[161]? = some (⟨"VillageHallsModel", "word", "()J"⟩, prog_13_method_17_code, 4, (some .long), 1, 0, 0, 1) := by rfl
theorem mt162 : vh_mt[162]? = some (⟨"VillageHallsModel", "need", "(Z)V"⟩, prog_13_method_16_code, 2, none, 1, 2, 42, 2) := by rfl
theorem mt163 : vh_mt[163]? = some (⟨"VillageHallsModel", "bad", "(I)V"⟩, prog_13_method_15_code, 2, none, 1, 0, 0, 2) := by rfl
theorem mt164 : vh_mt[164]? = some (⟨"VillageHallsModel", "numberTo", "(I)I"⟩, prog_13_method_18_code, 4, (some .int), 1, 3, 63, 2) := by rfl
theorem mt165 : vh_mt[165]? = some (⟨"VillageHallsModel", "readRule", "(I)V"⟩, prog_13_method_23_code, 6, none, 1, 4, 88, 2) := by rfl
theorem mt166 : vh_mt[166]? = some (⟨"VillageHallsModel", "isRule", "()Z"⟩, prog_13_method_20_code, 3, (some .boolean), 1, 1, 23, 1) := by rfl
theorem mt167 : vh_mt[167]? = some (⟨"VillageHallsModel", "useOfWord", "()I"⟩, prog_13_method_19_code, 3, (some .int), 1, 1, 23, 1) := by rfl
theorem mt168 : vh_mt[168]? = some (⟨"VillageHallsModel", "readFirst", "(I)V"⟩, prog_13_method_22_code, 6, none, 1, 3, 63, 2) := by rfl
theorem mt169 : vh_mt[169]? = some (⟨"VillageHallsModel", "rankUp", "(III)V"⟩, prog_13_method_21_code, 7, none, 1, 0, 0, 4) := by rfl
theorem mt170 : vh_mt[170]? = some (⟨"VillageHallsModel", "fault", "()I"⟩, prog_13_method_26_code, 1, (some .int), 1, 0, 0, 1) := by rfl
theorem mt171 : vh_mt[171]? = some (⟨"VillageHallsModel", "hall", "(II)I"⟩, prog_13_method_28_code, 3, (some .int), 1, 2, 45, 3) := by rfl
theorem mt172 : vh_mt[172]? = some (⟨"VillageHallsModel", "isHall", "(I)Z"⟩, prog_13_method_27_code, 1, (some .boolean), 0, 1, 25, 1) := by rfl
theorem mt173 : vh_mt[173]? = some (⟨"VillageHallsModel", "book", "(II)I"⟩, prog_13_method_32_code, 6, (some .int), 1, 2, 45, 3) := by rfl
theorem mt174 : vh_mt[174]? = some (⟨"VillageHallsModel", "isDay", "(I)Z"⟩, prog_13_method_29_code, 1, (some .boolean), 0, 1, 25, 1) := by rfl
theorem mt175 : vh_mt[175]? = some (⟨"VillageHallsModel", "cancel", "(II)I"⟩, prog_13_method_33_code, 3, (some .int), 1, 2, 46, 3) := by rfl
theorem mt176 : vh_mt[176]? = some (⟨"VillageHallsModel", "isBooking", "(I)Z"⟩, prog_13_method_30_code, 2, (some .boolean), 1, 1, 25, 2) := by rfl
theorem mt177 : vh_mt[177]? = some (⟨"VillageHallsModel", "of", "(II)I"⟩, prog_13_method_31_code, 3, (some .int), 1, 0, 0, 3) := by rfl
theorem mt178 : vh_mt[178]? = some (⟨"VillageHallsModel", "told", "(II)I"⟩, prog_13_method_35_code, 3, (some .int), 1, 2, 46, 3) := by rfl
theorem mt179 : vh_mt[179]? = some (⟨"VillageHallsModel", "priceOf", "(I)I"⟩, prog_13_method_34_code, 4, (some .int), 1, 1, 22, 2) := by rfl
theorem mt180 : vh_mt[180]? = some (⟨"VillageHallsModel", "clash", "(II)I"⟩, prog_13_method_38_code, 3, (some .int), 1, 2, 50, 3) := by rfl
theorem mt181 : vh_mt[181]? = some (⟨"VillageHallsModel", "isClash", "(II)Z"⟩, prog_13_method_37_code, 3, (some .boolean), 1, 1, 28, 3) := by rfl
theorem mt182 : vh_mt[182]? = some (⟨"VillageHallsModel", "meets", "(IIIIIII)Z"⟩, prog_13_method_36_code, 9, (some .boolean), 1, 0, 0, 8) := by rfl
theorem mt183 : vh_mt[183]? = some (⟨"VillageHallsModel", "holding", "(II)I"⟩, prog_13_method_44_code, 6, (some .int), 1, 4, 94, 3) := by rfl
theorem mt184 : vh_mt[184]? = some (⟨"VillageHallsModel", "holdOn", "(I)I"⟩, prog_13_method_43_code, 9, (some .int), 1, 3, 66, 2) := by rfl
theorem mt185 : vh_mt[185]? = some (⟨"VillageHallsModel", "isThere", "(II)Z"⟩, prog_13_method_39_code, 3, (some .boolean), 1, 1, 22, 3) := by rfl
theorem mt186 : vh_mt[186]? = some (⟨"VillageHallsModel", "isAhead", "(II)Z"⟩, prog_13_method_42_code, 4, (some .boolean), 1, 2, 43, 3) := by rfl
theorem mt187 : vh_mt[187]? = some (⟨"VillageHallsModel", "rankOf", "(I)I"⟩, prog_13_method_41_code, 2, (some .int), 1, 1, 22, 2) := by rfl
theorem mt188 : vh_mt[188]? = some (⟨"VillageHallsModel", "hasFire", "(III)Z"⟩, prog_13_method_40_code, 4, (some .boolean), 1, 1, 22, 4) := by rfl
theorem mt189 : vh_mt[189]? = some (⟨"VillageHallsModel", "most", "(IIII)I"⟩, prog_13_method_45_code, 9, (some .int), 1, 2, 50, 5) := by rfl
theorem mt190 : vh_mt[190]? = some (⟨"VillageHallsModel", "funeral", "(IIIIII)I"⟩, prog_13_method_49_code, 13, (some .int), 1, 4, 94, 7) := by rfl
theorem mt191 : vh_mt[191]? = some (⟨"VillageHallsModel", "clashing", "(IIIIII)I"⟩, prog_13_method_46_code, 10, (some .int), 1, 1, 28, 7) := by rfl
theorem mt192 : vh_mt[192]? = some (⟨"VillageHallsModel", "bits", "(I)I"⟩, prog_13_method_47_code, 3, (some .int), 0, 0, 0, 1) := by rfl
theorem mt193 : vh_mt[193]? = some (⟨"VillageHallsModel", "isFree", "(IIIIIIII)Z"⟩, prog_13_method_48_code, 12, (some .boolean), 1, 2, 45, 9) := by rfl
theorem mt194 : vh_mt[194]? = some (⟨"VillageHallsModel", "coin", "(IIII)I"⟩, prog_13_method_50_code, 5, (some .int), 1, 2, 45, 5) := by rfl
theorem mt195 : vh_mt[195]? = some (⟨"VillageHallsModel", "run", "(III)I"⟩, prog_13_method_53_code, 4, (some .int), 1, 3, 67, 4) := by rfl
theorem mt196 : vh_mt[196]? = some (⟨"VillageHallsModel", "isTime", "(III)Z"⟩, prog_13_method_52_code, 3, (some .boolean), 0, 2, 45, 3) := by rfl
theorem mt197 : vh_mt[197]? = some (⟨"VillageHallsModel", "runTill", "(II)I"⟩, prog_13_method_51_code, 11, (some .int), 1, 0, 0, 3) := by rfl
theorem mt198 : vh_mt[198]? = some (⟨"VillageHallsModel", "meter", "(IIII)I"⟩, prog_13_method_54_code, 5, (some .int), 1, 3, 67, 5) := by rfl
theorem mt199 : vh_mt[199]? = some (⟨"VillageHallsModel", "give", "(IIII)I"⟩, prog_13_method_55_code, 5, (some .int), 1, 2, 45, 5) := by rfl
theorem mt200 : vh_mt[200]? = some (⟨"VillageHallsModel", "key", "(III)I"⟩, prog_13_method_56_code, 9, (some .int), 1, 2, 45, 4) := by rfl
theorem mt201 : vh_mt[201]? = some (⟨"VillageHallsModel", "look", "(IIII)I"⟩, prog_13_method_57_code, 5, (some .int), 1, 2, 45, 5) := by rfl
theorem mt202 : vh_mt[202]? = some (⟨"VillageHallsModel", "home", "(II)I"⟩, prog_13_method_58_code, 10, (some .int), 1, 4, 94, 3) := by rfl
theorem mt203 : vh_mt[203]? = some (⟨"VillageHallsModel", "meeting", "(IIIII)I"⟩, prog_13_method_59_code, 6, (some .int), 1, 1, 25, 6) := by rfl
theorem mt204 : vh_mt[204]? = some (⟨"VillageHallsModel", "met", "(II)I"⟩, prog_13_method_61_code, 6, (some .int), 1, 1, 25, 3) := by rfl
theorem mt205 : vh_mt[205]? = some (⟨"VillageHallsModel", "isValid", "(I)Z"⟩, prog_13_method_60_code, 4, (some .boolean), 1, 0, 0, 2) := by rfl
theorem mt206 : vh_mt[206]? = some (⟨"VillageHallsModel", "day", "(I)I"⟩, prog_13_method_62_code, 3, (some .int), 1, 2, 45, 2) := by rfl
theorem mt207 : vh_mt[207]? = some (⟨"VillageHallsModel", "kind", "(I)I"⟩, prog_13_method_65_code, 2, (some .int), 1, 5, 115, 2) := by rfl
theorem mt208 : vh_mt[208]? = some (⟨"VillageHallsModel", "kindOf", "(I)I"⟩, prog_13_method_63_code, 2, (some .int), 1, 4, 94, 2) := by rfl
theorem mt209 : vh_mt[209]? = some (⟨"VillageHallsModel", "as", "(II)I"⟩, prog_13_method_66_code, 3, (some .int), 1, 5, 115, 3) := by rfl
theorem mt210 : vh_mt[210]? = some (⟨"VillageHallsModel", "isOf", "(II)Z"⟩, prog_13_method_64_code, 2, (some .boolean), 0, 0, 0, 2) := by rfl
theorem mt211 : vh_mt[211]? = some (⟨"VillageHallsModel", "ask", "(II)I"⟩, prog_13_method_71_code, 4, (some .int), 1, 5, 115, 3) := by rfl
theorem mt212 : vh_mt[212]? = some (⟨"VillageHallsModel", "sizeOf", "(II)I"⟩, prog_13_method_70_code, 3, (some .int), 1, 4, 91, 3) := by rfl
theorem mt213 : vh_mt[213]? = some (⟨"VillageHallsModel", "sizeHeld", "(II)I"⟩, prog_13_method_68_code, 4, (some .int), 1, 2, 45, 3) := by rfl
theorem mt214 : vh_mt[214]? = some (⟨"VillageHallsModel", "began", "(I)V"⟩, prog_13_method_67_code, 2, none, 1, 0, 0, 2) := by rfl
theorem mt215 : vh_mt[215]? = some (⟨"VillageHallsModel", "markOf", "(II)I"⟩, prog_13_method_69_code, 4, (some .int), 1, 3, 68, 3) := by rfl
theorem mt216 : vh_mt[216]? = some (⟨"VillageHallsModel", "trace", "(I)I"⟩, prog_13_method_72_code, 2, (some .int), 1, 1, 25, 2) := by rfl
theorem mt217 : vh_mt[217]? = some (⟨"VillageHallsModel", "count", "(I)I"⟩, prog_13_method_73_code, 4, (some .int), 1, 5, 115, 2) := by rfl
theorem mt218 : vh_mt[218]? = some (⟨"VillageHallsModel", "status", "()I"⟩, prog_13_method_74_code, 1, (some .int), 1, 0, 0, 1) := by rfl
theorem rt12 : vh_rty 12 = (some .int) := by unfold vh_rty; rw [mt12]
theorem mx12 : vh_mxl 12 = 4 := by unfold vh_mxl; rw [mt12]
theorem rt13 : vh_rty 13 = (some .boolean) := by unfold vh_rty; rw [mt13]
theorem mx13 : vh_mxl 13 = 1 := by unfold vh_mxl; rw [mt13]
theorem rt14 : vh_rty 14 = (some .boolean) := by unfold vh_rty; rw [mt14]
theorem mx14 : vh_mxl 14 = 3 := by unfold vh_mxl; rw [mt14]
theorem rt15 : vh_rty 15 = (some .int) := by unfold vh_rty; rw [mt15]
theorem mx15 : vh_mxl 15 = 2 := by unfold vh_mxl; rw [mt15]
theorem rt16 : vh_rty 16 = none := by unfold vh_rty; rw [mt16]
theorem mx16 : vh_mxl 16 = 5 := by unfold vh_mxl; rw [mt16]
theorem rt17 : vh_rty 17 = (some .int) := by unfold vh_rty; rw [mt17]
theorem mx17 : vh_mxl 17 = 2 := by unfold vh_mxl; rw [mt17]
theorem rt18 : vh_rty 18 = (some .int) := by unfold vh_rty; rw [mt18]
theorem mx18 : vh_mxl 18 = 4 := by unfold vh_mxl; rw [mt18]
theorem rt19 : vh_rty 19 = (some .boolean) := by unfold vh_rty; rw [mt19]
theorem mx19 : vh_mxl 19 = 2 := by unfold vh_mxl; rw [mt19]
theorem rt20 : vh_rty 20 = (some .boolean) := by unfold vh_rty; rw [mt20]
theorem mx20 : vh_mxl 20 = 4 := by unfold vh_mxl; rw [mt20]
theorem rt21 : vh_rty 21 = (some .int) := by unfold vh_rty; rw [mt21]
theorem mx21 : vh_mxl 21 = 5 := by unfold vh_mxl; rw [mt21]
theorem rt22 : vh_rty 22 = (some .int) := by unfold vh_rty; rw [mt22]
theorem mx22 : vh_mxl 22 = 6 := by unfold vh_mxl; rw [mt22]
theorem rt23 : vh_rty 23 = (some .boolean) := by unfold vh_rty; rw [mt23]
theorem mx23 : vh_mxl 23 = 3 := by unfold vh_mxl; rw [mt23]
theorem rt24 : vh_rty 24 = none := by unfold vh_rty; rw [mt24]
theorem mx24 : vh_mxl 24 = 6 := by unfold vh_mxl; rw [mt24]
theorem rt25 : vh_rty 25 = (some .int) := by unfold vh_rty; rw [mt25]
theorem mx25 : vh_mxl 25 = 2 := by unfold vh_mxl; rw [mt25]
theorem rt26 : vh_rty 26 = (some .int) := by unfold vh_rty; rw [mt26]
theorem mx26 : vh_mxl 26 = 2 := by unfold vh_mxl; rw [mt26]
theorem rt27 : vh_rty 27 = (some .int) := by unfold vh_rty; rw [mt27]
theorem mx27 : vh_mxl 27 = 4 := by unfold vh_mxl; rw [mt27]
theorem rt28 : vh_rty 28 = (some .boolean) := by unfold vh_rty; rw [mt28]
theorem mx28 : vh_mxl 28 = 2 := by unfold vh_mxl; rw [mt28]
theorem rt29 : vh_rty 29 = none := by unfold vh_rty; rw [mt29]
theorem mx29 : vh_mxl 29 = 5 := by unfold vh_mxl; rw [mt29]
theorem rt30 : vh_rty 30 = (some .int) := by unfold vh_rty; rw [mt30]
theorem mx30 : vh_mxl 30 = 1 := by unfold vh_mxl; rw [mt30]
theorem rt31 : vh_rty 31 = (some .boolean) := by unfold vh_rty; rw [mt31]
theorem mx31 : vh_mxl 31 = 3 := by unfold vh_mxl; rw [mt31]
theorem rt32 : vh_rty 32 = none := by unfold vh_rty; rw [mt32]
theorem mx32 : vh_mxl 32 = 3 := by unfold vh_mxl; rw [mt32]
theorem rt33 : vh_rty 33 = none := by unfold vh_rty; rw [mt33]
theorem mx33 : vh_mxl 33 = 1 := by unfold vh_mxl; rw [mt33]
theorem rt34 : vh_rty 34 = none := by unfold vh_rty; rw [mt34]
theorem mx34 : vh_mxl 34 = 1 := by unfold vh_mxl; rw [mt34]
theorem rt35 : vh_rty 35 = (some .int) := by unfold vh_rty; rw [mt35]
theorem mx35 : vh_mxl 35 = 4 := by unfold vh_mxl; rw [mt35]
theorem rt36 : vh_rty 36 = (some .boolean) := by unfold vh_rty; rw [mt36]
theorem mx36 : vh_mxl 36 = 3 := by unfold vh_mxl; rw [mt36]
theorem rt37 : vh_rty 37 = (some .boolean) := by unfold vh_rty; rw [mt37]
theorem mx37 : vh_mxl 37 = 3 := by unfold vh_mxl; rw [mt37]
theorem rt38 : vh_rty 38 = (some .int) := by unfold vh_rty; rw [mt38]
theorem mx38 : vh_mxl 38 = 1 := by unfold vh_mxl; rw [mt38]
theorem rt39 : vh_rty 39 = (some .byte) := by unfold vh_rty; rw [mt39]
theorem mx39 : vh_mxl 39 = 1 := by unfold vh_mxl; rw [mt39]
theorem rt40 : vh_rty 40 = (some .char) := by unfold vh_rty; rw [mt40]
theorem mx40 : vh_mxl 40 = 2 := by unfold vh_mxl; rw [mt40]
theorem rt41 : vh_rty 41 = (some .boolean) := by unfold vh_rty; rw [mt41]
theorem mx41 : vh_mxl 41 = 1 := by unfold vh_mxl; rw [mt41]
theorem rt42 : vh_rty 42 = (some .char) := by unfold vh_rty; rw [mt42]
theorem mx42 : vh_mxl 42 = 2 := by unfold vh_mxl; rw [mt42]
theorem rt43 : vh_rty 43 = none := by unfold vh_rty; rw [mt43]
theorem mx43 : vh_mxl 43 = 2 := by unfold vh_mxl; rw [mt43]
theorem rt44 : vh_rty 44 = (some .int) := by unfold vh_rty; rw [mt44]
theorem mx44 : vh_mxl 44 = 3 := by unfold vh_mxl; rw [mt44]
theorem rt45 : vh_rty 45 = (some .boolean) := by unfold vh_rty; rw [mt45]
theorem mx45 : vh_mxl 45 = 2 := by unfold vh_mxl; rw [mt45]
theorem rt46 : vh_rty 46 = (some .boolean) := by unfold vh_rty; rw [mt46]
theorem mx46 : vh_mxl 46 = 2 := by unfold vh_mxl; rw [mt46]
theorem rt47 : vh_rty 47 = (some .int) := by unfold vh_rty; rw [mt47]
theorem mx47 : vh_mxl 47 = 3 := by unfold vh_mxl; rw [mt47]
theorem rt48 : vh_rty 48 = (some .boolean) := by unfold vh_rty; rw [mt48]
theorem mx48 : vh_mxl 48 = 2 := by unfold vh_mxl; rw [mt48]
theorem rt49 : vh_rty 49 = (some .int) := by unfold vh_rty; rw [mt49]
theorem mx49 : vh_mxl 49 = 1 := by unfold vh_mxl; rw [mt49]
theorem rt50 : vh_rty 50 = (some .boolean) := by unfold vh_rty; rw [mt50]
theorem mx50 : vh_mxl 50 = 1 := by unfold vh_mxl; rw [mt50]
theorem rt51 : vh_rty 51 = (some .boolean) := by unfold vh_rty; rw [mt51]
theorem mx51 : vh_mxl 51 = 1 := by unfold vh_mxl; rw [mt51]
theorem rt52 : vh_rty 52 = (some .boolean) := by unfold vh_rty; rw [mt52]
theorem mx52 : vh_mxl 52 = 2 := by unfold vh_mxl; rw [mt52]
theorem rt53 : vh_rty 53 = (some .int) := by unfold vh_rty; rw [mt53]
theorem mx53 : vh_mxl 53 = 1 := by unfold vh_mxl; rw [mt53]
theorem rt54 : vh_rty 54 = (some .boolean) := by unfold vh_rty; rw [mt54]
theorem mx54 : vh_mxl 54 = 3 := by unfold vh_mxl; rw [mt54]
theorem rt55 : vh_rty 55 = none := by unfold vh_rty; rw [mt55]
theorem mx55 : vh_mxl 55 = 5 := by unfold vh_mxl; rw [mt55]
theorem rt56 : vh_rty 56 = (some .boolean) := by unfold vh_rty; rw [mt56]
theorem mx56 : vh_mxl 56 = 1 := by unfold vh_mxl; rw [mt56]
theorem rt57 : vh_rty 57 = (some .boolean) := by unfold vh_rty; rw [mt57]
theorem mx57 : vh_mxl 57 = 2 := by unfold vh_mxl; rw [mt57]
theorem rt58 : vh_rty 58 = none := by unfold vh_rty; rw [mt58]
theorem mx58 : vh_mxl 58 = 1 := by unfold vh_mxl; rw [mt58]
theorem rt59 : vh_rty 59 = (some .int) := by unfold vh_rty; rw [mt59]
theorem mx59 : vh_mxl 59 = 1 := by unfold vh_mxl; rw [mt59]
theorem rt60 : vh_rty 60 = (some .int) := by unfold vh_rty; rw [mt60]
theorem mx60 : vh_mxl 60 = 3 := by unfold vh_mxl; rw [mt60]
theorem rt61 : vh_rty 61 = (some .boolean) := by unfold vh_rty; rw [mt61]
theorem mx61 : vh_mxl 61 = 1 := by unfold vh_mxl; rw [mt61]
theorem rt62 : vh_rty 62 = (some .int) := by unfold vh_rty; rw [mt62]
theorem mx62 : vh_mxl 62 = 2 := by unfold vh_mxl; rw [mt62]
theorem rt63 : vh_rty 63 = (some .int) := by unfold vh_rty; rw [mt63]
theorem mx63 : vh_mxl 63 = 4 := by unfold vh_mxl; rw [mt63]
theorem rt64 : vh_rty 64 = (some .boolean) := by unfold vh_rty; rw [mt64]
theorem mx64 : vh_mxl 64 = 1 := by unfold vh_mxl; rw [mt64]
theorem rt65 : vh_rty 65 = (some .int) := by unfold vh_rty; rw [mt65]
theorem mx65 : vh_mxl 65 = 4 := by unfold vh_mxl; rw [mt65]
theorem rt66 : vh_rty 66 = none := by unfold vh_rty; rw [mt66]
theorem mx66 : vh_mxl 66 = 4 := by unfold vh_mxl; rw [mt66]
theorem rt67 : vh_rty 67 = (some .int) := by unfold vh_rty; rw [mt67]
theorem mx67 : vh_mxl 67 = 3 := by unfold vh_mxl; rw [mt67]
theorem rt68 : vh_rty 68 = (some .boolean) := by unfold vh_rty; rw [mt68]
theorem mx68 : vh_mxl 68 = 4 := by unfold vh_mxl; rw [mt68]
theorem rt69 : vh_rty 69 = (some .boolean) := by unfold vh_rty; rw [mt69]
theorem mx69 : vh_mxl 69 = 1 := by unfold vh_mxl; rw [mt69]
theorem rt70 : vh_rty 70 = (some .boolean) := by unfold vh_rty; rw [mt70]
theorem mx70 : vh_mxl 70 = 2 := by unfold vh_mxl; rw [mt70]
theorem rt71 : vh_rty 71 = (some .int) := by unfold vh_rty; rw [mt71]
theorem mx71 : vh_mxl 71 = 4 := by unfold vh_mxl; rw [mt71]
theorem rt72 : vh_rty 72 = (some .boolean) := by unfold vh_rty; rw [mt72]
theorem mx72 : vh_mxl 72 = 2 := by unfold vh_mxl; rw [mt72]
theorem rt73 : vh_rty 73 = (some (.object "VillageHalls$Booking")) := by unfold vh_rty; rw [mt73]
theorem mx73 : vh_mxl 73 = 2 := by unfold vh_mxl; rw [mt73]
theorem rt74 : vh_rty 74 = (some .int) := by unfold vh_rty; rw [mt74]
theorem mx74 : vh_mxl 74 = 4 := by unfold vh_mxl; rw [mt74]
theorem rt75 : vh_rty 75 = (some .int) := by unfold vh_rty; rw [mt75]
theorem mx75 : vh_mxl 75 = 4 := by unfold vh_mxl; rw [mt75]
theorem rt76 : vh_rty 76 = (some .int) := by unfold vh_rty; rw [mt76]
theorem mx76 : vh_mxl 76 = 2 := by unfold vh_mxl; rw [mt76]
theorem rt77 : vh_rty 77 = (some .int) := by unfold vh_rty; rw [mt77]
theorem mx77 : vh_mxl 77 = 3 := by unfold vh_mxl; rw [mt77]
theorem rt78 : vh_rty 78 = (some .boolean) := by unfold vh_rty; rw [mt78]
theorem mx78 : vh_mxl 78 = 3 := by unfold vh_mxl; rw [mt78]
theorem rt79 : vh_rty 79 = (some .boolean) := by unfold vh_rty; rw [mt79]
theorem mx79 : vh_mxl 79 = 4 := by unfold vh_mxl; rw [mt79]
theorem rt80 : vh_rty 80 = (some .boolean) := by unfold vh_rty; rw [mt80]
theorem mx80 : vh_mxl 80 = 4 := by unfold vh_mxl; rw [mt80]
theorem rt81 : vh_rty 81 = (some .int) := by unfold vh_rty; rw [mt81]
theorem mx81 : vh_mxl 81 = 3 := by unfold vh_mxl; rw [mt81]
theorem rt82 : vh_rty 82 = (some .int) := by unfold vh_rty; rw [mt82]
theorem mx82 : vh_mxl 82 = 6 := by unfold vh_mxl; rw [mt82]
theorem rt83 : vh_rty 83 = (some .int) := by unfold vh_rty; rw [mt83]
theorem mx83 : vh_mxl 83 = 4 := by unfold vh_mxl; rw [mt83]
theorem rt84 : vh_rty 84 = (some .boolean) := by unfold vh_rty; rw [mt84]
theorem mx84 : vh_mxl 84 = 2 := by unfold vh_mxl; rw [mt84]
theorem rt85 : vh_rty 85 = (some .boolean) := by unfold vh_rty; rw [mt85]
theorem mx85 : vh_mxl 85 = 2 := by unfold vh_mxl; rw [mt85]
theorem rt86 : vh_rty 86 = (some .int) := by unfold vh_rty; rw [mt86]
theorem mx86 : vh_mxl 86 = 5 := by unfold vh_mxl; rw [mt86]
theorem rt87 : vh_rty 87 = (some .boolean) := by unfold vh_rty; rw [mt87]
theorem mx87 : vh_mxl 87 = 3 := by unfold vh_mxl; rw [mt87]
theorem rt88 : vh_rty 88 = (some .boolean) := by unfold vh_rty; rw [mt88]
theorem mx88 : vh_mxl 88 = 2 := by unfold vh_mxl; rw [mt88]
theorem rt89 : vh_rty 89 = (some .int) := by unfold vh_rty; rw [mt89]
theorem mx89 : vh_mxl 89 = 5 := by unfold vh_mxl; rw [mt89]
theorem rt90 : vh_rty 90 = (some .int) := by unfold vh_rty; rw [mt90]
theorem mx90 : vh_mxl 90 = 5 := by unfold vh_mxl; rw [mt90]
theorem rt91 : vh_rty 91 = (some .int) := by unfold vh_rty; rw [mt91]
theorem mx91 : vh_mxl 91 = 4 := by unfold vh_mxl; rw [mt91]
theorem rt92 : vh_rty 92 = (some .int) := by unfold vh_rty; rw [mt92]
theorem mx92 : vh_mxl 92 = 6 := by unfold vh_mxl; rw [mt92]
theorem rt93 : vh_rty 93 = (some .int) := by unfold vh_rty; rw [mt93]
theorem mx93 : vh_mxl 93 = 13 := by unfold vh_mxl; rw [mt93]
theorem rt94 : vh_rty 94 = (some .int) := by unfold vh_rty; rw [mt94]
theorem mx94 : vh_mxl 94 = 8 := by unfold vh_mxl; rw [mt94]
theorem rt95 : vh_rty 95 = (some .int) := by unfold vh_rty; rw [mt95]
theorem mx95 : vh_mxl 95 = 7 := by unfold vh_mxl; rw [mt95]
theorem rt96 : vh_rty 96 = none := by unfold vh_rty; rw [mt96]
theorem mx96 : vh_mxl 96 = 8 := by unfold vh_mxl; rw [mt96]
theorem rt97 : vh_rty 97 = none := by unfold vh_rty; rw [mt97]
theorem mx97 : vh_mxl 97 = 5 := by unfold vh_mxl; rw [mt97]
theorem rt98 : vh_rty 98 = (some .int) := by unfold vh_rty; rw [mt98]
theorem mx98 : vh_mxl 98 = 1 := by unfold vh_mxl; rw [mt98]
theorem rt99 : vh_rty 99 = (some .int) := by unfold vh_rty; rw [mt99]
theorem mx99 : vh_mxl 99 = 4 := by unfold vh_mxl; rw [mt99]
theorem rt100 : vh_rty 100 = (some .boolean) := by unfold vh_rty; rw [mt100]
theorem mx100 : vh_mxl 100 = 3 := by unfold vh_mxl; rw [mt100]
theorem rt101 : vh_rty 101 = (some .int) := by unfold vh_rty; rw [mt101]
theorem mx101 : vh_mxl 101 = 2 := by unfold vh_mxl; rw [mt101]
theorem rt102 : vh_rty 102 = (some .int) := by unfold vh_rty; rw [mt102]
theorem mx102 : vh_mxl 102 = 3 := by unfold vh_mxl; rw [mt102]
theorem rt103 : vh_rty 103 = (some .int) := by unfold vh_rty; rw [mt103]
theorem mx103 : vh_mxl 103 = 5 := by unfold vh_mxl; rw [mt103]
theorem rt104 : vh_rty 104 = (some .boolean) := by unfold vh_rty; rw [mt104]
theorem mx104 : vh_mxl 104 = 4 := by unfold vh_mxl; rw [mt104]
theorem rt105 : vh_rty 105 = (some .int) := by unfold vh_rty; rw [mt105]
theorem mx105 : vh_mxl 105 = 2 := by unfold vh_mxl; rw [mt105]
theorem rt106 : vh_rty 106 = (some .int) := by unfold vh_rty; rw [mt106]
theorem mx106 : vh_mxl 106 = 6 := by unfold vh_mxl; rw [mt106]
theorem rt107 : vh_rty 107 = (some .int) := by unfold vh_rty; rw [mt107]
theorem mx107 : vh_mxl 107 = 4 := by unfold vh_mxl; rw [mt107]
theorem rt108 : vh_rty 108 = (some .int) := by unfold vh_rty; rw [mt108]
theorem mx108 : vh_mxl 108 = 8 := by unfold vh_mxl; rw [mt108]
theorem rt109 : vh_rty 109 = (some .int) := by unfold vh_rty; rw [mt109]
theorem mx109 : vh_mxl 109 = 6 := by unfold vh_mxl; rw [mt109]
theorem rt110 : vh_rty 110 = (some .int) := by unfold vh_rty; rw [mt110]
theorem mx110 : vh_mxl 110 = 5 := by unfold vh_mxl; rw [mt110]
theorem rt111 : vh_rty 111 = (some .boolean) := by unfold vh_rty; rw [mt111]
theorem mx111 : vh_mxl 111 = 1 := by unfold vh_mxl; rw [mt111]
theorem rt112 : vh_rty 112 = (some .int) := by unfold vh_rty; rw [mt112]
theorem mx112 : vh_mxl 112 = 7 := by unfold vh_mxl; rw [mt112]
theorem rt113 : vh_rty 113 = (some .int) := by unfold vh_rty; rw [mt113]
theorem mx113 : vh_mxl 113 = 5 := by unfold vh_mxl; rw [mt113]
theorem rt114 : vh_rty 114 = (some .int) := by unfold vh_rty; rw [mt114]
theorem mx114 : vh_mxl 114 = 5 := by unfold vh_mxl; rw [mt114]
theorem rt115 : vh_rty 115 = (some .int) := by unfold vh_rty; rw [mt115]
theorem mx115 : vh_mxl 115 = 9 := by unfold vh_mxl; rw [mt115]
theorem rt116 : vh_rty 116 = (some .boolean) := by unfold vh_rty; rw [mt116]
theorem mx116 : vh_mxl 116 = 3 := by unfold vh_mxl; rw [mt116]
theorem rt117 : vh_rty 117 = (some .int) := by unfold vh_rty; rw [mt117]
theorem mx117 : vh_mxl 117 = 6 := by unfold vh_mxl; rw [mt117]
theorem rt118 : vh_rty 118 = (some .boolean) := by unfold vh_rty; rw [mt118]
theorem mx118 : vh_mxl 118 = 2 := by unfold vh_mxl; rw [mt118]
theorem rt119 : vh_rty 119 = (some .boolean) := by unfold vh_rty; rw [mt119]
theorem mx119 : vh_mxl 119 = 1 := by unfold vh_mxl; rw [mt119]
theorem rt120 : vh_rty 120 = (some .int) := by unfold vh_rty; rw [mt120]
theorem mx120 : vh_mxl 120 = 6 := by unfold vh_mxl; rw [mt120]
theorem rt121 : vh_rty 121 = (some .int) := by unfold vh_rty; rw [mt121]
theorem mx121 : vh_mxl 121 = 3 := by unfold vh_mxl; rw [mt121]
theorem rt122 : vh_rty 122 = (some .int) := by unfold vh_rty; rw [mt122]
theorem mx122 : vh_mxl 122 = 4 := by unfold vh_mxl; rw [mt122]
theorem rt123 : vh_rty 123 = (some .int) := by unfold vh_rty; rw [mt123]
theorem mx123 : vh_mxl 123 = 3 := by unfold vh_mxl; rw [mt123]
theorem rt124 : vh_rty 124 = (some .int) := by unfold vh_rty; rw [mt124]
theorem mx124 : vh_mxl 124 = 2 := by unfold vh_mxl; rw [mt124]
theorem rt125 : vh_rty 125 = (some .int) := by unfold vh_rty; rw [mt125]
theorem mx125 : vh_mxl 125 = 5 := by unfold vh_mxl; rw [mt125]
theorem rt126 : vh_rty 126 = (some .int) := by unfold vh_rty; rw [mt126]
theorem mx126 : vh_mxl 126 = 4 := by unfold vh_mxl; rw [mt126]
theorem rt127 : vh_rty 127 = (some .int) := by unfold vh_rty; rw [mt127]
theorem mx127 : vh_mxl 127 = 5 := by unfold vh_mxl; rw [mt127]
theorem rt128 : vh_rty 128 = none := by unfold vh_rty; rw [mt128]
theorem mx128 : vh_mxl 128 = 3 := by unfold vh_mxl; rw [mt128]
theorem rt129 : vh_rty 129 = (some .int) := by unfold vh_rty; rw [mt129]
theorem mx129 : vh_mxl 129 = 2 := by unfold vh_mxl; rw [mt129]
theorem rt130 : vh_rty 130 = (some .int) := by unfold vh_rty; rw [mt130]
theorem mx130 : vh_mxl 130 = 1 := by unfold vh_mxl; rw [mt130]
theorem rt131 : vh_rty 131 = none := by unfold vh_rty; rw [mt131]
theorem mx131 : vh_mxl 131 = 2 := by unfold vh_mxl; rw [mt131]
theorem rt132 : vh_rty 132 = (some .int) := by unfold vh_rty; rw [mt132]
theorem mx132 : vh_mxl 132 = 1 := by unfold vh_mxl; rw [mt132]
theorem rt133 : vh_rty 133 = (some .int) := by unfold vh_rty; rw [mt133]
theorem mx133 : vh_mxl 133 = 1 := by unfold vh_mxl; rw [mt133]
theorem rt134 : vh_rty 134 = (some .int) := by unfold vh_rty; rw [mt134]
theorem mx134 : vh_mxl 134 = 1 := by unfold vh_mxl; rw [mt134]
theorem rt135 : vh_rty 135 = (some .int) := by unfold vh_rty; rw [mt135]
theorem mx135 : vh_mxl 135 = 1 := by unfold vh_mxl; rw [mt135]
theorem rt136 : vh_rty 136 = (some .int) := by unfold vh_rty; rw [mt136]
theorem mx136 : vh_mxl 136 = 2 := by unfold vh_mxl; rw [mt136]
theorem rt137 : vh_rty 137 = (some .int) := by unfold vh_rty; rw [mt137]
theorem mx137 : vh_mxl 137 = 1 := by unfold vh_mxl; rw [mt137]
theorem rt138 : vh_rty 138 = (some .int) := by unfold vh_rty; rw [mt138]
theorem mx138 : vh_mxl 138 = 1 := by unfold vh_mxl; rw [mt138]
theorem rt139 : vh_rty 139 = (some .int) := by unfold vh_rty; rw [mt139]
theorem mx139 : vh_mxl 139 = 1 := by unfold vh_mxl; rw [mt139]
theorem rt140 : vh_rty 140 = (some .int) := by unfold vh_rty; rw [mt140]
theorem mx140 : vh_mxl 140 = 2 := by unfold vh_mxl; rw [mt140]
theorem rt141 : vh_rty 141 = (some .int) := by unfold vh_rty; rw [mt141]
theorem mx141 : vh_mxl 141 = 2 := by unfold vh_mxl; rw [mt141]
theorem rt142 : vh_rty 142 = (some .int) := by unfold vh_rty; rw [mt142]
theorem mx142 : vh_mxl 142 = 2 := by unfold vh_mxl; rw [mt142]
theorem rt143 : vh_rty 143 = (some .int) := by unfold vh_rty; rw [mt143]
theorem mx143 : vh_mxl 143 = 3 := by unfold vh_mxl; rw [mt143]
theorem rt144 : vh_rty 144 = (some .int) := by unfold vh_rty; rw [mt144]
theorem mx144 : vh_mxl 144 = 5 := by unfold vh_mxl; rw [mt144]
theorem rt145 : vh_rty 145 = (some .int) := by unfold vh_rty; rw [mt145]
theorem mx145 : vh_mxl 145 = 1 := by unfold vh_mxl; rw [mt145]
theorem rt147 : vh_rty 147 = (some .int) := by unfold vh_rty; rw [mt147]
theorem mx147 : vh_mxl 147 = 5 := by unfold vh_mxl; rw [mt147]
theorem rt148 : vh_rty 148 = (some .boolean) := by unfold vh_rty; rw [mt148]
theorem mx148 : vh_mxl 148 = 1 := by unfold vh_mxl; rw [mt148]
theorem rt149 : vh_rty 149 = (some .boolean) := by unfold vh_rty; rw [mt149]
theorem mx149 : vh_mxl 149 = 6 := by unfold vh_mxl; rw [mt149]
theorem rt150 : vh_rty 150 = (some .int) := by unfold vh_rty; rw [mt150]
theorem mx150 : vh_mxl 150 = 2 := by unfold vh_mxl; rw [mt150]
theorem rt151 : vh_rty 151 = (some .int) := by unfold vh_rty; rw [mt151]
theorem mx151 : vh_mxl 151 = 4 := by unfold vh_mxl; rw [mt151]
theorem rt152 : vh_rty 152 = (some .int) := by unfold vh_rty; rw [mt152]
theorem mx152 : vh_mxl 152 = 9 := by unfold vh_mxl; rw [mt152]
theorem rt153 : vh_rty 153 = (some .int) := by unfold vh_rty; rw [mt153]
theorem mx153 : vh_mxl 153 = 2 := by unfold vh_mxl; rw [mt153]
theorem rt154 : vh_rty 154 = (some .int) := by unfold vh_rty; rw [mt154]
theorem mx154 : vh_mxl 154 = 5 := by unfold vh_mxl; rw [mt154]
theorem rt155 : vh_rty 155 = (some .int) := by unfold vh_rty; rw [mt155]
theorem mx155 : vh_mxl 155 = 1 := by unfold vh_mxl; rw [mt155]
theorem rt156 : vh_rty 156 = none := by unfold vh_rty; rw [mt156]
theorem mx156 : vh_mxl 156 = 3 := by unfold vh_mxl; rw [mt156]
theorem rt157 : vh_rty 157 = none := by unfold vh_rty; rw [mt157]
theorem mx157 : vh_mxl 157 = 2 := by unfold vh_mxl; rw [mt157]
theorem rt158 : vh_rty 158 = (some .int) := by unfold vh_rty; rw [mt158]
theorem mx158 : vh_mxl 158 = 2 := by unfold vh_mxl; rw [mt158]
theorem rt159 : vh_rty 159 = (some .boolean) := by unfold vh_rty; rw [mt159]
theorem mx159 : vh_mxl 159 = 1 := by unfold vh_mxl; rw [mt159]
theorem rt160 : vh_rty 160 = (some .boolean) := by unfold vh_rty; rw [mt160]
theorem mx160 : vh_mxl 160 = 1 := by unfold vh_mxl; rw [mt160]
theorem rt161 : vh_rty 161 = (some .long) := by unfold vh_rty; rw [mt161]
theorem mx161 : vh_mxl 161 = 4 := by unfold vh_mxl; rw [mt161]
theorem rt162 : vh_rty 162 = none := by unfold vh_rty; rw [mt162]
theorem mx162 : vh_mxl 162 = 2 := by unfold vh_mxl; rw [mt162]
theorem rt163 : vh_rty 163 = none := by unfold vh_rty; rw [mt163]
theorem mx163 : vh_mxl 163 = 2 := by unfold vh_mxl; rw [mt163]
theorem rt164 : vh_rty 164 = (some .int) := by unfold vh_rty; rw [mt164]
theorem mx164 : vh_mxl 164 = 4 := by unfold vh_mxl; rw [mt164]
theorem rt165 : vh_rty 165 = none := by unfold vh_rty; rw [mt165]
theorem mx165 : vh_mxl 165 = 6 := by unfold vh_mxl; rw [mt165]
theorem rt166 : vh_rty 166 = (some .boolean) := by unfold vh_rty; rw [mt166]
theorem mx166 : vh_mxl 166 = 3 := by unfold vh_mxl; rw [mt166]
theorem rt167 : vh_rty 167 = (some .int) := by unfold vh_rty; rw [mt167]
theorem mx167 : vh_mxl 167 = 3 := by unfold vh_mxl; rw [mt167]
theorem rt168 : vh_rty 168 = none := by unfold vh_rty; rw [mt168]
theorem mx168 : vh_mxl 168 = 6 := by unfold vh_mxl; rw [mt168]
theorem rt169 : vh_rty 169 = none := by unfold vh_rty; rw [mt169]
theorem mx169 : vh_mxl 169 = 7 := by unfold vh_mxl; rw [mt169]
theorem rt170 : vh_rty 170 = (some .int) := by unfold vh_rty; rw [mt170]
theorem mx170 : vh_mxl 170 = 1 := by unfold vh_mxl; rw [mt170]
theorem rt171 : vh_rty 171 = (some .int) := by unfold vh_rty; rw [mt171]
theorem mx171 : vh_mxl 171 = 3 := by unfold vh_mxl; rw [mt171]
theorem rt172 : vh_rty 172 = (some .boolean) := by unfold vh_rty; rw [mt172]
theorem mx172 : vh_mxl 172 = 1 := by unfold vh_mxl; rw [mt172]
theorem rt173 : vh_rty 173 = (some .int) := by unfold vh_rty; rw [mt173]
theorem mx173 : vh_mxl 173 = 6 := by unfold vh_mxl; rw [mt173]
theorem rt174 : vh_rty 174 = (some .boolean) := by unfold vh_rty; rw [mt174]
theorem mx174 : vh_mxl 174 = 1 := by unfold vh_mxl; rw [mt174]
theorem rt175 : vh_rty 175 = (some .int) := by unfold vh_rty; rw [mt175]
theorem mx175 : vh_mxl 175 = 3 := by unfold vh_mxl; rw [mt175]
theorem rt176 : vh_rty 176 = (some .boolean) := by unfold vh_rty; rw [mt176]
theorem mx176 : vh_mxl 176 = 2 := by unfold vh_mxl; rw [mt176]
theorem rt177 : vh_rty 177 = (some .int) := by unfold vh_rty; rw [mt177]
theorem mx177 : vh_mxl 177 = 3 := by unfold vh_mxl; rw [mt177]
theorem rt178 : vh_rty 178 = (some .int) := by unfold vh_rty; rw [mt178]
theorem mx178 : vh_mxl 178 = 3 := by unfold vh_mxl; rw [mt178]
theorem rt179 : vh_rty 179 = (some .int) := by unfold vh_rty; rw [mt179]
theorem mx179 : vh_mxl 179 = 4 := by unfold vh_mxl; rw [mt179]
theorem rt180 : vh_rty 180 = (some .int) := by unfold vh_rty; rw [mt180]
theorem mx180 : vh_mxl 180 = 3 := by unfold vh_mxl; rw [mt180]
theorem rt181 : vh_rty 181 = (some .boolean) := by unfold vh_rty; rw [mt181]
theorem mx181 : vh_mxl 181 = 3 := by unfold vh_mxl; rw [mt181]
theorem rt182 : vh_rty 182 = (some .boolean) := by unfold vh_rty; rw [mt182]
theorem mx182 : vh_mxl 182 = 9 := by unfold vh_mxl; rw [mt182]
theorem rt183 : vh_rty 183 = (some .int) := by unfold vh_rty; rw [mt183]
theorem mx183 : vh_mxl 183 = 6 := by unfold vh_mxl; rw [mt183]
theorem rt184 : vh_rty 184 = (some .int) := by unfold vh_rty; rw [mt184]
theorem mx184 : vh_mxl 184 = 9 := by unfold vh_mxl; rw [mt184]
theorem rt185 : vh_rty 185 = (some .boolean) := by unfold vh_rty; rw [mt185]
theorem mx185 : vh_mxl 185 = 3 := by unfold vh_mxl; rw [mt185]
theorem rt186 : vh_rty 186 = (some .boolean) := by unfold vh_rty; rw [mt186]
theorem mx186 : vh_mxl 186 = 4 := by unfold vh_mxl; rw [mt186]
theorem rt187 : vh_rty 187 = (some .int) := by unfold vh_rty; rw [mt187]
theorem mx187 : vh_mxl 187 = 2 := by unfold vh_mxl; rw [mt187]
theorem rt188 : vh_rty 188 = (some .boolean) := by unfold vh_rty; rw [mt188]
theorem mx188 : vh_mxl 188 = 4 := by unfold vh_mxl; rw [mt188]
theorem rt189 : vh_rty 189 = (some .int) := by unfold vh_rty; rw [mt189]
theorem mx189 : vh_mxl 189 = 9 := by unfold vh_mxl; rw [mt189]
theorem rt190 : vh_rty 190 = (some .int) := by unfold vh_rty; rw [mt190]
theorem mx190 : vh_mxl 190 = 13 := by unfold vh_mxl; rw [mt190]
theorem rt191 : vh_rty 191 = (some .int) := by unfold vh_rty; rw [mt191]
theorem mx191 : vh_mxl 191 = 10 := by unfold vh_mxl; rw [mt191]
theorem rt192 : vh_rty 192 = (some .int) := by unfold vh_rty; rw [mt192]
theorem mx192 : vh_mxl 192 = 3 := by unfold vh_mxl; rw [mt192]
theorem rt193 : vh_rty 193 = (some .boolean) := by unfold vh_rty; rw [mt193]
theorem mx193 : vh_mxl 193 = 12 := by unfold vh_mxl; rw [mt193]
theorem rt194 : vh_rty 194 = (some .int) := by unfold vh_rty; rw [mt194]
theorem mx194 : vh_mxl 194 = 5 := by unfold vh_mxl; rw [mt194]
theorem rt195 : vh_rty 195 = (some .int) := by unfold vh_rty; rw [mt195]
theorem mx195 : vh_mxl 195 = 4 := by unfold vh_mxl; rw [mt195]
theorem rt196 : vh_rty 196 = (some .boolean) := by unfold vh_rty; rw [mt196]
theorem mx196 : vh_mxl 196 = 3 := by unfold vh_mxl; rw [mt196]
theorem rt197 : vh_rty 197 = (some .int) := by unfold vh_rty; rw [mt197]
theorem mx197 : vh_mxl 197 = 11 := by unfold vh_mxl; rw [mt197]
theorem rt198 : vh_rty 198 = (some .int) := by unfold vh_rty; rw [mt198]
theorem mx198 : vh_mxl 198 = 5 := by unfold vh_mxl; rw [mt198]
theorem rt199 : vh_rty 199 = (some .int) := by unfold vh_rty; rw [mt199]
theorem mx199 : vh_mxl 199 = 5 := by unfold vh_mxl; rw [mt199]
theorem rt200 : vh_rty 200 = (some .int) := by unfold vh_rty; rw [mt200]
theorem mx200 : vh_mxl 200 = 9 := by unfold vh_mxl; rw [mt200]
theorem rt201 : vh_rty 201 = (some .int) := by unfold vh_rty; rw [mt201]
theorem mx201 : vh_mxl 201 = 5 := by unfold vh_mxl; rw [mt201]
theorem rt202 : vh_rty 202 = (some .int) := by unfold vh_rty; rw [mt202]
theorem mx202 : vh_mxl 202 = 10 := by unfold vh_mxl; rw [mt202]
theorem rt203 : vh_rty 203 = (some .int) := by unfold vh_rty; rw [mt203]
theorem mx203 : vh_mxl 203 = 6 := by unfold vh_mxl; rw [mt203]
theorem rt204 : vh_rty 204 = (some .int) := by unfold vh_rty; rw [mt204]
theorem mx204 : vh_mxl 204 = 6 := by unfold vh_mxl; rw [mt204]
theorem rt205 : vh_rty 205 = (some .boolean) := by unfold vh_rty; rw [mt205]
theorem mx205 : vh_mxl 205 = 4 := by unfold vh_mxl; rw [mt205]
theorem rt206 : vh_rty 206 = (some .int) := by unfold vh_rty; rw [mt206]
theorem mx206 : vh_mxl 206 = 3 := by unfold vh_mxl; rw [mt206]
theorem rt207 : vh_rty 207 = (some .int) := by unfold vh_rty; rw [mt207]
theorem mx207 : vh_mxl 207 = 2 := by unfold vh_mxl; rw [mt207]
theorem rt208 : vh_rty 208 = (some .int) := by unfold vh_rty; rw [mt208]
theorem mx208 : vh_mxl 208 = 2 := by unfold vh_mxl; rw [mt208]
theorem rt209 : vh_rty 209 = (some .int) := by unfold vh_rty; rw [mt209]
theorem mx209 : vh_mxl 209 = 3 := by unfold vh_mxl; rw [mt209]
theorem rt210 : vh_rty 210 = (some .boolean) := by unfold vh_rty; rw [mt210]
theorem mx210 : vh_mxl 210 = 2 := by unfold vh_mxl; rw [mt210]
theorem rt211 : vh_rty 211 = (some .int) := by unfold vh_rty; rw [mt211]
theorem mx211 : vh_mxl 211 = 4 := by unfold vh_mxl; rw [mt211]
theorem rt212 : vh_rty 212 = (some .int) := by unfold vh_rty; rw [mt212]
theorem mx212 : vh_mxl 212 = 3 := by unfold vh_mxl; rw [mt212]
theorem rt213 : vh_rty 213 = (some .int) := by unfold vh_rty; rw [mt213]
theorem mx213 : vh_mxl 213 = 4 := by unfold vh_mxl; rw [mt213]
theorem rt214 : vh_rty 214 = none := by unfold vh_rty; rw [mt214]
theorem mx214 : vh_mxl 214 = 2 := by unfold vh_mxl; rw [mt214]
theorem rt215 : vh_rty 215 = (some .int) := by unfold vh_rty; rw [mt215]
theorem mx215 : vh_mxl 215 = 4 := by unfold vh_mxl; rw [mt215]
theorem rt216 : vh_rty 216 = (some .int) := by unfold vh_rty; rw [mt216]
theorem mx216 : vh_mxl 216 = 2 := by unfold vh_mxl; rw [mt216]
theorem rt217 : vh_rty 217 = (some .int) := by unfold vh_rty; rw [mt217]
theorem mx217 : vh_mxl 217 = 4 := by unfold vh_mxl; rw [mt217]
theorem rt218 : vh_rty 218 = (some .int) := by unfold vh_rty; rw [mt218]
theorem mx218 : vh_mxl 218 = 1 := by unfold vh_mxl; rw [mt218]
