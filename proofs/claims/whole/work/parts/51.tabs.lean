/-! What ties the tables to the printed program; by program. -/
def clNT : List String := [RX0, RX1, RX2, RX3, RX4, RX5, RX6, RX7, RX8, RX9, RX10, RX11, RX12, "FourHandsLaw", "java/lang/Integer", "java/lang/Long", "java/lang/Math", "java/lang/String", "java/lang/StringLatin1", "jdk/internal/util/Preconditions"]
def cN (o : Nat) : String := clNT.getD o ""
def mOwnT_0 : List (Nat) := [0, 0, 0, 0, 0, 1, 1, 1, 1, 1, 1, 1, 1, 2, 2, 2, 2, 2, 2, 3, 3, 3, 3, 3, 3, 3, 3, 4, 4, 4, 4, 4, 4, 4, 4, 4, 4, 5, 5, 5]
def mOwnT_1 : List (Nat) := [6, 6, 6, 6, 6, 6, 7, 7, 7, 7, 7, 7, 7, 7, 7, 7, 7, 8, 8, 8, 8, 8, 8, 8, 8, 8, 8, 8, 8, 8, 8, 9, 9, 9, 9, 9, 10, 10, 10, 10]
def mOwnT_2 : List (Nat) := [10, 10, 10, 10, 11, 11, 11, 11, 11, 11, 11, 11, 11, 11, 11, 11, 11, 11, 11, 11, 11, 11, 11, 11, 11, 11, 11, 11, 11, 11, 11, 11, 11, 11, 11, 11, 11, 11, 11, 11]
def mOwnT_3 : List (Nat) := [11, 11, 11, 11, 11, 11, 11, 11, 11, 11, 11, 11, 11, 11, 11, 11, 11, 11, 11, 11, 11, 11, 11, 11, 11, 11, 11, 11, 11, 11, 11, 11, 11, 11, 11, 11, 11, 11, 11, 11]
def mOwnT_4 : List (Nat) := [11, 11, 11, 11, 11, 11, 11, 12, 12, 12, 12, 12, 12, 12, 12, 12, 12, 12, 12, 12, 12, 12, 12, 12, 12, 12, 12, 12, 12, 12, 12, 12, 12, 12, 12, 12, 12, 12, 12, 12]
def mOwnT_5 : List (Nat) := [12, 12, 12, 12, 12, 12, 12, 12, 12, 12, 12, 12, 12, 12, 12, 12, 12, 12, 12, 12, 12, 12, 12, 12, 12, 12, 12, 12, 12, 12, 12, 12, 12, 12, 12, 12, 12, 12, 12, 12]
def mOwnT_6 : List (Nat) := [12, 12, 12, 12, 12, 12, 12, 12, 12, 12, 12, 12, 12, 12, 12, 12, 12, 12, 12, 12, 12, 12, 12, 12, 12, 12, 12, 12, 12, 12, 12, 12, 12, 12, 12, 12, 12, 12, 12, 12]
def mOwnT_7 : List (Nat) := [12, 12, 12, 12, 12, 12, 12, 12, 12, 12, 12, 12, 12, 12, 12, 12, 12, 12, 12, 12, 12, 12, 12, 12, 12, 12, 12, 12, 12, 12, 12, 12, 12, 14, 14, 14, 15, 15, 15, 16]
def mOwnT_8 : List (Nat) := [16, 16, 16, 17, 17, 17, 17, 17, 18, 19, 13, 13, 13, 13, 13, 13, 13, 13, 13, 13, 13, 13, 13, 13, 13, 13, 13, 13, 13, 13, 13, 13, 13, 13, 13, 13, 13, 13, 13, 13]
def mOwnT_9 : List (Nat) := [13, 13, 13, 13, 13, 13, 13, 13, 13]
def mOwnT : List (List (Nat)) := [mOwnT_0, mOwnT_1, mOwnT_2, mOwnT_3, mOwnT_4, mOwnT_5, mOwnT_6, mOwnT_7, mOwnT_8, mOwnT_9]
def mOwn (m : Nat) : Nat := (mOwnT.getD (m / 40) []).getD (m % 40) 0
def mNmT_0 : List (String × String) := [("weigh", "(LFourHands$State;I)V"), ("fits", "(LFourHands$State;IIII)Z"), ("has", "(LFourHands$State;IIII)Z"), (ga_nm, "(LFourHands$State;III)V"), ("noteToAsk", "(LFourHands$State;)I"), ("copyFrom", "(LFourHands$Law;)V"), ("clear", "()V"), ("emit", "(I)V"), ("closeLine", "(II)V"), ("isAble", "(LFourHands$State;II)Z"), ("reachOf", "(LFourHands$State;II)I"), ("takesNote", "(LFourHands$State;I)Z"), ("work", "(LFourHands$State;I)V"), ("read", "()Z"), ("readAny", "(I)Z"), ("readAll", "(I)Z"), ("readAtom", "(I)Z"), ("readNegated", "(I)Z"), ("readSum", "()Z"), ("missedOf", "(LFourHands$State;I)I"), ("cleanNotes", "(LFourHands$State;)I"), ("bestKey", "(LFourHands$State;)I"), ("betterBeat", "(LFourHands$State;I)I"), ("gather", "(LFourHands$State;)V"), ("handsFor", "(LFourHands$State;I)I"), ("leave", "(LFourHands$State;I)I"), ("findsHand", "(III)Z"), ("copyFrom", "(LFourHands$Log;)V"), ("add", "(IIII)V"), ("rowAgo", "(I)I"), ("pageIn", "(I)I"), ("noteIn", "(I)I"), ("handIn", "(I)I"), ("kindIn", "(I)I"), ("shareOf", "(I)I"), ("rowsOf", "(I)I"), ("latestHandOf", "(I)I"), ("remember", "(LFourHands$State;)V"), ("restore", "(LFourHands$State;)Z"), ("forget", "()V")]
def mNmT_1 : List (String × String) := [("read", "()Z"), ("readLine", "()Z"), ("numberBehindWord", "(I)I"), ("numberBehind", "(Ljava/lang/String;I)I"), ("readHand", "()Z"), ("readNote", "()Z"), ("copyFrom", "(LFourHands$State;)V"), ("copyHands", "(LFourHands$State;)V"), ("addHand", "(IIII)V"), ("addNote", "(III)V"), ("changePlayers", "(II)V"), ("isStanding", "(I)Z"), ("isOccupied", "(III)Z"), ("notesAt", "(I)I"), ("keysAt", "(I)J"), ("drawsSlip", "()Z"), ("enter", "(III)V"), ("addNumber", "(I)V"), ("useUp", "()I"), ("isKeyRow", "(I)Z"), ("isNoteRows", "(II)Z"), ("open", "()V"), ("advance", "()V"), ("isEnd", "()Z"), ("isNumber", "()Z"), ("isSign", "(C)Z"), ("isWord", "(Ljava/lang/String;)Z"), ("fail", "()Z"), ("passWord", "(Ljava/lang/String;)Z"), ("passSign", "(C)Z"), ("passNumber", "(I)I"), ("playBeat", "(LFourHands$State;Z)I"), ("playHeld", "(LFourHands$State;Z)V"), ("easeOthers", "(LFourHands$State;)V"), ("leaveRest", "(LFourHands$State;)V"), ("passBeat", "(LFourHands$State;)V"), ("find", "(LFourHands$State;I)V"), ("gather", "(LFourHands$State;I)V"), ("weigh", "()V"), ("mostFrom", "(II)I")]
def mNmT_2 : List (String × String) := [("isOpen", "(III)Z"), ("worthWith", "(III)I"), ("choose", "()V"), ("firstHand", "(II)I"), ("feed", "(IIIII)I"), ("end", "(I)Z"), ("piece", "()I"), ("law", "()I"), ("fault", "()I"), ("hand", "(II)I"), ("note", "(II)I"), ("can", "(II)Z"), ("reaches", "(II)I"), ("turn", "(I)I"), ("put", "(II)I"), ("rest", "(I)I"), ("bind", "(IZ)Z"), ("strike", "(IZ)Z"), ("shift", "(II)I"), ("slip", "(I)I"), ("swap", "(II)V"), ("of", "(I)I"), ("holds", "(II)I"), ("left", "(I)I"), ("go", "(I)I"), ("third", "(I)I"), ("full", "()I"), ("part", "()I"), ("easy", "()Z"), ("hands", "(II)I"), ("needed", "()I"), ("missed", "()I"), ("spare", "()I"), ("best", "()I"), ("clean", "()I"), ("better", "(I)I"), ("tune", "(IZ)I"), ("steps", "(I)I"), ("next", "()I"), ("octaves", "()I")]
def mNmT_3 : List (String × String) := [("sevens", "()I"), ("like", "()I"), ("whose", "(Z)I"), ("ask", "()I"), ("trade", "(II)I"), ("load", "(I)I"), ("sure", "(III)Z"), ("doubt", "(I)I"), ("chance", "(IZ)I"), ("expect", "()I"), ("worst", "(I)I"), ("rests", "(I)I"), ("free", "()I"), ("span", "(I)I"), ("cross", "()I"), ("hardest", "()I"), ("alike", "()I"), ("tires", "()I"), ("ahead", "(III)I"), ("trial", "(IZ)I"), ("bounds", "(IZ)I"), ("led", "(IZ)I"), ("log", "(II)I"), ("seed", "(I)I"), ("undo", "()Z"), ("image", "()V"), ("back", "()Z"), ("count", "(I)I"), ("checkHand", "(I)V"), ("checkNote", "(I)V"), ("checkBeat", "(I)V"), ("checkPlayer", "(I)V"), ("checkTurns", "(II)V"), ("withBit", "(IIZ)I"), ("leftAhead", "()I"), ("heldAhead", "(I)I"), ("tryTurns", "(II)V"), ("gatherTune", "()V"), ("highestKey", "(J)I"), ("placesBehind", "(II)I")]
def mNmT_4 : List (String × String) := [("oftenestKey", "(I)I"), ("loadGap", "(II)I"), ("loadOf", "(LFourHands$State;I)I"), ("bothHold", "(II)Z"), ("couldChangeNotes", "(II)Z"), ("handGain", "(II)I"), ("thirdGain", "(II)I"), ("thrown", "()I"), ("isIn", "(III)Z"), ("lesser", "(II)I"), ("greater", "(II)I"), ("isOf", "(II)Z"), ("bits", "(I)I"), ("its", "(II)I"), ("lays", "(III)V"), ("ofNote", "(II)I"), ("isHand", "(I)Z"), ("isNote", "(I)Z"), ("isBeat", "(I)Z"), ("isPlayer", "(I)Z"), ("stands", "(I)Z"), ("notesOf", "(I)I"), ("isThere", "(III)Z"), ("feed", "(IIIII)I"), ("end", "(I)Z"), ("letter", "(I)I"), ("skip", "()V"), ("isSign", "(I)Z"), ("has", "(Ljava/lang/String;)Z"), ("wrong", "(I)V"), ("here", "()I"), ("figures", "(II)I"), ("after", "(Ljava/lang/String;II)I"), ("handLine", "(I)V"), ("expects", "(Ljava/lang/String;)Z"), ("noteLine", "(I)V"), ("tells", "(III)V"), ("pieceLine", "()V"), ("begins", "()V"), ("read", "(Z)I")]
def mNmT_5 : List (String × String) := [("putsAside", "()V"), ("comesBack", "()V"), ("piece", "()I"), ("number", "()I"), ("sum", "()I"), ("plain", "()Z"), ("atom", "()Z"), ("every", "()Z"), ("some", "()Z"), ("lawLine", "()V"), ("law", "()I"), ("fault", "()I"), ("asks", "(II)V"), ("reachOf", "(III)I"), ("way", "(II)I"), ("canAt", "(III)Z"), ("takes", "(I)Z"), ("handMany", "()I"), ("looks", "()V"), ("chordOf", "(I)V"), ("may", "(III)Z"), ("brings", "(III)I"), ("overOf", "(I)I"), ("wayOf", "(I)V"), ("wayIn", "(I)V"), ("overAll", "()I"), ("draw", "(I)I"), ("logs", "(III)V"), ("turns", "(Z)I"), ("thirdOf", "(I)I"), ("goes", "(IZ)I"), ("missedOf", "(I)I"), ("shareOf", "(I)I"), ("hand", "(II)I"), ("note", "(II)I"), ("areThere", "(II)V"), ("can", "(II)Z"), ("reaches", "(II)I"), ("remembers", "()V"), ("turn", "(I)I")]
def mNmT_6 : List (String × String) := [("sets", "(II)I"), ("put", "(II)I"), ("rest", "(I)I"), ("bind", "(IZ)Z"), ("strike", "(IZ)Z"), ("shift", "(II)I"), ("slip", "(I)I"), ("swap", "(II)V"), ("of", "(I)I"), ("holds", "(II)I"), ("leftOf", "(I)I"), ("left", "(I)I"), ("go", "(I)I"), ("third", "(I)I"), ("full", "()I"), ("partOf", "()I"), ("part", "()I"), ("easy", "()Z"), ("hands", "(II)I"), ("needed", "()I"), ("missed", "()I"), ("spare", "()I"), ("best", "()I"), ("cleanOf", "(I)I"), ("clean", "()I"), ("better", "(I)I"), ("highest", "(IZ)I"), ("tune", "(IZ)I"), ("tuneOf", "()I"), ("steps", "(I)I"), ("standsAhead", "(III)Z"), ("next", "()I"), ("octaves", "()I"), ("sevens", "()I"), ("areLike", "(II)Z"), ("like", "()I"), ("hasBy", "(II)Z"), ("heard", "()I"), ("whose", "(Z)I"), ("ask", "()I")]
def mNmT_7 : List (String × String) := [("loadOf", "(I)I"), ("unlike", "(II)I"), ("trade", "(II)I"), ("load", "(I)I"), ("isSure", "(II)Z"), ("haveBoth", "(II)Z"), ("sure", "(III)Z"), ("doubt", "(I)I"), ("playedIn", "(I)I"), ("chance", "(IZ)I"), ("expect", "()I"), ("worst", "(I)I"), ("handHas", "(III)I"), ("thirdHas", "(III)I"), ("rests", "(I)I"), ("free", "()I"), ("span", "(I)I"), ("cross", "()I"), ("hardest", "()I"), ("isTired", "()Z"), ("tires", "()I"), ("alike", "()I"), ("ahead", "(III)I"), ("trial", "(IZ)I"), ("bounds", "(IZ)I"), ("logged", "(II)I"), ("led", "(IZ)I"), ("log", "(II)I"), ("seed", "(I)I"), ("undo", "()Z"), ("image", "()V"), ("back", "()Z"), ("count", "(I)I"), ("numberOfLeadingZeros", "(I)I"), ("numberOfTrailingZeros", "(I)I"), ("bitCount", "(I)I"), ("numberOfLeadingZeros", "(J)I"), ("numberOfTrailingZeros", "(J)I"), ("bitCount", "(J)I"), ("floorMod", "(II)I")]
def mNmT_8 : List (String × String) := [("abs", "(I)I"), ("max", "(II)I"), ("min", "(II)I"), ("length", "()I"), ("charAt", "(I)C"), ("coder", "()B"), ("isLatin1", "()Z"), ("checkIndex", "(II)V"), ("charAt", "([BI)C"), ("checkIndex", "(IILjava/util/function/BiFunction;)I"), ("piece", "(LFourHands;[J)I"), ("law", "(LFourHands;[J)I"), ("hand", "(LFourHands;II[J)I"), ("note", "(LFourHands;II[J)I"), ("can", "(LFourHands;II[J)I"), ("reaches", "(LFourHands;II[J)I"), ("turn", "(LFourHands;I[J)I"), ("put", "(LFourHands;II[J)I"), ("rest", "(LFourHands;I[J)I"), ("bind", "(LFourHands;IZ[J)I"), ("strike", "(LFourHands;IZ[J)I"), ("shift", "(LFourHands;II[J)I"), ("slip", "(LFourHands;I[J)I"), ("swap", "(LFourHands;II)I"), ("of", "(LFourHands;I[J)I"), ("holds", "(LFourHands;II[J)I"), ("left", "(LFourHands;I[J)I"), ("go", "(LFourHands;I[J)I"), ("third", "(LFourHands;I[J)I"), ("hands", "(LFourHands;II[J)I"), ("better", "(LFourHands;I[J)I"), ("tune", "(LFourHands;IZ[J)I"), ("next", "(LFourHands;[J)I"), ("whose", "(LFourHands;Z[J)I"), ("ask", "(LFourHands;[J)I"), ("trade", "(LFourHands;II[J)I"), ("load", "(LFourHands;I[J)I"), ("sure", "(LFourHands;III[J)I"), ("doubt", "(LFourHands;I[J)I"), ("chance", "(LFourHands;IZ[J)I")]
def mNmT_9 : List (String × String) := [("worst", "(LFourHands;I[J)I"), ("rests", "(LFourHands;I[J)I"), ("span", "(LFourHands;I[J)I"), ("ahead", "(LFourHands;III[J)I"), ("trial", "(LFourHands;IZ[J)I"), ("bounds", "(LFourHands;IZ[J)I"), ("led", "(LFourHands;IZ[J)I"), ("log", "(LFourHands;II[J)I"), ("law", "([I)Z")]
def mNmT : List (List (String × String)) := [mNmT_0, mNmT_1, mNmT_2, mNmT_3, mNmT_4, mNmT_5, mNmT_6, mNmT_7, mNmT_8, mNmT_9]
def mNm (m : Nat) : String × String := (mNmT.getD (m / 40) []).getD (m % 40) ("", "")
def mY (m : Nat) : MethodName := ⟨cN (mOwn m), (mNm m).1, (mNm m).2⟩
def mCodeT_0 : List (ByteArray) := [prog_2_method_2_code, prog_2_method_3_code, prog_2_method_4_code, prog_2_method_5_code, prog_2_method_6_code, prog_3_method_2_code, prog_3_method_3_code, prog_3_method_4_code, prog_3_method_5_code, prog_3_method_6_code, prog_3_method_7_code, prog_3_method_8_code, prog_3_method_9_code, prog_4_method_2_code, prog_4_method_3_code, prog_4_method_4_code, prog_4_method_5_code, prog_4_method_6_code, prog_4_method_7_code, prog_5_method_2_code, prog_5_method_3_code, prog_5_method_4_code, prog_5_method_5_code, prog_5_method_6_code, prog_5_method_7_code, prog_5_method_8_code, prog_5_method_9_code, prog_6_method_2_code, prog_6_method_3_code, prog_6_method_4_code, prog_6_method_5_code, prog_6_method_6_code, prog_6_method_7_code, prog_6_method_8_code, prog_6_method_9_code, prog_6_method_10_code, prog_6_method_11_code, prog_7_method_2_code, prog_7_method_3_code, prog_7_method_4_code]
def mCodeT_1 : List (ByteArray) := [prog_8_method_2_code, prog_8_method_3_code, prog_8_method_4_code, prog_8_method_5_code, prog_8_method_6_code, prog_8_method_7_code, prog_9_method_2_code, prog_9_method_3_code, prog_9_method_4_code, prog_9_method_5_code, prog_9_method_6_code, prog_9_method_7_code, prog_9_method_8_code, prog_9_method_9_code, prog_9_method_10_code, prog_9_method_11_code, prog_9_method_12_code, prog_10_method_2_code, prog_10_method_3_code, prog_10_method_4_code, prog_10_method_5_code, prog_10_method_6_code, prog_10_method_7_code, prog_10_method_8_code, prog_10_method_9_code, prog_10_method_10_code, prog_10_method_11_code, prog_10_method_12_code, prog_10_method_13_code, prog_10_method_14_code, prog_10_method_15_code, prog_11_method_2_code, prog_11_method_3_code, prog_11_method_4_code, prog_11_method_5_code, prog_11_method_6_code, prog_12_method_2_code, prog_12_method_3_code, prog_12_method_4_code, prog_12_method_5_code]
def mCodeT_2 : List (ByteArray) := [prog_12_method_6_code, prog_12_method_7_code, prog_12_method_8_code, prog_12_method_9_code, prog_1_method_2_code, prog_1_method_3_code, prog_1_method_4_code, prog_1_method_5_code, prog_1_method_6_code, prog_1_method_7_code, prog_1_method_8_code, prog_1_method_9_code, prog_1_method_10_code, prog_1_method_11_code, prog_1_method_12_code, prog_1_method_13_code, prog_1_method_14_code, prog_1_method_15_code, prog_1_method_16_code, prog_1_method_17_code, prog_1_method_18_code, prog_1_method_19_code, prog_1_method_20_code, prog_1_method_21_code, prog_1_method_22_code, prog_1_method_23_code, prog_1_method_24_code, prog_1_method_25_code, prog_1_method_26_code, prog_1_method_27_code, prog_1_method_28_code, prog_1_method_29_code, prog_1_method_30_code, prog_1_method_31_code, prog_1_method_32_code, prog_1_method_33_code, prog_1_method_34_code, prog_1_method_35_code, prog_1_method_36_code, prog_1_method_37_code]
def mCodeT_3 : List (ByteArray) := [prog_1_method_38_code, prog_1_method_39_code, prog_1_method_40_code, prog_1_method_41_code, prog_1_method_42_code, prog_1_method_43_code, prog_1_method_44_code, prog_1_method_45_code, prog_1_method_46_code, prog_1_method_47_code, prog_1_method_48_code, prog_1_method_49_code, prog_1_method_50_code, prog_1_method_51_code, prog_1_method_52_code, prog_1_method_53_code, prog_1_method_54_code, prog_1_method_55_code, prog_1_method_56_code, prog_1_method_57_code, prog_1_method_58_code, prog_1_method_59_code, prog_1_method_60_code, prog_1_method_61_code, prog_1_method_62_code, prog_1_method_63_code, prog_1_method_64_code, prog_1_method_65_code, prog_1_method_66_code, prog_1_method_67_code, prog_1_method_68_code, prog_1_method_69_code, prog_1_method_70_code, prog_1_method_71_code, prog_1_method_72_code, prog_1_method_73_code, prog_1_method_74_code, prog_1_method_75_code, prog_1_method_76_code, prog_1_method_77_code]
def mCodeT_4 : List (ByteArray) := [prog_1_method_78_code, prog_1_method_79_code, prog_1_method_80_code, prog_1_method_81_code, prog_1_method_82_code, prog_1_method_83_code, prog_1_method_84_code, prog_14_method_2_code, prog_14_method_3_code, prog_14_method_4_code, prog_14_method_5_code, prog_14_method_6_code, prog_14_method_7_code, prog_14_method_8_code, prog_14_method_9_code, prog_14_method_10_code, prog_14_method_11_code, prog_14_method_12_code, prog_14_method_13_code, prog_14_method_14_code, prog_14_method_15_code, prog_14_method_16_code, prog_14_method_17_code, prog_14_method_18_code, prog_14_method_19_code, prog_14_method_20_code, prog_14_method_21_code, prog_14_method_22_code, prog_14_method_23_code, prog_14_method_24_code, prog_14_method_25_code, prog_14_method_26_code, prog_14_method_27_code, prog_14_method_28_code, prog_14_method_29_code, prog_14_method_30_code, prog_14_method_31_code, prog_14_method_32_code, prog_14_method_33_code, prog_14_method_34_code]
def mCodeT_5 : List (ByteArray) := [prog_14_method_35_code, prog_14_method_36_code, prog_14_method_37_code, prog_14_method_38_code, prog_14_method_39_code, prog_14_method_40_code, prog_14_method_41_code, prog_14_method_42_code, prog_14_method_43_code, prog_14_method_44_code, prog_14_method_45_code, prog_14_method_46_code, prog_14_method_47_code, prog_14_method_48_code, prog_14_method_49_code, prog_14_method_50_code, prog_14_method_51_code, prog_14_method_52_code, prog_14_method_53_code, prog_14_method_54_code, prog_14_method_55_code, prog_14_method_56_code, prog_14_method_57_code, prog_14_method_58_code, prog_14_method_59_code, prog_14_method_60_code, prog_14_method_61_code, prog_14_method_62_code, prog_14_method_63_code, prog_14_method_64_code, prog_14_method_65_code, prog_14_method_66_code, prog_14_method_67_code, prog_14_method_68_code, prog_14_method_69_code, prog_14_method_70_code, prog_14_method_71_code, prog_14_method_72_code, prog_14_method_73_code, prog_14_method_74_code]
def mCodeT_6 : List (ByteArray) := [prog_14_method_75_code, prog_14_method_76_code, prog_14_method_77_code, prog_14_method_78_code, prog_14_method_79_code, prog_14_method_80_code, prog_14_method_81_code, prog_14_method_82_code, prog_14_method_83_code, prog_14_method_84_code, prog_14_method_85_code, prog_14_method_86_code, prog_14_method_87_code, prog_14_method_88_code, prog_14_method_89_code, prog_14_method_90_code, prog_14_method_91_code, prog_14_method_92_code, prog_14_method_93_code, prog_14_method_94_code, prog_14_method_95_code, prog_14_method_96_code, prog_14_method_97_code, prog_14_method_98_code, prog_14_method_99_code, prog_14_method_100_code, prog_14_method_101_code, prog_14_method_102_code, prog_14_method_103_code, prog_14_method_104_code, prog_14_method_105_code, prog_14_method_106_code, prog_14_method_107_code, prog_14_method_108_code, prog_14_method_109_code, prog_14_method_110_code, prog_14_method_111_code, prog_14_method_112_code, prog_14_method_113_code, prog_14_method_114_code]
def mCodeT_7 : List (ByteArray) := [prog_14_method_115_code, prog_14_method_116_code, prog_14_method_117_code, prog_14_method_118_code, prog_14_method_119_code, prog_14_method_120_code, prog_14_method_121_code, prog_14_method_122_code, prog_14_method_123_code, prog_14_method_124_code, prog_14_method_125_code, prog_14_method_126_code, prog_14_method_127_code, prog_14_method_128_code, prog_14_method_129_code, prog_14_method_130_code, prog_14_method_131_code, prog_14_method_132_code, prog_14_method_133_code, prog_14_method_134_code, prog_14_method_135_code, prog_14_method_136_code, prog_14_method_137_code, prog_14_method_138_code, prog_14_method_139_code, prog_14_method_140_code, prog_14_method_141_code, prog_14_method_142_code, prog_14_method_143_code, prog_14_method_144_code, prog_14_method_145_code, prog_14_method_146_code, prog_14_method_147_code, prog_22_method_47_code, prog_22_method_48_code, prog_22_method_49_code, prog_23_method_48_code, prog_23_method_49_code, prog_23_method_50_code, prog_24_method_50_code]
def mCodeT_8 : List (ByteArray) := [prog_24_method_59_code, prog_24_method_65_code, prog_24_method_69_code, prog_27_method_54_code, prog_27_method_56_code, prog_27_method_152_code, prog_27_method_154_code, prog_27_method_155_code, prog_28_method_2_code, prog_36_method_11_code, method_3_code, method_4_code, method_5_code, method_6_code, method_7_code, method_8_code, method_9_code, method_10_code, method_11_code, method_12_code, method_13_code, method_14_code, method_15_code, method_16_code, method_17_code, method_18_code, method_19_code, method_20_code, method_21_code, method_22_code, method_23_code, method_24_code, method_25_code, method_26_code, method_27_code, method_28_code, method_29_code, method_30_code, method_31_code, method_32_code]
def mCodeT_9 : List (ByteArray) := [method_33_code, method_34_code, method_35_code, method_36_code, method_37_code, method_38_code, method_39_code, method_40_code, code]
def mCodeT : List (List (ByteArray)) := [mCodeT_0, mCodeT_1, mCodeT_2, mCodeT_3, mCodeT_4, mCodeT_5, mCodeT_6, mCodeT_7, mCodeT_8, mCodeT_9]
def mCode (m : Nat) : ByteArray := (mCodeT.getD (m / 40) []).getD (m % 40) ⟨#[]⟩
def mRetT_0 : List (Option FieldType) := [none, some .boolean, some .boolean, none, some .int, none, none, none, none, some .boolean, some .int, some .boolean, none, some .boolean, some .boolean, some .boolean, some .boolean, some .boolean, some .boolean, some .int, some .int, some .int, some .int, none, some .int, some .int, some .boolean, none, none, some .int, some .int, some .int, some .int, some .int, some .int, some .int, some .int, none, some .boolean, none]
def mRetT_1 : List (Option FieldType) := [some .boolean, some .boolean, some .int, some .int, some .boolean, some .boolean, none, none, none, none, none, some .boolean, some .boolean, some .int, some .long, some .boolean, none, none, some .int, some .boolean, some .boolean, none, none, some .boolean, some .boolean, some .boolean, some .boolean, some .boolean, some .boolean, some .boolean, some .int, some .int, none, none, none, none, none, none, none, some .int]
def mRetT_2 : List (Option FieldType) := [some .boolean, some .int, none, some .int, some .int, some .boolean, some .int, some .int, some .int, some .int, some .int, some .boolean, some .int, some .int, some .int, some .int, some .boolean, some .boolean, some .int, some .int, none, some .int, some .int, some .int, some .int, some .int, some .int, some .int, some .boolean, some .int, some .int, some .int, some .int, some .int, some .int, some .int, some .int, some .int, some .int, some .int]
def mRetT_3 : List (Option FieldType) := [some .int, some .int, some .int, some .int, some .int, some .int, some .boolean, some .int, some .int, some .int, some .int, some .int, some .int, some .int, some .int, some .int, some .int, some .int, some .int, some .int, some .int, some .int, some .int, some .int, some .boolean, none, some .boolean, some .int, none, none, none, none, none, some .int, some .int, some .int, none, none, some .int, some .int]
def mRetT_4 : List (Option FieldType) := [some .int, some .int, some .int, some .boolean, some .boolean, some .int, some .int, some .int, some .boolean, some .int, some .int, some .boolean, some .int, some .int, none, some .int, some .boolean, some .boolean, some .boolean, some .boolean, some .boolean, some .int, some .boolean, some .int, some .boolean, some .int, none, some .boolean, some .boolean, none, some .int, some .int, some .int, none, some .boolean, none, none, none, none, some .int]
def mRetT_5 : List (Option FieldType) := [none, none, some .int, some .int, some .int, some .boolean, some .boolean, some .boolean, some .boolean, none, some .int, some .int, none, some .int, some .int, some .boolean, some .boolean, some .int, none, none, some .boolean, some .int, some .int, none, none, some .int, some .int, none, some .int, some .int, some .int, some .int, some .int, some .int, some .int, none, some .boolean, some .int, none, some .int]
def mRetT_6 : List (Option FieldType) := [some .int, some .int, some .int, some .boolean, some .boolean, some .int, some .int, none, some .int, some .int, some .int, some .int, some .int, some .int, some .int, some .int, some .int, some .boolean, some .int, some .int, some .int, some .int, some .int, some .int, some .int, some .int, some .int, some .int, some .int, some .int, some .boolean, some .int, some .int, some .int, some .boolean, some .int, some .boolean, some .int, some .int, some .int]
def mRetT_7 : List (Option FieldType) := [some .int, some .int, some .int, some .int, some .boolean, some .boolean, some .boolean, some .int, some .int, some .int, some .int, some .int, some .int, some .int, some .int, some .int, some .int, some .int, some .int, some .boolean, some .int, some .int, some .int, some .int, some .int, some .int, some .int, some .int, some .int, some .boolean, none, some .boolean, some .int, some .int, some .int, some .int, some .int, some .int, some .int, some .int]
def mRetT_8 : List (Option FieldType) := [some .int, some .int, some .int, some .int, some .char, some .byte, some .boolean, none, some .char, some .int, some .int, some .int, some .int, some .int, some .int, some .int, some .int, some .int, some .int, some .int, some .int, some .int, some .int, some .int, some .int, some .int, some .int, some .int, some .int, some .int, some .int, some .int, some .int, some .int, some .int, some .int, some .int, some .int, some .int, some .int]
def mRetT_9 : List (Option FieldType) := [some .int, some .int, some .int, some .int, some .int, some .int, some .int, some .int, some .boolean]
def mRetT : List (List (Option FieldType)) := [mRetT_0, mRetT_1, mRetT_2, mRetT_3, mRetT_4, mRetT_5, mRetT_6, mRetT_7, mRetT_8, mRetT_9]
def mRet (m : Nat) : Option FieldType := (mRetT.getD (m / 40) []).getD (m % 40) none
def mNpT : List Nat := [2, 5, 5, 4, 1, 1, 0, 1, 2, 3, 3, 2, 2, 0, 1, 1, 1, 1, 0, 2, 1, 1, 2, 1, 2, 2, 3, 1, 4, 1, 1, 1, 1, 1, 1, 1, 1, 1, 1, 0, 0, 0, 1, 2, 0, 0, 1, 1, 4, 3, 2, 1, 3, 1, 1, 0, 3, 1, 0, 1, 2, 0, 0, 0, 0, 1, 1, 0, 1, 1, 1, 2, 2, 1, 1, 1, 2, 2, 0, 2, 3, 3, 0, 2, 5, 1, 0, 0, 0, 2, 2, 2, 2, 1, 2, 1, 2, 2, 2, 1, 2, 1, 2, 1, 1, 1, 0, 0, 0, 2, 0, 0, 0, 0, 0, 1, 2, 1, 0, 0, 0, 0, 1, 0, 2, 1, 3, 1, 2, 0, 1, 1, 0, 1, 0, 0, 0, 0, 3, 2, 2, 2, 2, 1, 0, 0, 0, 1, 1, 1, 1, 1, 2, 3, 0, 1, 2, 0, 1, 2, 1, 2, 2, 2, 2, 2, 2, 0, 3, 2, 2, 2, 1, 2, 3, 2, 1, 1, 1, 1, 1, 1, 3, 5, 1, 1, 0, 1, 1, 1, 0, 2, 3, 1, 1, 1, 3, 0, 0, 1, 0, 0, 0, 0, 0, 0, 0, 0, 0, 0, 0, 0, 2, 3, 2, 3, 1, 0, 0, 1, 3, 3, 1, 1, 1, 0, 1, 3, 1, 1, 2, 1, 1, 2, 2, 2, 2, 2, 0, 1, 2, 2, 1, 2, 2, 2, 1, 2, 1, 2, 1, 1, 1, 1, 0, 0, 0, 0, 2, 0, 0, 0, 0, 1, 0, 1, 2, 2, 0, 1, 3, 0, 0, 0, 2, 0, 2, 0, 1, 0, 1, 2, 2, 1, 2, 2, 3, 1, 1, 2, 0, 1, 3, 3, 1, 0, 1, 0, 0, 0, 0, 0, 3, 2, 2, 2, 2, 2, 1, 0, 0, 0, 1, 1, 1, 1, 1, 1, 1, 2, 1, 2, 2, 0, 1, 0, 0, 2, 2, 3, 2, 2, 4, 4, 4, 4, 3, 4, 3, 4, 4, 4, 3, 3, 3, 4, 3, 3, 3, 4, 3, 4, 2, 3, 2, 4, 3, 5, 3, 4, 3, 3, 3, 5, 4, 4, 4, 4, 1]
def mNp (m : Nat) : Nat := mNpT.getD m 0
def mStT : List Bool := [false, false, true, false, false, false, false, false, false, false, false, false, false, false, false, false, false, false, false, false, false, false, false, false, false, false, false, false, false, false, true, true, true, true, false, false, false, false, false, false, false, false, false, false, false, false, false, false, false, false, false, false, false, false, false, false, false, false, false, false, false, false, false, false, false, false, false, false, false, false, false, false, false, false, false, true, false, false, false, false, false, false, false, false, false, false, false, false, false, false, false, false, false, false, false, false, false, false, false, false, false, false, false, false, false, false, false, false, false, false, false, false, false, false, false, false, false, false, false, false, false, false, false, false, false, false, false, false, false, false, false, false, false, false, false, false, false, false, false, false, false, false, false, false, false, false, false, false, false, false, true, true, true, true, false, false, false, false, true, false, false, false, false, false, false, true, true, false, true, true, true, true, true, false, false, false, false, false, true, true, false, false, false, false, false, false, false, false, false, false, false, false, false, false, false, false, false, false, false, false, false, false, false, false, false, false, false, false, false, false, false, false, false, false, false, false, false, false, false, false, false, false, false, false, false, false, false, false, false, false, false, false, false, false, false, false, false, false, false, false, false, false, false, false, false, false, false, false, false, false, false, false, false, false, false, false, false, false, false, false, false, false, false, false, false, false, false, false, false, false, false, false, false, false, false, false, false, false, false, false, false, false, false, false, false, false, false, false, false, false, false, false, true, true, false, false, false, false, false, false, false, false, false, false, false, false, false, false, false, false, false, false, false, true, true, true, true, true, true, true, true, true, true, false, false, false, false, true, true, true, true, true, true, true, true, true, true, true, true, true, true, true, true, true, true, true, true, true, true, true, true, true, true, true, true, true, true, true, true, true, true, true, true, true, true, true, true, true, true]
def mSt (m : Nat) : Bool := mStT.getD m false
def mHhT : List (Nat × List (Nat × Nat × Nat × Nat)) := [(330, [(0, 8, 11, 13), (0, 8, 14, 15)]), (331, [(0, 8, 11, 13)]), (332, [(0, 10, 13, 24), (0, 10, 17, 26)]), (333, [(0, 10, 13, 24), (0, 10, 17, 26)]), (334, [(0, 17, 20, 24)]), (335, [(0, 10, 13, 24)]), (336, [(0, 9, 12, 13)]), (337, [(0, 10, 13, 24)]), (338, [(0, 9, 12, 24)]), (339, [(0, 17, 20, 24)]), (340, [(0, 17, 20, 24), (0, 17, 24, 55)]), (341, [(0, 10, 13, 24), (0, 10, 17, 13), (0, 10, 21, 55)]), (342, [(0, 9, 12, 13)]), (343, [(0, 6, 9, 24), (0, 6, 12, 13)]), (344, [(0, 9, 12, 24)]), (345, [(0, 10, 13, 24)]), (346, [(0, 9, 12, 24)]), (347, [(0, 9, 12, 24)]), (348, [(0, 9, 12, 24)]), (349, [(0, 10, 13, 24), (0, 10, 17, 13)]), (350, [(0, 9, 12, 24), (0, 9, 15, 55)]), (351, [(0, 10, 13, 24)]), (352, [(0, 8, 11, 13)]), (353, [(0, 9, 12, 13)]), (354, [(0, 8, 11, 13)]), (355, [(0, 10, 13, 24), (0, 10, 17, 13)]), (356, [(0, 9, 12, 24)]), (357, [(0, 19, 22, 24), (0, 19, 26, 13)]), (358, [(0, 9, 12, 24)]), (359, [(0, 10, 13, 13)]), (360, [(0, 9, 12, 24)]), (361, [(0, 9, 12, 24)]), (362, [(0, 9, 12, 24)]), (363, [(0, 12, 15, 24), (0, 12, 19, 13), (0, 12, 23, 26)]), (364, [(0, 10, 13, 13)]), (365, [(0, 10, 13, 13)]), (366, [(0, 10, 13, 24)]), (367, [(0, 10, 13, 26)])]
def mHh (m : Nat) : List (Nat × Nat × Nat × Nat) := lkp [] m mHhT
theorem inT1 (w : Cond) (h : w ∈ tables_1_1) : w ∈ lw_tbl := List.mem_append_right _ (List.mem_append_left _ h)
theorem inT2 (w : Cond) (h : w ∈ tables_1_2) : w ∈ lw_tbl := List.mem_append_right _ (List.mem_append_right _ (List.mem_append_left _ h))
theorem inT3 (w : Cond) (h : w ∈ tables_1_3) : w ∈ lw_tbl := List.mem_append_right _ (List.mem_append_right _ (List.mem_append_right _ (List.mem_append_left _ h)))
theorem inT4 (w : Cond) (h : w ∈ tables_1_4) : w ∈ lw_tbl := List.mem_append_right _ (List.mem_append_right _ (List.mem_append_right _ (List.mem_append_right _ (List.mem_append_left _ h))))
theorem inT5 (w : Cond) (h : w ∈ tables_1_5) : w ∈ lw_tbl := List.mem_append_right _ (List.mem_append_right _ (List.mem_append_right _ (List.mem_append_right _ (List.mem_append_right _ (List.mem_append_left _ h)))))
theorem inT6 (w : Cond) (h : w ∈ tables_1_6) : w ∈ lw_tbl := List.mem_append_right _ (List.mem_append_right _ (List.mem_append_right _ (List.mem_append_right _ (List.mem_append_right _ (List.mem_append_right _ (List.mem_append_left _ h))))))
theorem inT7 (w : Cond) (h : w ∈ tables_1_7) : w ∈ lw_tbl := List.mem_append_right _ (List.mem_append_right _ (List.mem_append_right _ (List.mem_append_right _ (List.mem_append_right _ (List.mem_append_right _ (List.mem_append_right _ (List.mem_append_left _ h)))))))
theorem inT8 (w : Cond) (h : w ∈ tables_1_8) : w ∈ lw_tbl := List.mem_append_right _ (List.mem_append_right _ (List.mem_append_right _ (List.mem_append_right _ (List.mem_append_right _ (List.mem_append_right _ (List.mem_append_right _ (List.mem_append_right _ (List.mem_append_left _ h))))))))
theorem inT9 (w : Cond) (h : w ∈ tables_1_9) : w ∈ lw_tbl := List.mem_append_right _ (List.mem_append_right _ (List.mem_append_right _ (List.mem_append_right _ (List.mem_append_right _ (List.mem_append_right _ (List.mem_append_right _ (List.mem_append_right _ (List.mem_append_right _ (List.mem_append_left _ h)))))))))
theorem inT10 (w : Cond) (h : w ∈ tables_1_10) : w ∈ lw_tbl := List.mem_append_right _ (List.mem_append_right _ (List.mem_append_right _ (List.mem_append_right _ (List.mem_append_right _ (List.mem_append_right _ (List.mem_append_right _ (List.mem_append_right _ (List.mem_append_right _ (List.mem_append_right _ (h))))))))))
theorem inV1 (q : MethodName × Nat) (h : q ∈ lw_privs_1) : Cond.selects q.1.cls q.1 q.1 ∈ lw_tbl := List.mem_append_left _ (List.mem_map.mpr ⟨q, by simp only [lw_privs, List.mem_append]; simp only [h, true_or, or_true], rfl⟩)
theorem inV2 (q : MethodName × Nat) (h : q ∈ lw_privs_2) : Cond.selects q.1.cls q.1 q.1 ∈ lw_tbl := List.mem_append_left _ (List.mem_map.mpr ⟨q, by simp only [lw_privs, List.mem_append]; simp only [h, true_or, or_true], rfl⟩)
theorem inV3 (q : MethodName × Nat) (h : q ∈ lw_privs_3) : Cond.selects q.1.cls q.1 q.1 ∈ lw_tbl := List.mem_append_left _ (List.mem_map.mpr ⟨q, by simp only [lw_privs, List.mem_append]; simp only [h, true_or, or_true], rfl⟩)
theorem inV4 (q : MethodName × Nat) (h : q ∈ lw_privs_4) : Cond.selects q.1.cls q.1 q.1 ∈ lw_tbl := List.mem_append_left _ (List.mem_map.mpr ⟨q, by simp only [lw_privs, List.mem_append]; simp only [h, true_or, or_true], rfl⟩)
theorem inV5 (q : MethodName × Nat) (h : q ∈ lw_privs_5) : Cond.selects q.1.cls q.1 q.1 ∈ lw_tbl := List.mem_append_left _ (List.mem_map.mpr ⟨q, by simp only [lw_privs, List.mem_append]; simp only [h, true_or, or_true], rfl⟩)
theorem inV6 (q : MethodName × Nat) (h : q ∈ lw_privs_6) : Cond.selects q.1.cls q.1 q.1 ∈ lw_tbl := List.mem_append_left _ (List.mem_map.mpr ⟨q, by simp only [lw_privs, List.mem_append]; simp only [h, true_or, or_true], rfl⟩)
theorem inV7 (q : MethodName × Nat) (h : q ∈ lw_privs_7) : Cond.selects q.1.cls q.1 q.1 ∈ lw_tbl := List.mem_append_left _ (List.mem_map.mpr ⟨q, by simp only [lw_privs, List.mem_append]; simp only [h, true_or, or_true], rfl⟩)
theorem inV8 (q : MethodName × Nat) (h : q ∈ lw_privs_8) : Cond.selects q.1.cls q.1 q.1 ∈ lw_tbl := List.mem_append_left _ (List.mem_map.mpr ⟨q, by simp only [lw_privs, List.mem_append]; simp only [h, true_or, or_true], rfl⟩)
def mOk (m : Nat) : Prop := (if mHh m = [] then Cond.code (mY m) (mCode m) (mLoc m) (mRet m) else Cond.codeWith (mY m) (mCode m) (mLoc m) (mRet m) (mHh m)) ∈ lw_tbl ∧ Cond.initialized (mY m).cls ∈ lw_tbl ∧ (if mSt m = true then Cond.static (mY m) ∈ lw_tbl else Cond.instanceMethod (mY m) ∈ lw_tbl ∧ Cond.selects (mY m).cls (mY m) (mY m) ∈ lw_tbl) ∧ ((mY m).cls ≠ "java/lang/invoke/MethodHandle" ∧ (mY m).cls ≠ "java/lang/invoke/VarHandle" ∧ (parseMethodDescriptor (mY m).desc).map (fun d => d.parameters.length) = some (mNp m)) ∧ plainFor (mY m) = true
set_option maxRecDepth 20000 in
theorem mok_0 : mOk 0 := ⟨inT6 _ (List.mem_of_getElem? (i := 174) rfl), inT1 _ (List.mem_of_getElem? (i := 12) rfl), ⟨inT6 _ (List.mem_of_getElem? (i := 172) rfl), inT6 _ (List.mem_of_getElem? (i := 173) rfl)⟩, ⟨by decide +kernel, by decide +kernel, by decide +kernel⟩, by decide +kernel⟩
set_option maxRecDepth 20000 in
theorem mok_1 : mOk 1 := ⟨inT6 _ (List.mem_of_getElem? (i := 178) rfl), inT1 _ (List.mem_of_getElem? (i := 12) rfl), ⟨inT6 _ (List.mem_of_getElem? (i := 177) rfl), inV3 _ (List.mem_of_getElem? (i := 2) rfl)⟩, ⟨by decide +kernel, by decide +kernel, by decide +kernel⟩, by decide +kernel⟩
set_option maxRecDepth 20000 in
theorem mok_2 : mOk 2 := ⟨inT6 _ (List.mem_of_getElem? (i := 181) rfl), inT1 _ (List.mem_of_getElem? (i := 12) rfl), inT6 _ (List.mem_of_getElem? (i := 180) rfl), ⟨by decide +kernel, by decide +kernel, by decide +kernel⟩, by decide +kernel⟩
set_option maxRecDepth 20000 in
theorem mok_3 : mOk 3 := ⟨inT6 _ (List.mem_of_getElem? (i := 185) rfl), inT1 _ (List.mem_of_getElem? (i := 12) rfl), ⟨inT6 _ (List.mem_of_getElem? (i := 184) rfl), inV3 _ (List.mem_of_getElem? (i := 3) rfl)⟩, ⟨by decide +kernel, by decide +kernel, by decide +kernel⟩, by decide +kernel⟩
set_option maxRecDepth 20000 in
theorem mok_4 : mOk 4 := ⟨inT6 _ (List.mem_of_getElem? (i := 197) rfl), inT1 _ (List.mem_of_getElem? (i := 12) rfl), ⟨inT6 _ (List.mem_of_getElem? (i := 195) rfl), inT6 _ (List.mem_of_getElem? (i := 196) rfl)⟩, ⟨by decide +kernel, by decide +kernel, by decide +kernel⟩, by decide +kernel⟩
set_option maxRecDepth 20000 in
theorem mok_5 : mOk 5 := ⟨inT4 _ (List.mem_of_getElem? (i := 43) rfl), inT1 _ (List.mem_of_getElem? (i := 6) rfl), ⟨inT4 _ (List.mem_of_getElem? (i := 41) rfl), inT4 _ (List.mem_of_getElem? (i := 42) rfl)⟩, ⟨by decide +kernel, by decide +kernel, by decide +kernel⟩, by decide +kernel⟩
set_option maxRecDepth 20000 in
theorem mok_6 : mOk 6 := ⟨inT5 _ (List.mem_of_getElem? (i := 60) rfl), inT1 _ (List.mem_of_getElem? (i := 6) rfl), ⟨inT5 _ (List.mem_of_getElem? (i := 58) rfl), inT5 _ (List.mem_of_getElem? (i := 59) rfl)⟩, ⟨by decide +kernel, by decide +kernel, by decide +kernel⟩, by decide +kernel⟩
set_option maxRecDepth 20000 in
theorem mok_7 : mOk 7 := ⟨inT5 _ (List.mem_of_getElem? (i := 74) rfl), inT1 _ (List.mem_of_getElem? (i := 6) rfl), ⟨inT5 _ (List.mem_of_getElem? (i := 72) rfl), inT5 _ (List.mem_of_getElem? (i := 73) rfl)⟩, ⟨by decide +kernel, by decide +kernel, by decide +kernel⟩, by decide +kernel⟩
set_option maxRecDepth 20000 in
theorem mok_8 : mOk 8 := ⟨inT5 _ (List.mem_of_getElem? (i := 116) rfl), inT1 _ (List.mem_of_getElem? (i := 6) rfl), ⟨inT5 _ (List.mem_of_getElem? (i := 114) rfl), inT5 _ (List.mem_of_getElem? (i := 115) rfl)⟩, ⟨by decide +kernel, by decide +kernel, by decide +kernel⟩, by decide +kernel⟩
set_option maxRecDepth 20000 in
theorem mok_9 : mOk 9 := ⟨inT3 _ (List.mem_of_getElem? (i := 49) rfl), inT1 _ (List.mem_of_getElem? (i := 6) rfl), ⟨inT3 _ (List.mem_of_getElem? (i := 47) rfl), inT3 _ (List.mem_of_getElem? (i := 48) rfl)⟩, ⟨by decide +kernel, by decide +kernel, by decide +kernel⟩, by decide +kernel⟩
set_option maxRecDepth 20000 in
theorem mok_10 : mOk 10 := ⟨inT3 _ (List.mem_of_getElem? (i := 57) rfl), inT1 _ (List.mem_of_getElem? (i := 6) rfl), ⟨inT3 _ (List.mem_of_getElem? (i := 55) rfl), inT3 _ (List.mem_of_getElem? (i := 56) rfl)⟩, ⟨by decide +kernel, by decide +kernel, by decide +kernel⟩, by decide +kernel⟩
set_option maxRecDepth 20000 in
theorem mok_11 : mOk 11 := ⟨inT3 _ (List.mem_of_getElem? (i := 125) rfl), inT1 _ (List.mem_of_getElem? (i := 6) rfl), ⟨inT3 _ (List.mem_of_getElem? (i := 123) rfl), inT3 _ (List.mem_of_getElem? (i := 124) rfl)⟩, ⟨by decide +kernel, by decide +kernel, by decide +kernel⟩, by decide +kernel⟩
set_option maxRecDepth 20000 in
theorem mok_12 : mOk 12 := ⟨inT3 _ (List.mem_of_getElem? (i := 61) rfl), inT1 _ (List.mem_of_getElem? (i := 6) rfl), ⟨inT3 _ (List.mem_of_getElem? (i := 60) rfl), inV1 _ (List.mem_of_getElem? (i := 3) rfl)⟩, ⟨by decide +kernel, by decide +kernel, by decide +kernel⟩, by decide +kernel⟩
set_option maxRecDepth 20000 in
theorem mok_13 : mOk 13 := ⟨inT5 _ (List.mem_of_getElem? (i := 56) rfl), inT1 _ (List.mem_of_getElem? (i := 8) rfl), ⟨inT5 _ (List.mem_of_getElem? (i := 54) rfl), inT5 _ (List.mem_of_getElem? (i := 55) rfl)⟩, ⟨by decide +kernel, by decide +kernel, by decide +kernel⟩, by decide +kernel⟩
set_option maxRecDepth 20000 in
theorem mok_14 : mOk 14 := ⟨inT5 _ (List.mem_of_getElem? (i := 78) rfl), inT1 _ (List.mem_of_getElem? (i := 8) rfl), ⟨inT5 _ (List.mem_of_getElem? (i := 77) rfl), inV2 _ (List.mem_of_getElem? (i := 9) rfl)⟩, ⟨by decide +kernel, by decide +kernel, by decide +kernel⟩, by decide +kernel⟩
set_option maxRecDepth 20000 in
theorem mok_15 : mOk 15 := ⟨inT5 _ (List.mem_of_getElem? (i := 82) rfl), inT1 _ (List.mem_of_getElem? (i := 8) rfl), ⟨inT5 _ (List.mem_of_getElem? (i := 81) rfl), inV2 _ (List.mem_of_getElem? (i := 10) rfl)⟩, ⟨by decide +kernel, by decide +kernel, by decide +kernel⟩, by decide +kernel⟩
set_option maxRecDepth 20000 in
theorem mok_16 : mOk 16 := ⟨inT5 _ (List.mem_of_getElem? (i := 86) rfl), inT1 _ (List.mem_of_getElem? (i := 8) rfl), ⟨inT5 _ (List.mem_of_getElem? (i := 85) rfl), inV2 _ (List.mem_of_getElem? (i := 11) rfl)⟩, ⟨by decide +kernel, by decide +kernel, by decide +kernel⟩, by decide +kernel⟩
set_option maxRecDepth 20000 in
theorem mok_17 : mOk 17 := ⟨inT5 _ (List.mem_of_getElem? (i := 92) rfl), inT1 _ (List.mem_of_getElem? (i := 8) rfl), ⟨inT5 _ (List.mem_of_getElem? (i := 91) rfl), inV2 _ (List.mem_of_getElem? (i := 12) rfl)⟩, ⟨by decide +kernel, by decide +kernel, by decide +kernel⟩, by decide +kernel⟩
set_option maxRecDepth 20000 in
theorem mok_18 : mOk 18 := ⟨inT5 _ (List.mem_of_getElem? (i := 99) rfl), inT1 _ (List.mem_of_getElem? (i := 8) rfl), ⟨inT5 _ (List.mem_of_getElem? (i := 98) rfl), inV2 _ (List.mem_of_getElem? (i := 13) rfl)⟩, ⟨by decide +kernel, by decide +kernel, by decide +kernel⟩, by decide +kernel⟩
set_option maxRecDepth 20000 in
theorem mok_19 : mOk 19 := ⟨inT3 _ (List.mem_of_getElem? (i := 146) rfl), inT1 _ (List.mem_of_getElem? (i := 11) rfl), ⟨inT3 _ (List.mem_of_getElem? (i := 144) rfl), inT3 _ (List.mem_of_getElem? (i := 145) rfl)⟩, ⟨by decide +kernel, by decide +kernel, by decide +kernel⟩, by decide +kernel⟩
set_option maxRecDepth 20000 in
theorem mok_20 : mOk 20 := ⟨inT3 _ (List.mem_of_getElem? (i := 192) rfl), inT1 _ (List.mem_of_getElem? (i := 11) rfl), ⟨inT3 _ (List.mem_of_getElem? (i := 190) rfl), inT3 _ (List.mem_of_getElem? (i := 191) rfl)⟩, ⟨by decide +kernel, by decide +kernel, by decide +kernel⟩, by decide +kernel⟩
set_option maxRecDepth 20000 in
theorem mok_21 : mOk 21 := ⟨inT3 _ (List.mem_of_getElem? (i := 177) rfl), inT1 _ (List.mem_of_getElem? (i := 11) rfl), ⟨inT3 _ (List.mem_of_getElem? (i := 175) rfl), inT3 _ (List.mem_of_getElem? (i := 176) rfl)⟩, ⟨by decide +kernel, by decide +kernel, by decide +kernel⟩, by decide +kernel⟩
set_option maxRecDepth 20000 in
theorem mok_22 : mOk 22 := ⟨inT6 _ (List.mem_of_getElem? (i := 122) rfl), inT1 _ (List.mem_of_getElem? (i := 11) rfl), ⟨inT6 _ (List.mem_of_getElem? (i := 120) rfl), inT6 _ (List.mem_of_getElem? (i := 121) rfl)⟩, ⟨by decide +kernel, by decide +kernel, by decide +kernel⟩, by decide +kernel⟩
set_option maxRecDepth 20000 in
theorem mok_23 : mOk 23 := ⟨inT3 _ (List.mem_of_getElem? (i := 150) rfl), inT1 _ (List.mem_of_getElem? (i := 11) rfl), ⟨inT3 _ (List.mem_of_getElem? (i := 149) rfl), inV1 _ (List.mem_of_getElem? (i := 13) rfl)⟩, ⟨by decide +kernel, by decide +kernel, by decide +kernel⟩, by decide +kernel⟩
set_option maxRecDepth 20000 in
theorem mok_24 : mOk 24 := ⟨inT3 _ (List.mem_of_getElem? (i := 154) rfl), inT1 _ (List.mem_of_getElem? (i := 11) rfl), ⟨inT3 _ (List.mem_of_getElem? (i := 153) rfl), inV1 _ (List.mem_of_getElem? (i := 14) rfl)⟩, ⟨by decide +kernel, by decide +kernel, by decide +kernel⟩, by decide +kernel⟩
set_option maxRecDepth 20000 in
theorem mok_25 : mOk 25 := ⟨inT3 _ (List.mem_of_getElem? (i := 159) rfl), inT1 _ (List.mem_of_getElem? (i := 11) rfl), ⟨inT3 _ (List.mem_of_getElem? (i := 158) rfl), inV1 _ (List.mem_of_getElem? (i := 15) rfl)⟩, ⟨by decide +kernel, by decide +kernel, by decide +kernel⟩, by decide +kernel⟩
set_option maxRecDepth 20000 in
theorem mok_26 : mOk 26 := ⟨inT3 _ (List.mem_of_getElem? (i := 164) rfl), inT1 _ (List.mem_of_getElem? (i := 11) rfl), ⟨inT3 _ (List.mem_of_getElem? (i := 163) rfl), inV2 _ (List.mem_of_getElem? (i := 0) rfl)⟩, ⟨by decide +kernel, by decide +kernel, by decide +kernel⟩, by decide +kernel⟩
set_option maxRecDepth 20000 in
theorem mok_27 : mOk 27 := ⟨inT3 _ (List.mem_of_getElem? (i := 31) rfl), inT1 _ (List.mem_of_getElem? (i := 4) rfl), ⟨inT3 _ (List.mem_of_getElem? (i := 29) rfl), inT3 _ (List.mem_of_getElem? (i := 30) rfl)⟩, ⟨by decide +kernel, by decide +kernel, by decide +kernel⟩, by decide +kernel⟩
set_option maxRecDepth 20000 in
theorem mok_28 : mOk 28 := ⟨inT3 _ (List.mem_of_getElem? (i := 110) rfl), inT1 _ (List.mem_of_getElem? (i := 4) rfl), ⟨inT3 _ (List.mem_of_getElem? (i := 108) rfl), inT3 _ (List.mem_of_getElem? (i := 109) rfl)⟩, ⟨by decide +kernel, by decide +kernel, by decide +kernel⟩, by decide +kernel⟩
set_option maxRecDepth 20000 in
theorem mok_29 : mOk 29 := ⟨inT5 _ (List.mem_of_getElem? (i := 155) rfl), inT1 _ (List.mem_of_getElem? (i := 4) rfl), ⟨inT5 _ (List.mem_of_getElem? (i := 153) rfl), inT5 _ (List.mem_of_getElem? (i := 154) rfl)⟩, ⟨by decide +kernel, by decide +kernel, by decide +kernel⟩, by decide +kernel⟩
set_option maxRecDepth 20000 in
theorem mok_30 : mOk 30 := ⟨inT7 _ (List.mem_of_getElem? (i := 99) rfl), inT1 _ (List.mem_of_getElem? (i := 4) rfl), inT7 _ (List.mem_of_getElem? (i := 98) rfl), ⟨by decide +kernel, by decide +kernel, by decide +kernel⟩, by decide +kernel⟩
set_option maxRecDepth 20000 in
theorem mok_31 : mOk 31 := ⟨inT7 _ (List.mem_of_getElem? (i := 83) rfl), inT1 _ (List.mem_of_getElem? (i := 4) rfl), inT7 _ (List.mem_of_getElem? (i := 82) rfl), ⟨by decide +kernel, by decide +kernel, by decide +kernel⟩, by decide +kernel⟩
set_option maxRecDepth 20000 in
theorem mok_32 : mOk 32 := ⟨inT5 _ (List.mem_of_getElem? (i := 164) rfl), inT1 _ (List.mem_of_getElem? (i := 4) rfl), inT5 _ (List.mem_of_getElem? (i := 163) rfl), ⟨by decide +kernel, by decide +kernel, by decide +kernel⟩, by decide +kernel⟩
set_option maxRecDepth 20000 in
theorem mok_33 : mOk 33 := ⟨inT5 _ (List.mem_of_getElem? (i := 161) rfl), inT1 _ (List.mem_of_getElem? (i := 4) rfl), inT5 _ (List.mem_of_getElem? (i := 160) rfl), ⟨by decide +kernel, by decide +kernel, by decide +kernel⟩, by decide +kernel⟩
set_option maxRecDepth 20000 in
theorem mok_34 : mOk 34 := ⟨inT5 _ (List.mem_of_getElem? (i := 151) rfl), inT1 _ (List.mem_of_getElem? (i := 4) rfl), ⟨inT5 _ (List.mem_of_getElem? (i := 149) rfl), inT5 _ (List.mem_of_getElem? (i := 150) rfl)⟩, ⟨by decide +kernel, by decide +kernel, by decide +kernel⟩, by decide +kernel⟩
set_option maxRecDepth 20000 in
theorem mok_35 : mOk 35 := ⟨inT7 _ (List.mem_of_getElem? (i := 87) rfl), inT1 _ (List.mem_of_getElem? (i := 4) rfl), ⟨inT7 _ (List.mem_of_getElem? (i := 85) rfl), inT7 _ (List.mem_of_getElem? (i := 86) rfl)⟩, ⟨by decide +kernel, by decide +kernel, by decide +kernel⟩, by decide +kernel⟩
set_option maxRecDepth 20000 in
theorem mok_36 : mOk 36 := ⟨inT7 _ (List.mem_of_getElem? (i := 80) rfl), inT1 _ (List.mem_of_getElem? (i := 4) rfl), ⟨inT7 _ (List.mem_of_getElem? (i := 78) rfl), inT7 _ (List.mem_of_getElem? (i := 79) rfl)⟩, ⟨by decide +kernel, by decide +kernel, by decide +kernel⟩, by decide +kernel⟩
set_option maxRecDepth 20000 in
theorem mok_37 : mOk 37 := ⟨inT5 _ (List.mem_of_getElem? (i := 226) rfl), inT1 _ (List.mem_of_getElem? (i := 5) rfl), ⟨inT5 _ (List.mem_of_getElem? (i := 224) rfl), inT5 _ (List.mem_of_getElem? (i := 225) rfl)⟩, ⟨by decide +kernel, by decide +kernel, by decide +kernel⟩, by decide +kernel⟩
set_option maxRecDepth 20000 in
theorem mok_38 : mOk 38 := ⟨inT4 _ (List.mem_of_getElem? (i := 34) rfl), inT1 _ (List.mem_of_getElem? (i := 5) rfl), ⟨inT4 _ (List.mem_of_getElem? (i := 32) rfl), inT4 _ (List.mem_of_getElem? (i := 33) rfl)⟩, ⟨by decide +kernel, by decide +kernel, by decide +kernel⟩, by decide +kernel⟩
set_option maxRecDepth 20000 in
theorem mok_39 : mOk 39 := ⟨inT4 _ (List.mem_of_getElem? (i := 52) rfl), inT1 _ (List.mem_of_getElem? (i := 5) rfl), ⟨inT4 _ (List.mem_of_getElem? (i := 50) rfl), inT4 _ (List.mem_of_getElem? (i := 51) rfl)⟩, ⟨by decide +kernel, by decide +kernel, by decide +kernel⟩, by decide +kernel⟩
set_option maxRecDepth 20000 in
theorem mok_40 : mOk 40 := ⟨inT4 _ (List.mem_of_getElem? (i := 69) rfl), inT1 _ (List.mem_of_getElem? (i := 7) rfl), ⟨inT4 _ (List.mem_of_getElem? (i := 67) rfl), inT4 _ (List.mem_of_getElem? (i := 68) rfl)⟩, ⟨by decide +kernel, by decide +kernel, by decide +kernel⟩, by decide +kernel⟩
set_option maxRecDepth 20000 in
theorem mok_41 : mOk 41 := ⟨inT4 _ (List.mem_of_getElem? (i := 89) rfl), inT1 _ (List.mem_of_getElem? (i := 7) rfl), ⟨inT4 _ (List.mem_of_getElem? (i := 88) rfl), inV2 _ (List.mem_of_getElem? (i := 3) rfl)⟩, ⟨by decide +kernel, by decide +kernel, by decide +kernel⟩, by decide +kernel⟩
set_option maxRecDepth 20000 in
theorem mok_42 : mOk 42 := ⟨inT4 _ (List.mem_of_getElem? (i := 178) rfl), inT1 _ (List.mem_of_getElem? (i := 7) rfl), ⟨inT4 _ (List.mem_of_getElem? (i := 177) rfl), inV2 _ (List.mem_of_getElem? (i := 7) rfl)⟩, ⟨by decide +kernel, by decide +kernel, by decide +kernel⟩, by decide +kernel⟩
set_option maxRecDepth 20000 in
theorem mok_43 : mOk 43 := ⟨inT4 _ (List.mem_of_getElem? (i := 152) rfl), inT1 _ (List.mem_of_getElem? (i := 7) rfl), ⟨inT4 _ (List.mem_of_getElem? (i := 151) rfl), inV2 _ (List.mem_of_getElem? (i := 5) rfl)⟩, ⟨by decide +kernel, by decide +kernel, by decide +kernel⟩, by decide +kernel⟩
set_option maxRecDepth 20000 in
theorem mok_44 : mOk 44 := ⟨inT4 _ (List.mem_of_getElem? (i := 146) rfl), inT1 _ (List.mem_of_getElem? (i := 7) rfl), ⟨inT4 _ (List.mem_of_getElem? (i := 145) rfl), inV2 _ (List.mem_of_getElem? (i := 4) rfl)⟩, ⟨by decide +kernel, by decide +kernel, by decide +kernel⟩, by decide +kernel⟩
set_option maxRecDepth 20000 in
theorem mok_45 : mOk 45 := ⟨inT4 _ (List.mem_of_getElem? (i := 174) rfl), inT1 _ (List.mem_of_getElem? (i := 7) rfl), ⟨inT4 _ (List.mem_of_getElem? (i := 173) rfl), inV2 _ (List.mem_of_getElem? (i := 6) rfl)⟩, ⟨by decide +kernel, by decide +kernel, by decide +kernel⟩, by decide +kernel⟩
set_option maxRecDepth 20000 in
theorem mok_46 : mOk 46 := ⟨inT3 _ (List.mem_of_getElem? (i := 20) rfl), inT1 _ (List.mem_of_getElem? (i := 3) rfl), ⟨inT3 _ (List.mem_of_getElem? (i := 18) rfl), inT3 _ (List.mem_of_getElem? (i := 19) rfl)⟩, ⟨by decide +kernel, by decide +kernel, by decide +kernel⟩, by decide +kernel⟩
set_option maxRecDepth 20000 in
theorem mok_47 : mOk 47 := ⟨inT3 _ (List.mem_of_getElem? (i := 24) rfl), inT1 _ (List.mem_of_getElem? (i := 3) rfl), ⟨inT3 _ (List.mem_of_getElem? (i := 23) rfl), inV1 _ (List.mem_of_getElem? (i := 1) rfl)⟩, ⟨by decide +kernel, by decide +kernel, by decide +kernel⟩, by decide +kernel⟩
set_option maxRecDepth 20000 in
theorem mok_48 : mOk 48 := ⟨inT3 _ (List.mem_of_getElem? (i := 181) rfl), inT1 _ (List.mem_of_getElem? (i := 3) rfl), ⟨inT3 _ (List.mem_of_getElem? (i := 179) rfl), inT3 _ (List.mem_of_getElem? (i := 180) rfl)⟩, ⟨by decide +kernel, by decide +kernel, by decide +kernel⟩, by decide +kernel⟩
set_option maxRecDepth 20000 in
theorem mok_49 : mOk 49 := ⟨inT4 _ (List.mem_of_getElem? (i := 187) rfl), inT1 _ (List.mem_of_getElem? (i := 3) rfl), ⟨inT4 _ (List.mem_of_getElem? (i := 185) rfl), inT4 _ (List.mem_of_getElem? (i := 186) rfl)⟩, ⟨by decide +kernel, by decide +kernel, by decide +kernel⟩, by decide +kernel⟩
set_option maxRecDepth 20000 in
theorem mok_50 : mOk 50 := ⟨inT6 _ (List.mem_of_getElem? (i := 67) rfl), inT1 _ (List.mem_of_getElem? (i := 3) rfl), ⟨inT6 _ (List.mem_of_getElem? (i := 65) rfl), inT6 _ (List.mem_of_getElem? (i := 66) rfl)⟩, ⟨by decide +kernel, by decide +kernel, by decide +kernel⟩, by decide +kernel⟩
set_option maxRecDepth 20000 in
theorem mok_51 : mOk 51 := ⟨inT3 _ (List.mem_of_getElem? (i := 2) rfl), inT1 _ (List.mem_of_getElem? (i := 3) rfl), ⟨inT3 _ (List.mem_of_getElem? (i := 0) rfl), inT3 _ (List.mem_of_getElem? (i := 1) rfl)⟩, ⟨by decide +kernel, by decide +kernel, by decide +kernel⟩, by decide +kernel⟩
set_option maxRecDepth 20000 in
theorem mok_52 : mOk 52 := ⟨inT4 _ (List.mem_of_getElem? (i := 182) rfl), inT1 _ (List.mem_of_getElem? (i := 3) rfl), ⟨inT4 _ (List.mem_of_getElem? (i := 180) rfl), inT4 _ (List.mem_of_getElem? (i := 181) rfl)⟩, ⟨by decide +kernel, by decide +kernel, by decide +kernel⟩, by decide +kernel⟩
set_option maxRecDepth 20000 in
theorem mok_53 : mOk 53 := ⟨inT2 _ (List.mem_of_getElem? (i := 238) rfl), inT1 _ (List.mem_of_getElem? (i := 3) rfl), ⟨inT2 _ (List.mem_of_getElem? (i := 236) rfl), inT2 _ (List.mem_of_getElem? (i := 237) rfl)⟩, ⟨by decide +kernel, by decide +kernel, by decide +kernel⟩, by decide +kernel⟩
set_option maxRecDepth 20000 in
theorem mok_54 : mOk 54 := ⟨inT3 _ (List.mem_of_getElem? (i := 204) rfl), inT1 _ (List.mem_of_getElem? (i := 3) rfl), ⟨inT3 _ (List.mem_of_getElem? (i := 202) rfl), inT3 _ (List.mem_of_getElem? (i := 203) rfl)⟩, ⟨by decide +kernel, by decide +kernel, by decide +kernel⟩, by decide +kernel⟩
set_option maxRecDepth 20000 in
theorem mok_55 : mOk 55 := ⟨inT3 _ (List.mem_of_getElem? (i := 98) rfl), inT1 _ (List.mem_of_getElem? (i := 3) rfl), ⟨inT3 _ (List.mem_of_getElem? (i := 96) rfl), inT3 _ (List.mem_of_getElem? (i := 97) rfl)⟩, ⟨by decide +kernel, by decide +kernel, by decide +kernel⟩, by decide +kernel⟩
set_option maxRecDepth 20000 in
theorem mok_56 : mOk 56 := ⟨inT3 _ (List.mem_of_getElem? (i := 103) rfl), inT1 _ (List.mem_of_getElem? (i := 3) rfl), ⟨inT3 _ (List.mem_of_getElem? (i := 101) rfl), inT3 _ (List.mem_of_getElem? (i := 102) rfl)⟩, ⟨by decide +kernel, by decide +kernel, by decide +kernel⟩, by decide +kernel⟩
set_option maxRecDepth 20000 in
theorem mok_57 : mOk 57 := ⟨inT2 _ (List.mem_of_getElem? (i := 222) rfl), inT1 _ (List.mem_of_getElem? (i := 2) rfl), ⟨inT2 _ (List.mem_of_getElem? (i := 220) rfl), inT2 _ (List.mem_of_getElem? (i := 221) rfl)⟩, ⟨by decide +kernel, by decide +kernel, by decide +kernel⟩, by decide +kernel⟩
set_option maxRecDepth 20000 in
theorem mok_58 : mOk 58 := ⟨inT4 _ (List.mem_of_getElem? (i := 77) rfl), inT1 _ (List.mem_of_getElem? (i := 2) rfl), ⟨inT4 _ (List.mem_of_getElem? (i := 75) rfl), inT4 _ (List.mem_of_getElem? (i := 76) rfl)⟩, ⟨by decide +kernel, by decide +kernel, by decide +kernel⟩, by decide +kernel⟩
set_option maxRecDepth 20000 in
theorem mok_59 : mOk 59 := ⟨inT6 _ (List.mem_of_getElem? (i := 148) rfl), inT1 _ (List.mem_of_getElem? (i := 2) rfl), ⟨inT6 _ (List.mem_of_getElem? (i := 146) rfl), inT6 _ (List.mem_of_getElem? (i := 147) rfl)⟩, ⟨by decide +kernel, by decide +kernel, by decide +kernel⟩, by decide +kernel⟩
set_option maxRecDepth 20000 in
theorem mok_60 : mOk 60 := ⟨inT6 _ (List.mem_of_getElem? (i := 169) rfl), inT1 _ (List.mem_of_getElem? (i := 2) rfl), ⟨inT6 _ (List.mem_of_getElem? (i := 167) rfl), inT6 _ (List.mem_of_getElem? (i := 168) rfl)⟩, ⟨by decide +kernel, by decide +kernel, by decide +kernel⟩, by decide +kernel⟩
set_option maxRecDepth 20000 in
theorem mok_61 : mOk 61 := ⟨inT4 _ (List.mem_of_getElem? (i := 73) rfl), inT1 _ (List.mem_of_getElem? (i := 2) rfl), ⟨inT4 _ (List.mem_of_getElem? (i := 71) rfl), inT4 _ (List.mem_of_getElem? (i := 72) rfl)⟩, ⟨by decide +kernel, by decide +kernel, by decide +kernel⟩, by decide +kernel⟩
set_option maxRecDepth 20000 in
theorem mok_62 : mOk 62 := ⟨inT4 _ (List.mem_of_getElem? (i := 81) rfl), inT1 _ (List.mem_of_getElem? (i := 2) rfl), ⟨inT4 _ (List.mem_of_getElem? (i := 79) rfl), inT4 _ (List.mem_of_getElem? (i := 80) rfl)⟩, ⟨by decide +kernel, by decide +kernel, by decide +kernel⟩, by decide +kernel⟩
set_option maxRecDepth 20000 in
theorem mok_63 : mOk 63 := ⟨inT4 _ (List.mem_of_getElem? (i := 85) rfl), inT1 _ (List.mem_of_getElem? (i := 2) rfl), ⟨inT4 _ (List.mem_of_getElem? (i := 83) rfl), inT4 _ (List.mem_of_getElem? (i := 84) rfl)⟩, ⟨by decide +kernel, by decide +kernel, by decide +kernel⟩, by decide +kernel⟩
set_option maxRecDepth 20000 in
theorem mok_64 : mOk 64 := ⟨inT5 _ (List.mem_of_getElem? (i := 103) rfl), inT1 _ (List.mem_of_getElem? (i := 2) rfl), ⟨inT5 _ (List.mem_of_getElem? (i := 101) rfl), inT5 _ (List.mem_of_getElem? (i := 102) rfl)⟩, ⟨by decide +kernel, by decide +kernel, by decide +kernel⟩, by decide +kernel⟩
set_option maxRecDepth 20000 in
theorem mok_65 : mOk 65 := ⟨inT4 _ (List.mem_of_getElem? (i := 199) rfl), inT1 _ (List.mem_of_getElem? (i := 2) rfl), ⟨inT4 _ (List.mem_of_getElem? (i := 197) rfl), inT4 _ (List.mem_of_getElem? (i := 198) rfl)⟩, ⟨by decide +kernel, by decide +kernel, by decide +kernel⟩, by decide +kernel⟩
set_option maxRecDepth 20000 in
theorem mok_66 : mOk 66 := ⟨inT4 _ (List.mem_of_getElem? (i := 94) rfl), inT1 _ (List.mem_of_getElem? (i := 2) rfl), ⟨inT4 _ (List.mem_of_getElem? (i := 92) rfl), inT4 _ (List.mem_of_getElem? (i := 93) rfl)⟩, ⟨by decide +kernel, by decide +kernel, by decide +kernel⟩, by decide +kernel⟩
set_option maxRecDepth 20000 in
theorem mok_67 : mOk 67 := ⟨inT4 _ (List.mem_of_getElem? (i := 161) rfl), inT1 _ (List.mem_of_getElem? (i := 2) rfl), ⟨inT4 _ (List.mem_of_getElem? (i := 159) rfl), inT4 _ (List.mem_of_getElem? (i := 160) rfl)⟩, ⟨by decide +kernel, by decide +kernel, by decide +kernel⟩, by decide +kernel⟩
set_option maxRecDepth 20000 in
theorem mok_68 : mOk 68 := ⟨inT4 _ (List.mem_of_getElem? (i := 156) rfl), inT1 _ (List.mem_of_getElem? (i := 2) rfl), ⟨inT4 _ (List.mem_of_getElem? (i := 154) rfl), inT4 _ (List.mem_of_getElem? (i := 155) rfl)⟩, ⟨by decide +kernel, by decide +kernel, by decide +kernel⟩, by decide +kernel⟩
set_option maxRecDepth 20000 in
theorem mok_69 : mOk 69 := ⟨inT4 _ (List.mem_of_getElem? (i := 195) rfl), inT1 _ (List.mem_of_getElem? (i := 2) rfl), ⟨inT4 _ (List.mem_of_getElem? (i := 193) rfl), inT4 _ (List.mem_of_getElem? (i := 194) rfl)⟩, ⟨by decide +kernel, by decide +kernel, by decide +kernel⟩, by decide +kernel⟩
set_option maxRecDepth 20000 in
theorem mok_70 : mOk 70 := ⟨inT4 _ (List.mem_of_getElem? (i := 165) rfl), inT1 _ (List.mem_of_getElem? (i := 2) rfl), ⟨inT4 _ (List.mem_of_getElem? (i := 163) rfl), inT4 _ (List.mem_of_getElem? (i := 164) rfl)⟩, ⟨by decide +kernel, by decide +kernel, by decide +kernel⟩, by decide +kernel⟩
set_option maxRecDepth 20000 in
theorem mok_71 : mOk 71 := ⟨inT3 _ (List.mem_of_getElem? (i := 36) rfl), inT1 _ (List.mem_of_getElem? (i := 10) rfl), ⟨inT3 _ (List.mem_of_getElem? (i := 34) rfl), inT3 _ (List.mem_of_getElem? (i := 35) rfl)⟩, ⟨by decide +kernel, by decide +kernel, by decide +kernel⟩, by decide +kernel⟩
set_option maxRecDepth 20000 in
theorem mok_72 : mOk 72 := ⟨inT3 _ (List.mem_of_getElem? (i := 94) rfl), inT1 _ (List.mem_of_getElem? (i := 10) rfl), ⟨inT3 _ (List.mem_of_getElem? (i := 93) rfl), inV1 _ (List.mem_of_getElem? (i := 10) rfl)⟩, ⟨by decide +kernel, by decide +kernel, by decide +kernel⟩, by decide +kernel⟩
set_option maxRecDepth 20000 in
theorem mok_73 : mOk 73 := ⟨inT3 _ (List.mem_of_getElem? (i := 116) rfl), inT1 _ (List.mem_of_getElem? (i := 10) rfl), ⟨inT3 _ (List.mem_of_getElem? (i := 115) rfl), inV1 _ (List.mem_of_getElem? (i := 11) rfl)⟩, ⟨by decide +kernel, by decide +kernel, by decide +kernel⟩, by decide +kernel⟩
set_option maxRecDepth 20000 in
theorem mok_74 : mOk 74 := ⟨inT3 _ (List.mem_of_getElem? (i := 121) rfl), inT1 _ (List.mem_of_getElem? (i := 10) rfl), ⟨inT3 _ (List.mem_of_getElem? (i := 120) rfl), inV1 _ (List.mem_of_getElem? (i := 12) rfl)⟩, ⟨by decide +kernel, by decide +kernel, by decide +kernel⟩, by decide +kernel⟩
set_option maxRecDepth 20000 in
theorem mok_75 : mOk 75 := ⟨inT3 _ (List.mem_of_getElem? (i := 128) rfl), inT1 _ (List.mem_of_getElem? (i := 10) rfl), inT3 _ (List.mem_of_getElem? (i := 127) rfl), ⟨by decide +kernel, by decide +kernel, by decide +kernel⟩, by decide +kernel⟩
set_option maxRecDepth 20000 in
theorem mok_76 : mOk 76 := ⟨inT3 _ (List.mem_of_getElem? (i := 40) rfl), inT1 _ (List.mem_of_getElem? (i := 9) rfl), ⟨inT3 _ (List.mem_of_getElem? (i := 38) rfl), inT3 _ (List.mem_of_getElem? (i := 39) rfl)⟩, ⟨by decide +kernel, by decide +kernel, by decide +kernel⟩, by decide +kernel⟩
set_option maxRecDepth 20000 in
theorem mok_77 : mOk 77 := ⟨inT3 _ (List.mem_of_getElem? (i := 44) rfl), inT1 _ (List.mem_of_getElem? (i := 9) rfl), ⟨inT3 _ (List.mem_of_getElem? (i := 43) rfl), inV1 _ (List.mem_of_getElem? (i := 2) rfl)⟩, ⟨by decide +kernel, by decide +kernel, by decide +kernel⟩, by decide +kernel⟩
set_option maxRecDepth 20000 in
theorem mok_78 : mOk 78 := ⟨inT3 _ (List.mem_of_getElem? (i := 69) rfl), inT1 _ (List.mem_of_getElem? (i := 9) rfl), ⟨inT3 _ (List.mem_of_getElem? (i := 68) rfl), inV1 _ (List.mem_of_getElem? (i := 4) rfl)⟩, ⟨by decide +kernel, by decide +kernel, by decide +kernel⟩, by decide +kernel⟩
set_option maxRecDepth 20000 in
theorem mok_79 : mOk 79 := ⟨inT3 _ (List.mem_of_getElem? (i := 73) rfl), inT1 _ (List.mem_of_getElem? (i := 9) rfl), ⟨inT3 _ (List.mem_of_getElem? (i := 72) rfl), inV1 _ (List.mem_of_getElem? (i := 5) rfl)⟩, ⟨by decide +kernel, by decide +kernel, by decide +kernel⟩, by decide +kernel⟩
set_option maxRecDepth 20000 in
theorem mok_80 : mOk 80 := ⟨inT3 _ (List.mem_of_getElem? (i := 77) rfl), inT1 _ (List.mem_of_getElem? (i := 9) rfl), ⟨inT3 _ (List.mem_of_getElem? (i := 76) rfl), inV1 _ (List.mem_of_getElem? (i := 6) rfl)⟩, ⟨by decide +kernel, by decide +kernel, by decide +kernel⟩, by decide +kernel⟩
set_option maxRecDepth 20000 in
theorem mok_81 : mOk 81 := ⟨inT3 _ (List.mem_of_getElem? (i := 81) rfl), inT1 _ (List.mem_of_getElem? (i := 9) rfl), ⟨inT3 _ (List.mem_of_getElem? (i := 80) rfl), inV1 _ (List.mem_of_getElem? (i := 7) rfl)⟩, ⟨by decide +kernel, by decide +kernel, by decide +kernel⟩, by decide +kernel⟩
set_option maxRecDepth 20000 in
theorem mok_82 : mOk 82 := ⟨inT3 _ (List.mem_of_getElem? (i := 86) rfl), inT1 _ (List.mem_of_getElem? (i := 9) rfl), ⟨inT3 _ (List.mem_of_getElem? (i := 85) rfl), inV1 _ (List.mem_of_getElem? (i := 8) rfl)⟩, ⟨by decide +kernel, by decide +kernel, by decide +kernel⟩, by decide +kernel⟩
set_option maxRecDepth 20000 in
theorem mok_83 : mOk 83 := ⟨inT3 _ (List.mem_of_getElem? (i := 90) rfl), inT1 _ (List.mem_of_getElem? (i := 9) rfl), ⟨inT3 _ (List.mem_of_getElem? (i := 89) rfl), inV1 _ (List.mem_of_getElem? (i := 9) rfl)⟩, ⟨by decide +kernel, by decide +kernel, by decide +kernel⟩, by decide +kernel⟩
set_option maxRecDepth 20000 in
theorem mok_84 : mOk 84 := ⟨inT2 _ (List.mem_of_getElem? (i := 218) rfl), inT1 _ (List.mem_of_getElem? (i := 1) rfl), ⟨inT2 _ (List.mem_of_getElem? (i := 216) rfl), inT2 _ (List.mem_of_getElem? (i := 217) rfl)⟩, ⟨by decide +kernel, by decide +kernel, by decide +kernel⟩, by decide +kernel⟩
set_option maxRecDepth 20000 in
theorem mok_85 : mOk 85 := ⟨inT2 _ (List.mem_of_getElem? (i := 226) rfl), inT1 _ (List.mem_of_getElem? (i := 1) rfl), ⟨inT2 _ (List.mem_of_getElem? (i := 224) rfl), inT2 _ (List.mem_of_getElem? (i := 225) rfl)⟩, ⟨by decide +kernel, by decide +kernel, by decide +kernel⟩, by decide +kernel⟩
set_option maxRecDepth 20000 in
theorem mok_86 : mOk 86 := ⟨inT4 _ (List.mem_of_getElem? (i := 65) rfl), inT1 _ (List.mem_of_getElem? (i := 1) rfl), ⟨inT4 _ (List.mem_of_getElem? (i := 63) rfl), inT4 _ (List.mem_of_getElem? (i := 64) rfl)⟩, ⟨by decide +kernel, by decide +kernel, by decide +kernel⟩, by decide +kernel⟩
set_option maxRecDepth 20000 in
theorem mok_87 : mOk 87 := ⟨inT5 _ (List.mem_of_getElem? (i := 52) rfl), inT1 _ (List.mem_of_getElem? (i := 1) rfl), ⟨inT5 _ (List.mem_of_getElem? (i := 50) rfl), inT5 _ (List.mem_of_getElem? (i := 51) rfl)⟩, ⟨by decide +kernel, by decide +kernel, by decide +kernel⟩, by decide +kernel⟩
set_option maxRecDepth 20000 in
theorem mok_88 : mOk 88 := ⟨inT2 _ (List.mem_of_getElem? (i := 230) rfl), inT1 _ (List.mem_of_getElem? (i := 1) rfl), ⟨inT2 _ (List.mem_of_getElem? (i := 228) rfl), inT2 _ (List.mem_of_getElem? (i := 229) rfl)⟩, ⟨by decide +kernel, by decide +kernel, by decide +kernel⟩, by decide +kernel⟩
set_option maxRecDepth 20000 in
theorem mok_89 : mOk 89 := ⟨inT5 _ (List.mem_of_getElem? (i := 127) rfl), inT1 _ (List.mem_of_getElem? (i := 1) rfl), ⟨inT5 _ (List.mem_of_getElem? (i := 125) rfl), inT5 _ (List.mem_of_getElem? (i := 126) rfl)⟩, ⟨by decide +kernel, by decide +kernel, by decide +kernel⟩, by decide +kernel⟩
set_option maxRecDepth 20000 in
theorem mok_90 : mOk 90 := ⟨inT5 _ (List.mem_of_getElem? (i := 187) rfl), inT1 _ (List.mem_of_getElem? (i := 1) rfl), ⟨inT5 _ (List.mem_of_getElem? (i := 185) rfl), inT5 _ (List.mem_of_getElem? (i := 186) rfl)⟩, ⟨by decide +kernel, by decide +kernel, by decide +kernel⟩, by decide +kernel⟩
set_option maxRecDepth 20000 in
theorem mok_91 : mOk 91 := ⟨inT5 _ (List.mem_of_getElem? (i := 201) rfl), inT1 _ (List.mem_of_getElem? (i := 1) rfl), ⟨inT5 _ (List.mem_of_getElem? (i := 199) rfl), inT5 _ (List.mem_of_getElem? (i := 200) rfl)⟩, ⟨by decide +kernel, by decide +kernel, by decide +kernel⟩, by decide +kernel⟩
set_option maxRecDepth 20000 in
theorem mok_92 : mOk 92 := ⟨inT5 _ (List.mem_of_getElem? (i := 209) rfl), inT1 _ (List.mem_of_getElem? (i := 1) rfl), ⟨inT5 _ (List.mem_of_getElem? (i := 207) rfl), inT5 _ (List.mem_of_getElem? (i := 208) rfl)⟩, ⟨by decide +kernel, by decide +kernel, by decide +kernel⟩, by decide +kernel⟩
set_option maxRecDepth 20000 in
theorem mok_93 : mOk 93 := ⟨inT5 _ (List.mem_of_getElem? (i := 217) rfl), inT1 _ (List.mem_of_getElem? (i := 1) rfl), ⟨inT5 _ (List.mem_of_getElem? (i := 215) rfl), inT5 _ (List.mem_of_getElem? (i := 216) rfl)⟩, ⟨by decide +kernel, by decide +kernel, by decide +kernel⟩, by decide +kernel⟩
set_option maxRecDepth 20000 in
theorem mok_94 : mOk 94 := ⟨inT5 _ (List.mem_of_getElem? (i := 234) rfl), inT1 _ (List.mem_of_getElem? (i := 1) rfl), ⟨inT5 _ (List.mem_of_getElem? (i := 232) rfl), inT5 _ (List.mem_of_getElem? (i := 233) rfl)⟩, ⟨by decide +kernel, by decide +kernel, by decide +kernel⟩, by decide +kernel⟩
set_option maxRecDepth 20000 in
theorem mok_95 : mOk 95 := ⟨inT6 _ (List.mem_of_getElem? (i := 2) rfl), inT1 _ (List.mem_of_getElem? (i := 1) rfl), ⟨inT6 _ (List.mem_of_getElem? (i := 0) rfl), inT6 _ (List.mem_of_getElem? (i := 1) rfl)⟩, ⟨by decide +kernel, by decide +kernel, by decide +kernel⟩, by decide +kernel⟩
set_option maxRecDepth 20000 in
theorem mok_96 : mOk 96 := ⟨inT6 _ (List.mem_of_getElem? (i := 9) rfl), inT1 _ (List.mem_of_getElem? (i := 1) rfl), ⟨inT6 _ (List.mem_of_getElem? (i := 7) rfl), inT6 _ (List.mem_of_getElem? (i := 8) rfl)⟩, ⟨by decide +kernel, by decide +kernel, by decide +kernel⟩, by decide +kernel⟩
set_option maxRecDepth 20000 in
theorem mok_97 : mOk 97 := ⟨inT6 _ (List.mem_of_getElem? (i := 18) rfl), inT1 _ (List.mem_of_getElem? (i := 1) rfl), ⟨inT6 _ (List.mem_of_getElem? (i := 16) rfl), inT6 _ (List.mem_of_getElem? (i := 17) rfl)⟩, ⟨by decide +kernel, by decide +kernel, by decide +kernel⟩, by decide +kernel⟩
set_option maxRecDepth 20000 in
theorem mok_98 : mOk 98 := ⟨inT6 _ (List.mem_of_getElem? (i := 42) rfl), inT1 _ (List.mem_of_getElem? (i := 1) rfl), ⟨inT6 _ (List.mem_of_getElem? (i := 40) rfl), inT6 _ (List.mem_of_getElem? (i := 41) rfl)⟩, ⟨by decide +kernel, by decide +kernel, by decide +kernel⟩, by decide +kernel⟩
set_option maxRecDepth 20000 in
theorem mok_99 : mOk 99 := ⟨inT6 _ (List.mem_of_getElem? (i := 54) rfl), inT1 _ (List.mem_of_getElem? (i := 1) rfl), ⟨inT6 _ (List.mem_of_getElem? (i := 52) rfl), inT6 _ (List.mem_of_getElem? (i := 53) rfl)⟩, ⟨by decide +kernel, by decide +kernel, by decide +kernel⟩, by decide +kernel⟩
set_option maxRecDepth 20000 in
theorem mok_100 : mOk 100 := ⟨inT6 _ (List.mem_of_getElem? (i := 62) rfl), inT1 _ (List.mem_of_getElem? (i := 1) rfl), ⟨inT6 _ (List.mem_of_getElem? (i := 60) rfl), inT6 _ (List.mem_of_getElem? (i := 61) rfl)⟩, ⟨by decide +kernel, by decide +kernel, by decide +kernel⟩, by decide +kernel⟩
set_option maxRecDepth 20000 in
theorem mok_101 : mOk 101 := ⟨inT6 _ (List.mem_of_getElem? (i := 74) rfl), inT1 _ (List.mem_of_getElem? (i := 1) rfl), ⟨inT6 _ (List.mem_of_getElem? (i := 72) rfl), inT6 _ (List.mem_of_getElem? (i := 73) rfl)⟩, ⟨by decide +kernel, by decide +kernel, by decide +kernel⟩, by decide +kernel⟩
set_option maxRecDepth 20000 in
theorem mok_102 : mOk 102 := ⟨inT6 _ (List.mem_of_getElem? (i := 81) rfl), inT1 _ (List.mem_of_getElem? (i := 1) rfl), ⟨inT6 _ (List.mem_of_getElem? (i := 79) rfl), inT6 _ (List.mem_of_getElem? (i := 80) rfl)⟩, ⟨by decide +kernel, by decide +kernel, by decide +kernel⟩, by decide +kernel⟩
set_option maxRecDepth 20000 in
theorem mok_103 : mOk 103 := ⟨inT6 _ (List.mem_of_getElem? (i := 88) rfl), inT1 _ (List.mem_of_getElem? (i := 1) rfl), ⟨inT6 _ (List.mem_of_getElem? (i := 86) rfl), inT6 _ (List.mem_of_getElem? (i := 87) rfl)⟩, ⟨by decide +kernel, by decide +kernel, by decide +kernel⟩, by decide +kernel⟩
set_option maxRecDepth 20000 in
theorem mok_104 : mOk 104 := ⟨inT6 _ (List.mem_of_getElem? (i := 95) rfl), inT1 _ (List.mem_of_getElem? (i := 1) rfl), ⟨inT6 _ (List.mem_of_getElem? (i := 93) rfl), inT6 _ (List.mem_of_getElem? (i := 94) rfl)⟩, ⟨by decide +kernel, by decide +kernel, by decide +kernel⟩, by decide +kernel⟩
set_option maxRecDepth 20000 in
theorem mok_105 : mOk 105 := ⟨inT6 _ (List.mem_of_getElem? (i := 102) rfl), inT1 _ (List.mem_of_getElem? (i := 1) rfl), ⟨inT6 _ (List.mem_of_getElem? (i := 100) rfl), inT6 _ (List.mem_of_getElem? (i := 101) rfl)⟩, ⟨by decide +kernel, by decide +kernel, by decide +kernel⟩, by decide +kernel⟩
set_option maxRecDepth 20000 in
theorem mok_106 : mOk 106 := ⟨inT2 _ (List.mem_of_getElem? (i := 234) rfl), inT1 _ (List.mem_of_getElem? (i := 1) rfl), ⟨inT2 _ (List.mem_of_getElem? (i := 232) rfl), inT2 _ (List.mem_of_getElem? (i := 233) rfl)⟩, ⟨by decide +kernel, by decide +kernel, by decide +kernel⟩, by decide +kernel⟩
set_option maxRecDepth 20000 in
theorem mok_107 : mOk 107 := ⟨inT3 _ (List.mem_of_getElem? (i := 12) rfl), inT1 _ (List.mem_of_getElem? (i := 1) rfl), ⟨inT3 _ (List.mem_of_getElem? (i := 10) rfl), inT3 _ (List.mem_of_getElem? (i := 11) rfl)⟩, ⟨by decide +kernel, by decide +kernel, by decide +kernel⟩, by decide +kernel⟩
set_option maxRecDepth 20000 in
theorem mok_108 : mOk 108 := ⟨inT3 _ (List.mem_of_getElem? (i := 133) rfl), inT1 _ (List.mem_of_getElem? (i := 1) rfl), ⟨inT3 _ (List.mem_of_getElem? (i := 131) rfl), inT3 _ (List.mem_of_getElem? (i := 132) rfl)⟩, ⟨by decide +kernel, by decide +kernel, by decide +kernel⟩, by decide +kernel⟩
set_option maxRecDepth 20000 in
theorem mok_109 : mOk 109 := ⟨inT6 _ (List.mem_of_getElem? (i := 109) rfl), inT1 _ (List.mem_of_getElem? (i := 1) rfl), ⟨inT6 _ (List.mem_of_getElem? (i := 107) rfl), inT6 _ (List.mem_of_getElem? (i := 108) rfl)⟩, ⟨by decide +kernel, by decide +kernel, by decide +kernel⟩, by decide +kernel⟩
set_option maxRecDepth 20000 in
theorem mok_110 : mOk 110 := ⟨inT3 _ (List.mem_of_getElem? (i := 137) rfl), inT1 _ (List.mem_of_getElem? (i := 1) rfl), ⟨inT3 _ (List.mem_of_getElem? (i := 135) rfl), inT3 _ (List.mem_of_getElem? (i := 136) rfl)⟩, ⟨by decide +kernel, by decide +kernel, by decide +kernel⟩, by decide +kernel⟩
set_option maxRecDepth 20000 in
theorem mok_111 : mOk 111 := ⟨inT3 _ (List.mem_of_getElem? (i := 142) rfl), inT1 _ (List.mem_of_getElem? (i := 1) rfl), ⟨inT3 _ (List.mem_of_getElem? (i := 140) rfl), inT3 _ (List.mem_of_getElem? (i := 141) rfl)⟩, ⟨by decide +kernel, by decide +kernel, by decide +kernel⟩, by decide +kernel⟩
set_option maxRecDepth 20000 in
theorem mok_112 : mOk 112 := ⟨inT3 _ (List.mem_of_getElem? (i := 169) rfl), inT1 _ (List.mem_of_getElem? (i := 1) rfl), ⟨inT3 _ (List.mem_of_getElem? (i := 167) rfl), inT3 _ (List.mem_of_getElem? (i := 168) rfl)⟩, ⟨by decide +kernel, by decide +kernel, by decide +kernel⟩, by decide +kernel⟩
set_option maxRecDepth 20000 in
theorem mok_113 : mOk 113 := ⟨inT3 _ (List.mem_of_getElem? (i := 173) rfl), inT1 _ (List.mem_of_getElem? (i := 1) rfl), ⟨inT3 _ (List.mem_of_getElem? (i := 171) rfl), inT3 _ (List.mem_of_getElem? (i := 172) rfl)⟩, ⟨by decide +kernel, by decide +kernel, by decide +kernel⟩, by decide +kernel⟩
set_option maxRecDepth 20000 in
theorem mok_114 : mOk 114 := ⟨inT3 _ (List.mem_of_getElem? (i := 188) rfl), inT1 _ (List.mem_of_getElem? (i := 1) rfl), ⟨inT3 _ (List.mem_of_getElem? (i := 186) rfl), inT3 _ (List.mem_of_getElem? (i := 187) rfl)⟩, ⟨by decide +kernel, by decide +kernel, by decide +kernel⟩, by decide +kernel⟩
set_option maxRecDepth 20000 in
theorem mok_115 : mOk 115 := ⟨inT6 _ (List.mem_of_getElem? (i := 117) rfl), inT1 _ (List.mem_of_getElem? (i := 1) rfl), ⟨inT6 _ (List.mem_of_getElem? (i := 115) rfl), inT6 _ (List.mem_of_getElem? (i := 116) rfl)⟩, ⟨by decide +kernel, by decide +kernel, by decide +kernel⟩, by decide +kernel⟩
set_option maxRecDepth 20000 in
theorem mok_116 : mOk 116 := ⟨inT6 _ (List.mem_of_getElem? (i := 130) rfl), inT1 _ (List.mem_of_getElem? (i := 1) rfl), ⟨inT6 _ (List.mem_of_getElem? (i := 128) rfl), inT6 _ (List.mem_of_getElem? (i := 129) rfl)⟩, ⟨by decide +kernel, by decide +kernel, by decide +kernel⟩, by decide +kernel⟩
set_option maxRecDepth 20000 in
theorem mok_117 : mOk 117 := ⟨inT3 _ (List.mem_of_getElem? (i := 196) rfl), inT1 _ (List.mem_of_getElem? (i := 1) rfl), ⟨inT3 _ (List.mem_of_getElem? (i := 194) rfl), inT3 _ (List.mem_of_getElem? (i := 195) rfl)⟩, ⟨by decide +kernel, by decide +kernel, by decide +kernel⟩, by decide +kernel⟩
set_option maxRecDepth 20000 in
theorem mok_118 : mOk 118 := ⟨inT6 _ (List.mem_of_getElem? (i := 143) rfl), inT1 _ (List.mem_of_getElem? (i := 1) rfl), ⟨inT6 _ (List.mem_of_getElem? (i := 141) rfl), inT6 _ (List.mem_of_getElem? (i := 142) rfl)⟩, ⟨by decide +kernel, by decide +kernel, by decide +kernel⟩, by decide +kernel⟩
set_option maxRecDepth 20000 in
theorem mok_119 : mOk 119 := ⟨inT3 _ (List.mem_of_getElem? (i := 218) rfl), inT1 _ (List.mem_of_getElem? (i := 1) rfl), ⟨inT3 _ (List.mem_of_getElem? (i := 216) rfl), inT3 _ (List.mem_of_getElem? (i := 217) rfl)⟩, ⟨by decide +kernel, by decide +kernel, by decide +kernel⟩, by decide +kernel⟩
set_option maxRecDepth 20000 in
theorem mok_120 : mOk 120 := ⟨inT3 _ (List.mem_of_getElem? (i := 228) rfl), inT1 _ (List.mem_of_getElem? (i := 1) rfl), ⟨inT3 _ (List.mem_of_getElem? (i := 226) rfl), inT3 _ (List.mem_of_getElem? (i := 227) rfl)⟩, ⟨by decide +kernel, by decide +kernel, by decide +kernel⟩, by decide +kernel⟩
set_option maxRecDepth 20000 in
theorem mok_121 : mOk 121 := ⟨inT3 _ (List.mem_of_getElem? (i := 232) rfl), inT1 _ (List.mem_of_getElem? (i := 1) rfl), ⟨inT3 _ (List.mem_of_getElem? (i := 230) rfl), inT3 _ (List.mem_of_getElem? (i := 231) rfl)⟩, ⟨by decide +kernel, by decide +kernel, by decide +kernel⟩, by decide +kernel⟩
set_option maxRecDepth 20000 in
theorem mok_122 : mOk 122 := ⟨inT6 _ (List.mem_of_getElem? (i := 165) rfl), inT1 _ (List.mem_of_getElem? (i := 1) rfl), ⟨inT6 _ (List.mem_of_getElem? (i := 163) rfl), inT6 _ (List.mem_of_getElem? (i := 164) rfl)⟩, ⟨by decide +kernel, by decide +kernel, by decide +kernel⟩, by decide +kernel⟩
set_option maxRecDepth 20000 in
theorem mok_123 : mOk 123 := ⟨inT6 _ (List.mem_of_getElem? (i := 193) rfl), inT1 _ (List.mem_of_getElem? (i := 1) rfl), ⟨inT6 _ (List.mem_of_getElem? (i := 191) rfl), inT6 _ (List.mem_of_getElem? (i := 192) rfl)⟩, ⟨by decide +kernel, by decide +kernel, by decide +kernel⟩, by decide +kernel⟩
set_option maxRecDepth 20000 in
theorem mok_124 : mOk 124 := ⟨inT6 _ (List.mem_of_getElem? (i := 205) rfl), inT1 _ (List.mem_of_getElem? (i := 1) rfl), ⟨inT6 _ (List.mem_of_getElem? (i := 203) rfl), inT6 _ (List.mem_of_getElem? (i := 204) rfl)⟩, ⟨by decide +kernel, by decide +kernel, by decide +kernel⟩, by decide +kernel⟩
set_option maxRecDepth 20000 in
theorem mok_125 : mOk 125 := ⟨inT6 _ (List.mem_of_getElem? (i := 226) rfl), inT1 _ (List.mem_of_getElem? (i := 1) rfl), ⟨inT6 _ (List.mem_of_getElem? (i := 224) rfl), inT6 _ (List.mem_of_getElem? (i := 225) rfl)⟩, ⟨by decide +kernel, by decide +kernel, by decide +kernel⟩, by decide +kernel⟩
set_option maxRecDepth 20000 in
theorem mok_126 : mOk 126 := ⟨inT6 _ (List.mem_of_getElem? (i := 233) rfl), inT1 _ (List.mem_of_getElem? (i := 1) rfl), ⟨inT6 _ (List.mem_of_getElem? (i := 231) rfl), inT6 _ (List.mem_of_getElem? (i := 232) rfl)⟩, ⟨by decide +kernel, by decide +kernel, by decide +kernel⟩, by decide +kernel⟩
set_option maxRecDepth 20000 in
theorem mok_127 : mOk 127 := ⟨inT7 _ (List.mem_of_getElem? (i := 9) rfl), inT1 _ (List.mem_of_getElem? (i := 1) rfl), ⟨inT7 _ (List.mem_of_getElem? (i := 7) rfl), inT7 _ (List.mem_of_getElem? (i := 8) rfl)⟩, ⟨by decide +kernel, by decide +kernel, by decide +kernel⟩, by decide +kernel⟩
set_option maxRecDepth 20000 in
theorem mok_128 : mOk 128 := ⟨inT7 _ (List.mem_of_getElem? (i := 16) rfl), inT1 _ (List.mem_of_getElem? (i := 1) rfl), ⟨inT7 _ (List.mem_of_getElem? (i := 14) rfl), inT7 _ (List.mem_of_getElem? (i := 15) rfl)⟩, ⟨by decide +kernel, by decide +kernel, by decide +kernel⟩, by decide +kernel⟩
set_option maxRecDepth 20000 in
theorem mok_129 : mOk 129 := ⟨inT3 _ (List.mem_of_getElem? (i := 236) rfl), inT1 _ (List.mem_of_getElem? (i := 1) rfl), ⟨inT3 _ (List.mem_of_getElem? (i := 234) rfl), inT3 _ (List.mem_of_getElem? (i := 235) rfl)⟩, ⟨by decide +kernel, by decide +kernel, by decide +kernel⟩, by decide +kernel⟩
set_option maxRecDepth 20000 in
theorem mok_130 : mOk 130 := ⟨inT7 _ (List.mem_of_getElem? (i := 23) rfl), inT1 _ (List.mem_of_getElem? (i := 1) rfl), ⟨inT7 _ (List.mem_of_getElem? (i := 21) rfl), inT7 _ (List.mem_of_getElem? (i := 22) rfl)⟩, ⟨by decide +kernel, by decide +kernel, by decide +kernel⟩, by decide +kernel⟩
set_option maxRecDepth 20000 in
theorem mok_131 : mOk 131 := ⟨inT7 _ (List.mem_of_getElem? (i := 30) rfl), inT1 _ (List.mem_of_getElem? (i := 1) rfl), ⟨inT7 _ (List.mem_of_getElem? (i := 28) rfl), inT7 _ (List.mem_of_getElem? (i := 29) rfl)⟩, ⟨by decide +kernel, by decide +kernel, by decide +kernel⟩, by decide +kernel⟩
set_option maxRecDepth 20000 in
theorem mok_132 : mOk 132 := ⟨inT4 _ (List.mem_of_getElem? (i := 4) rfl), inT1 _ (List.mem_of_getElem? (i := 1) rfl), ⟨inT4 _ (List.mem_of_getElem? (i := 2) rfl), inT4 _ (List.mem_of_getElem? (i := 3) rfl)⟩, ⟨by decide +kernel, by decide +kernel, by decide +kernel⟩, by decide +kernel⟩
set_option maxRecDepth 20000 in
theorem mok_133 : mOk 133 := ⟨inT7 _ (List.mem_of_getElem? (i := 43) rfl), inT1 _ (List.mem_of_getElem? (i := 1) rfl), ⟨inT7 _ (List.mem_of_getElem? (i := 41) rfl), inT7 _ (List.mem_of_getElem? (i := 42) rfl)⟩, ⟨by decide +kernel, by decide +kernel, by decide +kernel⟩, by decide +kernel⟩
set_option maxRecDepth 20000 in
theorem mok_134 : mOk 134 := ⟨inT4 _ (List.mem_of_getElem? (i := 9) rfl), inT1 _ (List.mem_of_getElem? (i := 1) rfl), ⟨inT4 _ (List.mem_of_getElem? (i := 7) rfl), inT4 _ (List.mem_of_getElem? (i := 8) rfl)⟩, ⟨by decide +kernel, by decide +kernel, by decide +kernel⟩, by decide +kernel⟩
set_option maxRecDepth 20000 in
theorem mok_135 : mOk 135 := ⟨inT4 _ (List.mem_of_getElem? (i := 13) rfl), inT1 _ (List.mem_of_getElem? (i := 1) rfl), ⟨inT4 _ (List.mem_of_getElem? (i := 11) rfl), inT4 _ (List.mem_of_getElem? (i := 12) rfl)⟩, ⟨by decide +kernel, by decide +kernel, by decide +kernel⟩, by decide +kernel⟩
set_option maxRecDepth 20000 in
theorem mok_136 : mOk 136 := ⟨inT4 _ (List.mem_of_getElem? (i := 18) rfl), inT1 _ (List.mem_of_getElem? (i := 1) rfl), ⟨inT4 _ (List.mem_of_getElem? (i := 16) rfl), inT4 _ (List.mem_of_getElem? (i := 17) rfl)⟩, ⟨by decide +kernel, by decide +kernel, by decide +kernel⟩, by decide +kernel⟩
set_option maxRecDepth 20000 in
theorem mok_137 : mOk 137 := ⟨inT4 _ (List.mem_of_getElem? (i := 22) rfl), inT1 _ (List.mem_of_getElem? (i := 1) rfl), ⟨inT4 _ (List.mem_of_getElem? (i := 20) rfl), inT4 _ (List.mem_of_getElem? (i := 21) rfl)⟩, ⟨by decide +kernel, by decide +kernel, by decide +kernel⟩, by decide +kernel⟩
set_option maxRecDepth 20000 in
theorem mok_138 : mOk 138 := ⟨inT7 _ (List.mem_of_getElem? (i := 50) rfl), inT1 _ (List.mem_of_getElem? (i := 1) rfl), ⟨inT7 _ (List.mem_of_getElem? (i := 48) rfl), inT7 _ (List.mem_of_getElem? (i := 49) rfl)⟩, ⟨by decide +kernel, by decide +kernel, by decide +kernel⟩, by decide +kernel⟩
set_option maxRecDepth 20000 in
theorem mok_139 : mOk 139 := ⟨inT7 _ (List.mem_of_getElem? (i := 58) rfl), inT1 _ (List.mem_of_getElem? (i := 1) rfl), ⟨inT7 _ (List.mem_of_getElem? (i := 56) rfl), inT7 _ (List.mem_of_getElem? (i := 57) rfl)⟩, ⟨by decide +kernel, by decide +kernel, by decide +kernel⟩, by decide +kernel⟩
set_option maxRecDepth 20000 in
theorem mok_140 : mOk 140 := ⟨inT7 _ (List.mem_of_getElem? (i := 69) rfl), inT1 _ (List.mem_of_getElem? (i := 1) rfl), ⟨inT7 _ (List.mem_of_getElem? (i := 67) rfl), inT7 _ (List.mem_of_getElem? (i := 68) rfl)⟩, ⟨by decide +kernel, by decide +kernel, by decide +kernel⟩, by decide +kernel⟩
set_option maxRecDepth 20000 in
theorem mok_141 : mOk 141 := ⟨inT7 _ (List.mem_of_getElem? (i := 76) rfl), inT1 _ (List.mem_of_getElem? (i := 1) rfl), ⟨inT7 _ (List.mem_of_getElem? (i := 74) rfl), inT7 _ (List.mem_of_getElem? (i := 75) rfl)⟩, ⟨by decide +kernel, by decide +kernel, by decide +kernel⟩, by decide +kernel⟩
set_option maxRecDepth 20000 in
theorem mok_142 : mOk 142 := ⟨inT7 _ (List.mem_of_getElem? (i := 94) rfl), inT1 _ (List.mem_of_getElem? (i := 1) rfl), ⟨inT7 _ (List.mem_of_getElem? (i := 92) rfl), inT7 _ (List.mem_of_getElem? (i := 93) rfl)⟩, ⟨by decide +kernel, by decide +kernel, by decide +kernel⟩, by decide +kernel⟩
set_option maxRecDepth 20000 in
theorem mok_143 : mOk 143 := ⟨inT4 _ (List.mem_of_getElem? (i := 26) rfl), inT1 _ (List.mem_of_getElem? (i := 1) rfl), ⟨inT4 _ (List.mem_of_getElem? (i := 24) rfl), inT4 _ (List.mem_of_getElem? (i := 25) rfl)⟩, ⟨by decide +kernel, by decide +kernel, by decide +kernel⟩, by decide +kernel⟩
set_option maxRecDepth 20000 in
theorem mok_144 : mOk 144 := ⟨inT4 _ (List.mem_of_getElem? (i := 30) rfl), inT1 _ (List.mem_of_getElem? (i := 1) rfl), ⟨inT4 _ (List.mem_of_getElem? (i := 28) rfl), inT4 _ (List.mem_of_getElem? (i := 29) rfl)⟩, ⟨by decide +kernel, by decide +kernel, by decide +kernel⟩, by decide +kernel⟩
set_option maxRecDepth 20000 in
theorem mok_145 : mOk 145 := ⟨inT4 _ (List.mem_of_getElem? (i := 39) rfl), inT1 _ (List.mem_of_getElem? (i := 1) rfl), ⟨inT4 _ (List.mem_of_getElem? (i := 37) rfl), inT4 _ (List.mem_of_getElem? (i := 38) rfl)⟩, ⟨by decide +kernel, by decide +kernel, by decide +kernel⟩, by decide +kernel⟩
set_option maxRecDepth 20000 in
theorem mok_146 : mOk 146 := ⟨inT4 _ (List.mem_of_getElem? (i := 48) rfl), inT1 _ (List.mem_of_getElem? (i := 1) rfl), ⟨inT4 _ (List.mem_of_getElem? (i := 46) rfl), inT4 _ (List.mem_of_getElem? (i := 47) rfl)⟩, ⟨by decide +kernel, by decide +kernel, by decide +kernel⟩, by decide +kernel⟩
set_option maxRecDepth 20000 in
theorem mok_147 : mOk 147 := ⟨inT4 _ (List.mem_of_getElem? (i := 56) rfl), inT1 _ (List.mem_of_getElem? (i := 1) rfl), ⟨inT4 _ (List.mem_of_getElem? (i := 54) rfl), inT4 _ (List.mem_of_getElem? (i := 55) rfl)⟩, ⟨by decide +kernel, by decide +kernel, by decide +kernel⟩, by decide +kernel⟩
set_option maxRecDepth 20000 in
theorem mok_148 : mOk 148 := ⟨inT5 _ (List.mem_of_getElem? (i := 131) rfl), inT1 _ (List.mem_of_getElem? (i := 1) rfl), ⟨inT5 _ (List.mem_of_getElem? (i := 130) rfl), inV2 _ (List.mem_of_getElem? (i := 14) rfl)⟩, ⟨by decide +kernel, by decide +kernel, by decide +kernel⟩, by decide +kernel⟩
set_option maxRecDepth 20000 in
theorem mok_149 : mOk 149 := ⟨inT5 _ (List.mem_of_getElem? (i := 191) rfl), inT1 _ (List.mem_of_getElem? (i := 1) rfl), ⟨inT5 _ (List.mem_of_getElem? (i := 190) rfl), inV2 _ (List.mem_of_getElem? (i := 15) rfl)⟩, ⟨by decide +kernel, by decide +kernel, by decide +kernel⟩, by decide +kernel⟩
set_option maxRecDepth 20000 in
theorem mok_150 : mOk 150 := ⟨inT6 _ (List.mem_of_getElem? (i := 45) rfl), inT1 _ (List.mem_of_getElem? (i := 1) rfl), inT6 _ (List.mem_of_getElem? (i := 44) rfl), ⟨by decide +kernel, by decide +kernel, by decide +kernel⟩, by decide +kernel⟩
set_option maxRecDepth 20000 in
theorem mok_151 : mOk 151 := ⟨inT6 _ (List.mem_of_getElem? (i := 208) rfl), inT1 _ (List.mem_of_getElem? (i := 1) rfl), inT6 _ (List.mem_of_getElem? (i := 207) rfl), ⟨by decide +kernel, by decide +kernel, by decide +kernel⟩, by decide +kernel⟩
set_option maxRecDepth 20000 in
theorem mok_152 : mOk 152 := ⟨inT5 _ (List.mem_of_getElem? (i := 221) rfl), inT1 _ (List.mem_of_getElem? (i := 1) rfl), inT5 _ (List.mem_of_getElem? (i := 220) rfl), ⟨by decide +kernel, by decide +kernel, by decide +kernel⟩, by decide +kernel⟩
set_option maxRecDepth 20000 in
theorem mok_153 : mOk 153 := ⟨inT3 _ (List.mem_of_getElem? (i := 184) rfl), inT1 _ (List.mem_of_getElem? (i := 1) rfl), inT3 _ (List.mem_of_getElem? (i := 183) rfl), ⟨by decide +kernel, by decide +kernel, by decide +kernel⟩, by decide +kernel⟩
set_option maxRecDepth 20000 in
theorem mok_154 : mOk 154 := ⟨inT3 _ (List.mem_of_getElem? (i := 16) rfl), inT1 _ (List.mem_of_getElem? (i := 1) rfl), ⟨inT3 _ (List.mem_of_getElem? (i := 15) rfl), inV1 _ (List.mem_of_getElem? (i := 0) rfl)⟩, ⟨by decide +kernel, by decide +kernel, by decide +kernel⟩, by decide +kernel⟩
set_option maxRecDepth 20000 in
theorem mok_155 : mOk 155 := ⟨inT4 _ (List.mem_of_getElem? (i := 0) rfl), inT1 _ (List.mem_of_getElem? (i := 1) rfl), ⟨inT3 _ (List.mem_of_getElem? (i := 239) rfl), inV2 _ (List.mem_of_getElem? (i := 2) rfl)⟩, ⟨by decide +kernel, by decide +kernel, by decide +kernel⟩, by decide +kernel⟩
set_option maxRecDepth 20000 in
theorem mok_156 : mOk 156 := ⟨inT7 _ (List.mem_of_getElem? (i := 62) rfl), inT1 _ (List.mem_of_getElem? (i := 1) rfl), ⟨inT7 _ (List.mem_of_getElem? (i := 61) rfl), inV3 _ (List.mem_of_getElem? (i := 8) rfl)⟩, ⟨by decide +kernel, by decide +kernel, by decide +kernel⟩, by decide +kernel⟩
set_option maxRecDepth 20000 in
theorem mok_157 : mOk 157 := ⟨inT3 _ (List.mem_of_getElem? (i := 200) rfl), inT1 _ (List.mem_of_getElem? (i := 1) rfl), ⟨inT3 _ (List.mem_of_getElem? (i := 199) rfl), inV2 _ (List.mem_of_getElem? (i := 1) rfl)⟩, ⟨by decide +kernel, by decide +kernel, by decide +kernel⟩, by decide +kernel⟩
set_option maxRecDepth 20000 in
theorem mok_158 : mOk 158 := ⟨inT3 _ (List.mem_of_getElem? (i := 207) rfl), inT1 _ (List.mem_of_getElem? (i := 1) rfl), inT3 _ (List.mem_of_getElem? (i := 206) rfl), ⟨by decide +kernel, by decide +kernel, by decide +kernel⟩, by decide +kernel⟩
set_option maxRecDepth 20000 in
theorem mok_159 : mOk 159 := ⟨inT6 _ (List.mem_of_getElem? (i := 154) rfl), inT1 _ (List.mem_of_getElem? (i := 1) rfl), ⟨inT6 _ (List.mem_of_getElem? (i := 153) rfl), inV3 _ (List.mem_of_getElem? (i := 0) rfl)⟩, ⟨by decide +kernel, by decide +kernel, by decide +kernel⟩, by decide +kernel⟩
set_option maxRecDepth 20000 in
theorem mok_160 : mOk 160 := ⟨inT6 _ (List.mem_of_getElem? (i := 158) rfl), inT1 _ (List.mem_of_getElem? (i := 1) rfl), ⟨inT6 _ (List.mem_of_getElem? (i := 157) rfl), inV3 _ (List.mem_of_getElem? (i := 1) rfl)⟩, ⟨by decide +kernel, by decide +kernel, by decide +kernel⟩, by decide +kernel⟩
set_option maxRecDepth 20000 in
theorem mok_161 : mOk 161 := ⟨inT6 _ (List.mem_of_getElem? (i := 214) rfl), inT1 _ (List.mem_of_getElem? (i := 1) rfl), ⟨inT6 _ (List.mem_of_getElem? (i := 213) rfl), inV3 _ (List.mem_of_getElem? (i := 4) rfl)⟩, ⟨by decide +kernel, by decide +kernel, by decide +kernel⟩, by decide +kernel⟩
set_option maxRecDepth 20000 in
theorem mok_162 : mOk 162 := ⟨inT6 _ (List.mem_of_getElem? (i := 218) rfl), inT1 _ (List.mem_of_getElem? (i := 1) rfl), ⟨inT6 _ (List.mem_of_getElem? (i := 217) rfl), inV3 _ (List.mem_of_getElem? (i := 5) rfl)⟩, ⟨by decide +kernel, by decide +kernel, by decide +kernel⟩, by decide +kernel⟩
set_option maxRecDepth 20000 in
theorem mok_163 : mOk 163 := ⟨inT6 _ (List.mem_of_getElem? (i := 238) rfl), inT1 _ (List.mem_of_getElem? (i := 1) rfl), ⟨inT6 _ (List.mem_of_getElem? (i := 237) rfl), inV3 _ (List.mem_of_getElem? (i := 6) rfl)⟩, ⟨by decide +kernel, by decide +kernel, by decide +kernel⟩, by decide +kernel⟩
set_option maxRecDepth 20000 in
theorem mok_164 : mOk 164 := ⟨inT7 _ (List.mem_of_getElem? (i := 2) rfl), inT1 _ (List.mem_of_getElem? (i := 1) rfl), ⟨inT7 _ (List.mem_of_getElem? (i := 1) rfl), inV3 _ (List.mem_of_getElem? (i := 7) rfl)⟩, ⟨by decide +kernel, by decide +kernel, by decide +kernel⟩, by decide +kernel⟩
set_option maxRecDepth 20000 in
theorem mok_165 : mOk 165 := ⟨inT7 _ (List.mem_of_getElem? (i := 33) rfl), inT1 _ (List.mem_of_getElem? (i := 1) rfl), inT7 _ (List.mem_of_getElem? (i := 32) rfl), ⟨by decide +kernel, by decide +kernel, by decide +kernel⟩, by decide +kernel⟩
set_option maxRecDepth 20000 in
theorem mok_166 : mOk 166 := ⟨inT7 _ (List.mem_of_getElem? (i := 36) rfl), inT1 _ (List.mem_of_getElem? (i := 1) rfl), inT7 _ (List.mem_of_getElem? (i := 35) rfl), ⟨by decide +kernel, by decide +kernel, by decide +kernel⟩, by decide +kernel⟩
set_option maxRecDepth 20000 in
theorem mok_167 : mOk 167 := ⟨inT7 _ (List.mem_of_getElem? (i := 198) rfl), inT1 _ (List.mem_of_getElem? (i := 13) rfl), ⟨inT7 _ (List.mem_of_getElem? (i := 196) rfl), inT7 _ (List.mem_of_getElem? (i := 197) rfl)⟩, ⟨by decide +kernel, by decide +kernel, by decide +kernel⟩, by decide +kernel⟩
set_option maxRecDepth 20000 in
theorem mok_168 : mOk 168 := ⟨inT7 _ (List.mem_of_getElem? (i := 209) rfl), inT1 _ (List.mem_of_getElem? (i := 13) rfl), inT7 _ (List.mem_of_getElem? (i := 208) rfl), ⟨by decide +kernel, by decide +kernel, by decide +kernel⟩, by decide +kernel⟩
set_option maxRecDepth 20000 in
theorem mok_169 : mOk 169 := ⟨inT9 _ (List.mem_of_getElem? (i := 20) rfl), inT1 _ (List.mem_of_getElem? (i := 13) rfl), inT9 _ (List.mem_of_getElem? (i := 19) rfl), ⟨by decide +kernel, by decide +kernel, by decide +kernel⟩, by decide +kernel⟩
set_option maxRecDepth 20000 in
theorem mok_170 : mOk 170 := ⟨inT8 _ (List.mem_of_getElem? (i := 168) rfl), inT1 _ (List.mem_of_getElem? (i := 13) rfl), inT8 _ (List.mem_of_getElem? (i := 167) rfl), ⟨by decide +kernel, by decide +kernel, by decide +kernel⟩, by decide +kernel⟩
set_option maxRecDepth 20000 in
theorem mok_171 : mOk 171 := ⟨inT8 _ (List.mem_of_getElem? (i := 187) rfl), inT1 _ (List.mem_of_getElem? (i := 13) rfl), inT8 _ (List.mem_of_getElem? (i := 186) rfl), ⟨by decide +kernel, by decide +kernel, by decide +kernel⟩, by decide +kernel⟩
set_option maxRecDepth 20000 in
theorem mok_172 : mOk 172 := ⟨inT9 _ (List.mem_of_getElem? (i := 86) rfl), inT1 _ (List.mem_of_getElem? (i := 13) rfl), inT9 _ (List.mem_of_getElem? (i := 85) rfl), ⟨by decide +kernel, by decide +kernel, by decide +kernel⟩, by decide +kernel⟩
set_option maxRecDepth 20000 in
theorem mok_173 : mOk 173 := ⟨inT8 _ (List.mem_of_getElem? (i := 129) rfl), inT1 _ (List.mem_of_getElem? (i := 13) rfl), ⟨inT8 _ (List.mem_of_getElem? (i := 128) rfl), inV5 _ (List.mem_of_getElem? (i := 6) rfl)⟩, ⟨by decide +kernel, by decide +kernel, by decide +kernel⟩, by decide +kernel⟩
set_option maxRecDepth 20000 in
theorem mok_174 : mOk 174 := ⟨inT8 _ (List.mem_of_getElem? (i := 79) rfl), inT1 _ (List.mem_of_getElem? (i := 13) rfl), ⟨inT8 _ (List.mem_of_getElem? (i := 78) rfl), inV4 _ (List.mem_of_getElem? (i := 13) rfl)⟩, ⟨by decide +kernel, by decide +kernel, by decide +kernel⟩, by decide +kernel⟩
set_option maxRecDepth 20000 in
theorem mok_175 : mOk 175 := ⟨inT8 _ (List.mem_of_getElem? (i := 100) rfl), inT1 _ (List.mem_of_getElem? (i := 13) rfl), ⟨inT8 _ (List.mem_of_getElem? (i := 99) rfl), inV5 _ (List.mem_of_getElem? (i := 2) rfl)⟩, ⟨by decide +kernel, by decide +kernel, by decide +kernel⟩, by decide +kernel⟩
set_option maxRecDepth 20000 in
theorem mok_176 : mOk 176 := ⟨inT8 _ (List.mem_of_getElem? (i := 125) rfl), inT1 _ (List.mem_of_getElem? (i := 13) rfl), ⟨inT8 _ (List.mem_of_getElem? (i := 124) rfl), inV5 _ (List.mem_of_getElem? (i := 5) rfl)⟩, ⟨by decide +kernel, by decide +kernel, by decide +kernel⟩, by decide +kernel⟩
set_option maxRecDepth 20000 in
theorem mok_177 : mOk 177 := ⟨inT8 _ (List.mem_of_getElem? (i := 204) rfl), inT1 _ (List.mem_of_getElem? (i := 13) rfl), ⟨inT8 _ (List.mem_of_getElem? (i := 203) rfl), inV6 _ (List.mem_of_getElem? (i := 6) rfl)⟩, ⟨by decide +kernel, by decide +kernel, by decide +kernel⟩, by decide +kernel⟩
set_option maxRecDepth 20000 in
theorem mok_178 : mOk 178 := ⟨inT9 _ (List.mem_of_getElem? (i := 47) rfl), inT1 _ (List.mem_of_getElem? (i := 13) rfl), inT9 _ (List.mem_of_getElem? (i := 46) rfl), ⟨by decide +kernel, by decide +kernel, by decide +kernel⟩, by decide +kernel⟩
set_option maxRecDepth 20000 in
theorem mok_179 : mOk 179 := ⟨inT9 _ (List.mem_of_getElem? (i := 194) rfl), inT1 _ (List.mem_of_getElem? (i := 13) rfl), inT9 _ (List.mem_of_getElem? (i := 193) rfl), ⟨by decide +kernel, by decide +kernel, by decide +kernel⟩, by decide +kernel⟩
set_option maxRecDepth 20000 in
theorem mok_180 : mOk 180 := ⟨inT8 _ (List.mem_of_getElem? (i := 96) rfl), inT1 _ (List.mem_of_getElem? (i := 13) rfl), ⟨inT8 _ (List.mem_of_getElem? (i := 95) rfl), inV5 _ (List.mem_of_getElem? (i := 1) rfl)⟩, ⟨by decide +kernel, by decide +kernel, by decide +kernel⟩, by decide +kernel⟩
set_option maxRecDepth 20000 in
theorem mok_181 : mOk 181 := ⟨inT8 _ (List.mem_of_getElem? (i := 176) rfl), inT1 _ (List.mem_of_getElem? (i := 13) rfl), ⟨inT8 _ (List.mem_of_getElem? (i := 175) rfl), inV6 _ (List.mem_of_getElem? (i := 1) rfl)⟩, ⟨by decide +kernel, by decide +kernel, by decide +kernel⟩, by decide +kernel⟩
set_option maxRecDepth 20000 in
theorem mok_182 : mOk 182 := ⟨inT8 _ (List.mem_of_getElem? (i := 92) rfl), inT1 _ (List.mem_of_getElem? (i := 13) rfl), ⟨inT8 _ (List.mem_of_getElem? (i := 91) rfl), inV5 _ (List.mem_of_getElem? (i := 0) rfl)⟩, ⟨by decide +kernel, by decide +kernel, by decide +kernel⟩, by decide +kernel⟩
set_option maxRecDepth 20000 in
theorem mok_183 : mOk 183 := ⟨inT7 _ (List.mem_of_getElem? (i := 202) rfl), inT1 _ (List.mem_of_getElem? (i := 13) rfl), ⟨inT7 _ (List.mem_of_getElem? (i := 200) rfl), inT7 _ (List.mem_of_getElem? (i := 201) rfl)⟩, ⟨by decide +kernel, by decide +kernel, by decide +kernel⟩, by decide +kernel⟩
set_option maxRecDepth 20000 in
theorem mok_184 : mOk 184 := ⟨inT7 _ (List.mem_of_getElem? (i := 206) rfl), inT1 _ (List.mem_of_getElem? (i := 13) rfl), ⟨inT7 _ (List.mem_of_getElem? (i := 204) rfl), inT7 _ (List.mem_of_getElem? (i := 205) rfl)⟩, ⟨by decide +kernel, by decide +kernel, by decide +kernel⟩, by decide +kernel⟩
set_option maxRecDepth 20000 in
theorem mok_185 : mOk 185 := ⟨inT7 _ (List.mem_of_getElem? (i := 233) rfl), inT1 _ (List.mem_of_getElem? (i := 13) rfl), ⟨inT7 _ (List.mem_of_getElem? (i := 232) rfl), inV3 _ (List.mem_of_getElem? (i := 13) rfl)⟩, ⟨by decide +kernel, by decide +kernel, by decide +kernel⟩, by decide +kernel⟩
set_option maxRecDepth 20000 in
theorem mok_186 : mOk 186 := ⟨inT7 _ (List.mem_of_getElem? (i := 229) rfl), inT1 _ (List.mem_of_getElem? (i := 13) rfl), ⟨inT7 _ (List.mem_of_getElem? (i := 228) rfl), inV3 _ (List.mem_of_getElem? (i := 12) rfl)⟩, ⟨by decide +kernel, by decide +kernel, by decide +kernel⟩, by decide +kernel⟩
set_option maxRecDepth 20000 in
theorem mok_187 : mOk 187 := ⟨inT8 _ (List.mem_of_getElem? (i := 36) rfl), inT1 _ (List.mem_of_getElem? (i := 13) rfl), ⟨inT8 _ (List.mem_of_getElem? (i := 35) rfl), inV4 _ (List.mem_of_getElem? (i := 6) rfl)⟩, ⟨by decide +kernel, by decide +kernel, by decide +kernel⟩, by decide +kernel⟩
set_option maxRecDepth 20000 in
theorem mok_188 : mOk 188 := ⟨inT8 _ (List.mem_of_getElem? (i := 6) rfl), inT1 _ (List.mem_of_getElem? (i := 13) rfl), ⟨inT8 _ (List.mem_of_getElem? (i := 5) rfl), inV4 _ (List.mem_of_getElem? (i := 0) rfl)⟩, ⟨by decide +kernel, by decide +kernel, by decide +kernel⟩, by decide +kernel⟩
set_option maxRecDepth 20000 in
theorem mok_189 : mOk 189 := ⟨inT7 _ (List.mem_of_getElem? (i := 237) rfl), inT1 _ (List.mem_of_getElem? (i := 13) rfl), ⟨inT7 _ (List.mem_of_getElem? (i := 236) rfl), inV3 _ (List.mem_of_getElem? (i := 14) rfl)⟩, ⟨by decide +kernel, by decide +kernel, by decide +kernel⟩, by decide +kernel⟩
set_option maxRecDepth 20000 in
theorem mok_190 : mOk 190 := ⟨inT8 _ (List.mem_of_getElem? (i := 18) rfl), inT1 _ (List.mem_of_getElem? (i := 13) rfl), ⟨inT8 _ (List.mem_of_getElem? (i := 17) rfl), inV4 _ (List.mem_of_getElem? (i := 2) rfl)⟩, ⟨by decide +kernel, by decide +kernel, by decide +kernel⟩, by decide +kernel⟩
set_option maxRecDepth 20000 in
theorem mok_191 : mOk 191 := ⟨inT8 _ (List.mem_of_getElem? (i := 14) rfl), inT1 _ (List.mem_of_getElem? (i := 13) rfl), ⟨inT8 _ (List.mem_of_getElem? (i := 13) rfl), inV4 _ (List.mem_of_getElem? (i := 1) rfl)⟩, ⟨by decide +kernel, by decide +kernel, by decide +kernel⟩, by decide +kernel⟩
set_option maxRecDepth 20000 in
theorem mok_192 : mOk 192 := ⟨inT8 _ (List.mem_of_getElem? (i := 72) rfl), inT1 _ (List.mem_of_getElem? (i := 13) rfl), ⟨inT8 _ (List.mem_of_getElem? (i := 71) rfl), inV4 _ (List.mem_of_getElem? (i := 12) rfl)⟩, ⟨by decide +kernel, by decide +kernel, by decide +kernel⟩, by decide +kernel⟩
set_option maxRecDepth 20000 in
theorem mok_193 : mOk 193 := ⟨inT8 _ (List.mem_of_getElem? (i := 67) rfl), inT1 _ (List.mem_of_getElem? (i := 13) rfl), ⟨inT8 _ (List.mem_of_getElem? (i := 66) rfl), inV4 _ (List.mem_of_getElem? (i := 11) rfl)⟩, ⟨by decide +kernel, by decide +kernel, by decide +kernel⟩, by decide +kernel⟩
set_option maxRecDepth 20000 in
theorem mok_194 : mOk 194 := ⟨inT8 _ (List.mem_of_getElem? (i := 88) rfl), inT1 _ (List.mem_of_getElem? (i := 13) rfl), ⟨inT8 _ (List.mem_of_getElem? (i := 87) rfl), inV4 _ (List.mem_of_getElem? (i := 15) rfl)⟩, ⟨by decide +kernel, by decide +kernel, by decide +kernel⟩, by decide +kernel⟩
set_option maxRecDepth 20000 in
theorem mok_195 : mOk 195 := ⟨inT8 _ (List.mem_of_getElem? (i := 84) rfl), inT1 _ (List.mem_of_getElem? (i := 13) rfl), ⟨inT8 _ (List.mem_of_getElem? (i := 83) rfl), inV4 _ (List.mem_of_getElem? (i := 14) rfl)⟩, ⟨by decide +kernel, by decide +kernel, by decide +kernel⟩, by decide +kernel⟩
set_option maxRecDepth 20000 in
theorem mok_196 : mOk 196 := ⟨inT8 _ (List.mem_of_getElem? (i := 105) rfl), inT1 _ (List.mem_of_getElem? (i := 13) rfl), ⟨inT8 _ (List.mem_of_getElem? (i := 104) rfl), inV5 _ (List.mem_of_getElem? (i := 3) rfl)⟩, ⟨by decide +kernel, by decide +kernel, by decide +kernel⟩, by decide +kernel⟩
set_option maxRecDepth 20000 in
theorem mok_197 : mOk 197 := ⟨inT8 _ (List.mem_of_getElem? (i := 63) rfl), inT1 _ (List.mem_of_getElem? (i := 13) rfl), ⟨inT8 _ (List.mem_of_getElem? (i := 62) rfl), inV4 _ (List.mem_of_getElem? (i := 10) rfl)⟩, ⟨by decide +kernel, by decide +kernel, by decide +kernel⟩, by decide +kernel⟩
set_option maxRecDepth 20000 in
theorem mok_198 : mOk 198 := ⟨inT7 _ (List.mem_of_getElem? (i := 221) rfl), inT1 _ (List.mem_of_getElem? (i := 13) rfl), ⟨inT7 _ (List.mem_of_getElem? (i := 220) rfl), inV3 _ (List.mem_of_getElem? (i := 10) rfl)⟩, ⟨by decide +kernel, by decide +kernel, by decide +kernel⟩, by decide +kernel⟩
set_option maxRecDepth 20000 in
theorem mok_199 : mOk 199 := ⟨inT7 _ (List.mem_of_getElem? (i := 225) rfl), inT1 _ (List.mem_of_getElem? (i := 13) rfl), ⟨inT7 _ (List.mem_of_getElem? (i := 224) rfl), inV3 _ (List.mem_of_getElem? (i := 11) rfl)⟩, ⟨by decide +kernel, by decide +kernel, by decide +kernel⟩, by decide +kernel⟩
set_option maxRecDepth 20000 in
theorem mok_200 : mOk 200 := ⟨inT7 _ (List.mem_of_getElem? (i := 217) rfl), inT1 _ (List.mem_of_getElem? (i := 13) rfl), ⟨inT7 _ (List.mem_of_getElem? (i := 216) rfl), inV3 _ (List.mem_of_getElem? (i := 9) rfl)⟩, ⟨by decide +kernel, by decide +kernel, by decide +kernel⟩, by decide +kernel⟩
set_option maxRecDepth 20000 in
theorem mok_201 : mOk 201 := ⟨inT8 _ (List.mem_of_getElem? (i := 109) rfl), inT1 _ (List.mem_of_getElem? (i := 13) rfl), ⟨inT8 _ (List.mem_of_getElem? (i := 108) rfl), inV5 _ (List.mem_of_getElem? (i := 4) rfl)⟩, ⟨by decide +kernel, by decide +kernel, by decide +kernel⟩, by decide +kernel⟩
set_option maxRecDepth 20000 in
theorem mok_202 : mOk 202 := ⟨inT7 _ (List.mem_of_getElem? (i := 213) rfl), inT1 _ (List.mem_of_getElem? (i := 13) rfl), ⟨inT7 _ (List.mem_of_getElem? (i := 211) rfl), inT7 _ (List.mem_of_getElem? (i := 212) rfl)⟩, ⟨by decide +kernel, by decide +kernel, by decide +kernel⟩, by decide +kernel⟩
set_option maxRecDepth 20000 in
theorem mok_203 : mOk 203 := ⟨inT8 _ (List.mem_of_getElem? (i := 50) rfl), inT1 _ (List.mem_of_getElem? (i := 13) rfl), ⟨inT8 _ (List.mem_of_getElem? (i := 49) rfl), inV4 _ (List.mem_of_getElem? (i := 9) rfl)⟩, ⟨by decide +kernel, by decide +kernel, by decide +kernel⟩, by decide +kernel⟩
set_option maxRecDepth 20000 in
theorem mok_204 : mOk 204 := ⟨inT8 _ (List.mem_of_getElem? (i := 46) rfl), inT1 _ (List.mem_of_getElem? (i := 13) rfl), ⟨inT8 _ (List.mem_of_getElem? (i := 45) rfl), inV4 _ (List.mem_of_getElem? (i := 8) rfl)⟩, ⟨by decide +kernel, by decide +kernel, by decide +kernel⟩, by decide +kernel⟩
set_option maxRecDepth 20000 in
theorem mok_205 : mOk 205 := ⟨inT8 _ (List.mem_of_getElem? (i := 40) rfl), inT1 _ (List.mem_of_getElem? (i := 13) rfl), ⟨inT8 _ (List.mem_of_getElem? (i := 39) rfl), inV4 _ (List.mem_of_getElem? (i := 7) rfl)⟩, ⟨by decide +kernel, by decide +kernel, by decide +kernel⟩, by decide +kernel⟩
set_option maxRecDepth 20000 in
theorem mok_206 : mOk 206 := ⟨inT8 _ (List.mem_of_getElem? (i := 31) rfl), inT1 _ (List.mem_of_getElem? (i := 13) rfl), ⟨inT8 _ (List.mem_of_getElem? (i := 30) rfl), inV4 _ (List.mem_of_getElem? (i := 5) rfl)⟩, ⟨by decide +kernel, by decide +kernel, by decide +kernel⟩, by decide +kernel⟩
set_option maxRecDepth 20000 in
theorem mok_207 : mOk 207 := ⟨inT8 _ (List.mem_of_getElem? (i := 27) rfl), inT1 _ (List.mem_of_getElem? (i := 13) rfl), ⟨inT8 _ (List.mem_of_getElem? (i := 26) rfl), inV4 _ (List.mem_of_getElem? (i := 4) rfl)⟩, ⟨by decide +kernel, by decide +kernel, by decide +kernel⟩, by decide +kernel⟩
set_option maxRecDepth 20000 in
theorem mok_208 : mOk 208 := ⟨inT8 _ (List.mem_of_getElem? (i := 23) rfl), inT1 _ (List.mem_of_getElem? (i := 13) rfl), ⟨inT8 _ (List.mem_of_getElem? (i := 22) rfl), inV4 _ (List.mem_of_getElem? (i := 3) rfl)⟩, ⟨by decide +kernel, by decide +kernel, by decide +kernel⟩, by decide +kernel⟩
set_option maxRecDepth 20000 in
theorem mok_209 : mOk 209 := ⟨inT8 _ (List.mem_of_getElem? (i := 1) rfl), inT1 _ (List.mem_of_getElem? (i := 13) rfl), ⟨inT8 _ (List.mem_of_getElem? (i := 0) rfl), inV3 _ (List.mem_of_getElem? (i := 15) rfl)⟩, ⟨by decide +kernel, by decide +kernel, by decide +kernel⟩, by decide +kernel⟩
set_option maxRecDepth 20000 in
theorem mok_210 : mOk 210 := ⟨inT8 _ (List.mem_of_getElem? (i := 113) rfl), inT1 _ (List.mem_of_getElem? (i := 13) rfl), ⟨inT8 _ (List.mem_of_getElem? (i := 111) rfl), inT8 _ (List.mem_of_getElem? (i := 112) rfl)⟩, ⟨by decide +kernel, by decide +kernel, by decide +kernel⟩, by decide +kernel⟩
set_option maxRecDepth 20000 in
theorem mok_211 : mOk 211 := ⟨inT8 _ (List.mem_of_getElem? (i := 117) rfl), inT1 _ (List.mem_of_getElem? (i := 13) rfl), ⟨inT8 _ (List.mem_of_getElem? (i := 115) rfl), inT8 _ (List.mem_of_getElem? (i := 116) rfl)⟩, ⟨by decide +kernel, by decide +kernel, by decide +kernel⟩, by decide +kernel⟩
set_option maxRecDepth 20000 in
theorem mok_212 : mOk 212 := ⟨inT8 _ (List.mem_of_getElem? (i := 165) rfl), inT1 _ (List.mem_of_getElem? (i := 13) rfl), ⟨inT8 _ (List.mem_of_getElem? (i := 164) rfl), inV5 _ (List.mem_of_getElem? (i := 15) rfl)⟩, ⟨by decide +kernel, by decide +kernel, by decide +kernel⟩, by decide +kernel⟩
set_option maxRecDepth 20000 in
theorem mok_213 : mOk 213 := ⟨inT8 _ (List.mem_of_getElem? (i := 161) rfl), inT1 _ (List.mem_of_getElem? (i := 13) rfl), ⟨inT8 _ (List.mem_of_getElem? (i := 160) rfl), inV5 _ (List.mem_of_getElem? (i := 14) rfl)⟩, ⟨by decide +kernel, by decide +kernel, by decide +kernel⟩, by decide +kernel⟩
set_option maxRecDepth 20000 in
theorem mok_214 : mOk 214 := ⟨inT8 _ (List.mem_of_getElem? (i := 157) rfl), inT1 _ (List.mem_of_getElem? (i := 13) rfl), ⟨inT8 _ (List.mem_of_getElem? (i := 156) rfl), inV5 _ (List.mem_of_getElem? (i := 13) rfl)⟩, ⟨by decide +kernel, by decide +kernel, by decide +kernel⟩, by decide +kernel⟩
set_option maxRecDepth 20000 in
theorem mok_215 : mOk 215 := ⟨inT8 _ (List.mem_of_getElem? (i := 153) rfl), inT1 _ (List.mem_of_getElem? (i := 13) rfl), ⟨inT8 _ (List.mem_of_getElem? (i := 152) rfl), inV5 _ (List.mem_of_getElem? (i := 12) rfl)⟩, ⟨by decide +kernel, by decide +kernel, by decide +kernel⟩, by decide +kernel⟩
set_option maxRecDepth 20000 in
theorem mok_216 : mOk 216 := ⟨inT8 _ (List.mem_of_getElem? (i := 208) rfl), inT1 _ (List.mem_of_getElem? (i := 13) rfl), ⟨inT8 _ (List.mem_of_getElem? (i := 207) rfl), inV6 _ (List.mem_of_getElem? (i := 7) rfl)⟩, ⟨by decide +kernel, by decide +kernel, by decide +kernel⟩, by decide +kernel⟩
set_option maxRecDepth 20000 in
theorem mok_217 : mOk 217 := ⟨inT8 _ (List.mem_of_getElem? (i := 149) rfl), inT1 _ (List.mem_of_getElem? (i := 13) rfl), ⟨inT8 _ (List.mem_of_getElem? (i := 148) rfl), inV5 _ (List.mem_of_getElem? (i := 11) rfl)⟩, ⟨by decide +kernel, by decide +kernel, by decide +kernel⟩, by decide +kernel⟩
set_option maxRecDepth 20000 in
theorem mok_218 : mOk 218 := ⟨inT8 _ (List.mem_of_getElem? (i := 145) rfl), inT1 _ (List.mem_of_getElem? (i := 13) rfl), ⟨inT8 _ (List.mem_of_getElem? (i := 144) rfl), inV5 _ (List.mem_of_getElem? (i := 10) rfl)⟩, ⟨by decide +kernel, by decide +kernel, by decide +kernel⟩, by decide +kernel⟩
set_option maxRecDepth 20000 in
theorem mok_219 : mOk 219 := ⟨inT8 _ (List.mem_of_getElem? (i := 184) rfl), inT1 _ (List.mem_of_getElem? (i := 13) rfl), ⟨inT8 _ (List.mem_of_getElem? (i := 183) rfl), inV6 _ (List.mem_of_getElem? (i := 3) rfl)⟩, ⟨by decide +kernel, by decide +kernel, by decide +kernel⟩, by decide +kernel⟩
set_option maxRecDepth 20000 in
theorem mok_220 : mOk 220 := ⟨inT8 _ (List.mem_of_getElem? (i := 191) rfl), inT1 _ (List.mem_of_getElem? (i := 13) rfl), ⟨inT8 _ (List.mem_of_getElem? (i := 190) rfl), inV6 _ (List.mem_of_getElem? (i := 4) rfl)⟩, ⟨by decide +kernel, by decide +kernel, by decide +kernel⟩, by decide +kernel⟩
set_option maxRecDepth 20000 in
theorem mok_221 : mOk 221 := ⟨inT8 _ (List.mem_of_getElem? (i := 195) rfl), inT1 _ (List.mem_of_getElem? (i := 13) rfl), ⟨inT8 _ (List.mem_of_getElem? (i := 194) rfl), inV6 _ (List.mem_of_getElem? (i := 5) rfl)⟩, ⟨by decide +kernel, by decide +kernel, by decide +kernel⟩, by decide +kernel⟩
set_option maxRecDepth 20000 in
theorem mok_222 : mOk 222 := ⟨inT8 _ (List.mem_of_getElem? (i := 180) rfl), inT1 _ (List.mem_of_getElem? (i := 13) rfl), ⟨inT8 _ (List.mem_of_getElem? (i := 179) rfl), inV6 _ (List.mem_of_getElem? (i := 2) rfl)⟩, ⟨by decide +kernel, by decide +kernel, by decide +kernel⟩, by decide +kernel⟩
set_option maxRecDepth 20000 in
theorem mok_223 : mOk 223 := ⟨inT9 _ (List.mem_of_getElem? (i := 4) rfl), inT1 _ (List.mem_of_getElem? (i := 13) rfl), ⟨inT9 _ (List.mem_of_getElem? (i := 3) rfl), inV6 _ (List.mem_of_getElem? (i := 13) rfl)⟩, ⟨by decide +kernel, by decide +kernel, by decide +kernel⟩, by decide +kernel⟩
set_option maxRecDepth 20000 in
theorem mok_224 : mOk 224 := ⟨inT9 _ (List.mem_of_getElem? (i := 0) rfl), inT1 _ (List.mem_of_getElem? (i := 13) rfl), ⟨inT8 _ (List.mem_of_getElem? (i := 239) rfl), inV6 _ (List.mem_of_getElem? (i := 12) rfl)⟩, ⟨by decide +kernel, by decide +kernel, by decide +kernel⟩, by decide +kernel⟩
set_option maxRecDepth 20000 in
theorem mok_225 : mOk 225 := ⟨inT8 _ (List.mem_of_getElem? (i := 172) rfl), inT1 _ (List.mem_of_getElem? (i := 13) rfl), ⟨inT8 _ (List.mem_of_getElem? (i := 171) rfl), inV6 _ (List.mem_of_getElem? (i := 0) rfl)⟩, ⟨by decide +kernel, by decide +kernel, by decide +kernel⟩, by decide +kernel⟩
set_option maxRecDepth 20000 in
theorem mok_226 : mOk 226 := ⟨inT9 _ (List.mem_of_getElem? (i := 12) rfl), inT1 _ (List.mem_of_getElem? (i := 13) rfl), ⟨inT9 _ (List.mem_of_getElem? (i := 11) rfl), inV6 _ (List.mem_of_getElem? (i := 15) rfl)⟩, ⟨by decide +kernel, by decide +kernel, by decide +kernel⟩, by decide +kernel⟩
set_option maxRecDepth 20000 in
theorem mok_227 : mOk 227 := ⟨inT9 _ (List.mem_of_getElem? (i := 17) rfl), inT1 _ (List.mem_of_getElem? (i := 13) rfl), ⟨inT9 _ (List.mem_of_getElem? (i := 16) rfl), inV7 _ (List.mem_of_getElem? (i := 0) rfl)⟩, ⟨by decide +kernel, by decide +kernel, by decide +kernel⟩, by decide +kernel⟩
set_option maxRecDepth 20000 in
theorem mok_228 : mOk 228 := ⟨inT8 _ (List.mem_of_getElem? (i := 236) rfl), inT1 _ (List.mem_of_getElem? (i := 13) rfl), ⟨inT8 _ (List.mem_of_getElem? (i := 235) rfl), inV6 _ (List.mem_of_getElem? (i := 11) rfl)⟩, ⟨by decide +kernel, by decide +kernel, by decide +kernel⟩, by decide +kernel⟩
set_option maxRecDepth 20000 in
theorem mok_229 : mOk 229 := ⟨inT9 _ (List.mem_of_getElem? (i := 8) rfl), inT1 _ (List.mem_of_getElem? (i := 13) rfl), ⟨inT9 _ (List.mem_of_getElem? (i := 7) rfl), inV6 _ (List.mem_of_getElem? (i := 14) rfl)⟩, ⟨by decide +kernel, by decide +kernel, by decide +kernel⟩, by decide +kernel⟩
set_option maxRecDepth 20000 in
theorem mok_230 : mOk 230 := ⟨inT8 _ (List.mem_of_getElem? (i := 232) rfl), inT1 _ (List.mem_of_getElem? (i := 13) rfl), ⟨inT8 _ (List.mem_of_getElem? (i := 231) rfl), inV6 _ (List.mem_of_getElem? (i := 10) rfl)⟩, ⟨by decide +kernel, by decide +kernel, by decide +kernel⟩, by decide +kernel⟩
set_option maxRecDepth 20000 in
theorem mok_231 : mOk 231 := ⟨inT8 _ (List.mem_of_getElem? (i := 141) rfl), inT1 _ (List.mem_of_getElem? (i := 13) rfl), ⟨inT8 _ (List.mem_of_getElem? (i := 140) rfl), inV5 _ (List.mem_of_getElem? (i := 9) rfl)⟩, ⟨by decide +kernel, by decide +kernel, by decide +kernel⟩, by decide +kernel⟩
set_option maxRecDepth 20000 in
theorem mok_232 : mOk 232 := ⟨inT8 _ (List.mem_of_getElem? (i := 133) rfl), inT1 _ (List.mem_of_getElem? (i := 13) rfl), ⟨inT8 _ (List.mem_of_getElem? (i := 132) rfl), inV5 _ (List.mem_of_getElem? (i := 7) rfl)⟩, ⟨by decide +kernel, by decide +kernel, by decide +kernel⟩, by decide +kernel⟩
set_option maxRecDepth 20000 in
theorem mok_233 : mOk 233 := ⟨inT8 _ (List.mem_of_getElem? (i := 121) rfl), inT1 _ (List.mem_of_getElem? (i := 13) rfl), ⟨inT8 _ (List.mem_of_getElem? (i := 119) rfl), inT8 _ (List.mem_of_getElem? (i := 120) rfl)⟩, ⟨by decide +kernel, by decide +kernel, by decide +kernel⟩, by decide +kernel⟩
set_option maxRecDepth 20000 in
theorem mok_234 : mOk 234 := ⟨inT8 _ (List.mem_of_getElem? (i := 200) rfl), inT1 _ (List.mem_of_getElem? (i := 13) rfl), ⟨inT8 _ (List.mem_of_getElem? (i := 198) rfl), inT8 _ (List.mem_of_getElem? (i := 199) rfl)⟩, ⟨by decide +kernel, by decide +kernel, by decide +kernel⟩, by decide +kernel⟩
set_option maxRecDepth 20000 in
theorem mok_235 : mOk 235 := ⟨inT8 _ (List.mem_of_getElem? (i := 216) rfl), inT1 _ (List.mem_of_getElem? (i := 13) rfl), ⟨inT8 _ (List.mem_of_getElem? (i := 215) rfl), inV6 _ (List.mem_of_getElem? (i := 8) rfl)⟩, ⟨by decide +kernel, by decide +kernel, by decide +kernel⟩, by decide +kernel⟩
set_option maxRecDepth 20000 in
theorem mok_236 : mOk 236 := ⟨inT8 _ (List.mem_of_getElem? (i := 212) rfl), inT1 _ (List.mem_of_getElem? (i := 13) rfl), ⟨inT8 _ (List.mem_of_getElem? (i := 210) rfl), inT8 _ (List.mem_of_getElem? (i := 211) rfl)⟩, ⟨by decide +kernel, by decide +kernel, by decide +kernel⟩, by decide +kernel⟩
set_option maxRecDepth 20000 in
theorem mok_237 : mOk 237 := ⟨inT8 _ (List.mem_of_getElem? (i := 220) rfl), inT1 _ (List.mem_of_getElem? (i := 13) rfl), ⟨inT8 _ (List.mem_of_getElem? (i := 218) rfl), inT8 _ (List.mem_of_getElem? (i := 219) rfl)⟩, ⟨by decide +kernel, by decide +kernel, by decide +kernel⟩, by decide +kernel⟩
set_option maxRecDepth 20000 in
theorem mok_238 : mOk 238 := ⟨inT8 _ (List.mem_of_getElem? (i := 228) rfl), inT1 _ (List.mem_of_getElem? (i := 13) rfl), ⟨inT8 _ (List.mem_of_getElem? (i := 227) rfl), inV6 _ (List.mem_of_getElem? (i := 9) rfl)⟩, ⟨by decide +kernel, by decide +kernel, by decide +kernel⟩, by decide +kernel⟩
set_option maxRecDepth 20000 in
theorem mok_239 : mOk 239 := ⟨inT8 _ (List.mem_of_getElem? (i := 224) rfl), inT1 _ (List.mem_of_getElem? (i := 13) rfl), ⟨inT8 _ (List.mem_of_getElem? (i := 222) rfl), inT8 _ (List.mem_of_getElem? (i := 223) rfl)⟩, ⟨by decide +kernel, by decide +kernel, by decide +kernel⟩, by decide +kernel⟩
set_option maxRecDepth 20000 in
theorem mok_240 : mOk 240 := ⟨inT9 _ (List.mem_of_getElem? (i := 28) rfl), inT1 _ (List.mem_of_getElem? (i := 13) rfl), ⟨inT9 _ (List.mem_of_getElem? (i := 27) rfl), inV7 _ (List.mem_of_getElem? (i := 1) rfl)⟩, ⟨by decide +kernel, by decide +kernel, by decide +kernel⟩, by decide +kernel⟩
set_option maxRecDepth 20000 in
theorem mok_241 : mOk 241 := ⟨inT9 _ (List.mem_of_getElem? (i := 24) rfl), inT1 _ (List.mem_of_getElem? (i := 13) rfl), ⟨inT9 _ (List.mem_of_getElem? (i := 22) rfl), inT9 _ (List.mem_of_getElem? (i := 23) rfl)⟩, ⟨by decide +kernel, by decide +kernel, by decide +kernel⟩, by decide +kernel⟩
set_option maxRecDepth 20000 in
theorem mok_242 : mOk 242 := ⟨inT9 _ (List.mem_of_getElem? (i := 32) rfl), inT1 _ (List.mem_of_getElem? (i := 13) rfl), ⟨inT9 _ (List.mem_of_getElem? (i := 30) rfl), inT9 _ (List.mem_of_getElem? (i := 31) rfl)⟩, ⟨by decide +kernel, by decide +kernel, by decide +kernel⟩, by decide +kernel⟩
set_option maxRecDepth 20000 in
theorem mok_243 : mOk 243 := ⟨inT9 _ (List.mem_of_getElem? (i := 36) rfl), inT1 _ (List.mem_of_getElem? (i := 13) rfl), ⟨inT9 _ (List.mem_of_getElem? (i := 34) rfl), inT9 _ (List.mem_of_getElem? (i := 35) rfl)⟩, ⟨by decide +kernel, by decide +kernel, by decide +kernel⟩, by decide +kernel⟩
set_option maxRecDepth 20000 in
theorem mok_244 : mOk 244 := ⟨inT9 _ (List.mem_of_getElem? (i := 40) rfl), inT1 _ (List.mem_of_getElem? (i := 13) rfl), ⟨inT9 _ (List.mem_of_getElem? (i := 38) rfl), inT9 _ (List.mem_of_getElem? (i := 39) rfl)⟩, ⟨by decide +kernel, by decide +kernel, by decide +kernel⟩, by decide +kernel⟩
set_option maxRecDepth 20000 in
theorem mok_245 : mOk 245 := ⟨inT9 _ (List.mem_of_getElem? (i := 44) rfl), inT1 _ (List.mem_of_getElem? (i := 13) rfl), ⟨inT9 _ (List.mem_of_getElem? (i := 42) rfl), inT9 _ (List.mem_of_getElem? (i := 43) rfl)⟩, ⟨by decide +kernel, by decide +kernel, by decide +kernel⟩, by decide +kernel⟩
set_option maxRecDepth 20000 in
theorem mok_246 : mOk 246 := ⟨inT9 _ (List.mem_of_getElem? (i := 51) rfl), inT1 _ (List.mem_of_getElem? (i := 13) rfl), ⟨inT9 _ (List.mem_of_getElem? (i := 49) rfl), inT9 _ (List.mem_of_getElem? (i := 50) rfl)⟩, ⟨by decide +kernel, by decide +kernel, by decide +kernel⟩, by decide +kernel⟩
set_option maxRecDepth 20000 in
theorem mok_247 : mOk 247 := ⟨inT9 _ (List.mem_of_getElem? (i := 55) rfl), inT1 _ (List.mem_of_getElem? (i := 13) rfl), ⟨inT9 _ (List.mem_of_getElem? (i := 53) rfl), inT9 _ (List.mem_of_getElem? (i := 54) rfl)⟩, ⟨by decide +kernel, by decide +kernel, by decide +kernel⟩, by decide +kernel⟩
set_option maxRecDepth 20000 in
theorem mok_248 : mOk 248 := ⟨inT9 _ (List.mem_of_getElem? (i := 59) rfl), inT1 _ (List.mem_of_getElem? (i := 13) rfl), ⟨inT9 _ (List.mem_of_getElem? (i := 57) rfl), inT9 _ (List.mem_of_getElem? (i := 58) rfl)⟩, ⟨by decide +kernel, by decide +kernel, by decide +kernel⟩, by decide +kernel⟩
set_option maxRecDepth 20000 in
theorem mok_249 : mOk 249 := ⟨inT9 _ (List.mem_of_getElem? (i := 63) rfl), inT1 _ (List.mem_of_getElem? (i := 13) rfl), ⟨inT9 _ (List.mem_of_getElem? (i := 61) rfl), inT9 _ (List.mem_of_getElem? (i := 62) rfl)⟩, ⟨by decide +kernel, by decide +kernel, by decide +kernel⟩, by decide +kernel⟩
set_option maxRecDepth 20000 in
theorem mok_250 : mOk 250 := ⟨inT9 _ (List.mem_of_getElem? (i := 71) rfl), inT1 _ (List.mem_of_getElem? (i := 13) rfl), ⟨inT9 _ (List.mem_of_getElem? (i := 70) rfl), inV7 _ (List.mem_of_getElem? (i := 2) rfl)⟩, ⟨by decide +kernel, by decide +kernel, by decide +kernel⟩, by decide +kernel⟩
set_option maxRecDepth 20000 in
theorem mok_251 : mOk 251 := ⟨inT9 _ (List.mem_of_getElem? (i := 67) rfl), inT1 _ (List.mem_of_getElem? (i := 13) rfl), ⟨inT9 _ (List.mem_of_getElem? (i := 65) rfl), inT9 _ (List.mem_of_getElem? (i := 66) rfl)⟩, ⟨by decide +kernel, by decide +kernel, by decide +kernel⟩, by decide +kernel⟩
set_option maxRecDepth 20000 in
theorem mok_252 : mOk 252 := ⟨inT9 _ (List.mem_of_getElem? (i := 75) rfl), inT1 _ (List.mem_of_getElem? (i := 13) rfl), ⟨inT9 _ (List.mem_of_getElem? (i := 73) rfl), inT9 _ (List.mem_of_getElem? (i := 74) rfl)⟩, ⟨by decide +kernel, by decide +kernel, by decide +kernel⟩, by decide +kernel⟩
set_option maxRecDepth 20000 in
theorem mok_253 : mOk 253 := ⟨inT9 _ (List.mem_of_getElem? (i := 79) rfl), inT1 _ (List.mem_of_getElem? (i := 13) rfl), ⟨inT9 _ (List.mem_of_getElem? (i := 77) rfl), inT9 _ (List.mem_of_getElem? (i := 78) rfl)⟩, ⟨by decide +kernel, by decide +kernel, by decide +kernel⟩, by decide +kernel⟩
set_option maxRecDepth 20000 in
theorem mok_254 : mOk 254 := ⟨inT9 _ (List.mem_of_getElem? (i := 83) rfl), inT1 _ (List.mem_of_getElem? (i := 13) rfl), ⟨inT9 _ (List.mem_of_getElem? (i := 81) rfl), inT9 _ (List.mem_of_getElem? (i := 82) rfl)⟩, ⟨by decide +kernel, by decide +kernel, by decide +kernel⟩, by decide +kernel⟩
set_option maxRecDepth 20000 in
theorem mok_255 : mOk 255 := ⟨inT9 _ (List.mem_of_getElem? (i := 94) rfl), inT1 _ (List.mem_of_getElem? (i := 13) rfl), ⟨inT9 _ (List.mem_of_getElem? (i := 93) rfl), inV7 _ (List.mem_of_getElem? (i := 3) rfl)⟩, ⟨by decide +kernel, by decide +kernel, by decide +kernel⟩, by decide +kernel⟩
set_option maxRecDepth 20000 in
theorem mok_256 : mOk 256 := ⟨inT9 _ (List.mem_of_getElem? (i := 90) rfl), inT1 _ (List.mem_of_getElem? (i := 13) rfl), ⟨inT9 _ (List.mem_of_getElem? (i := 88) rfl), inT9 _ (List.mem_of_getElem? (i := 89) rfl)⟩, ⟨by decide +kernel, by decide +kernel, by decide +kernel⟩, by decide +kernel⟩
set_option maxRecDepth 20000 in
theorem mok_257 : mOk 257 := ⟨inT9 _ (List.mem_of_getElem? (i := 98) rfl), inT1 _ (List.mem_of_getElem? (i := 13) rfl), ⟨inT9 _ (List.mem_of_getElem? (i := 96) rfl), inT9 _ (List.mem_of_getElem? (i := 97) rfl)⟩, ⟨by decide +kernel, by decide +kernel, by decide +kernel⟩, by decide +kernel⟩
set_option maxRecDepth 20000 in
theorem mok_258 : mOk 258 := ⟨inT9 _ (List.mem_of_getElem? (i := 102) rfl), inT1 _ (List.mem_of_getElem? (i := 13) rfl), ⟨inT9 _ (List.mem_of_getElem? (i := 100) rfl), inT9 _ (List.mem_of_getElem? (i := 101) rfl)⟩, ⟨by decide +kernel, by decide +kernel, by decide +kernel⟩, by decide +kernel⟩
set_option maxRecDepth 20000 in
theorem mok_259 : mOk 259 := ⟨inT9 _ (List.mem_of_getElem? (i := 106) rfl), inT1 _ (List.mem_of_getElem? (i := 13) rfl), ⟨inT9 _ (List.mem_of_getElem? (i := 104) rfl), inT9 _ (List.mem_of_getElem? (i := 105) rfl)⟩, ⟨by decide +kernel, by decide +kernel, by decide +kernel⟩, by decide +kernel⟩
set_option maxRecDepth 20000 in
theorem mok_260 : mOk 260 := ⟨inT9 _ (List.mem_of_getElem? (i := 110) rfl), inT1 _ (List.mem_of_getElem? (i := 13) rfl), ⟨inT9 _ (List.mem_of_getElem? (i := 108) rfl), inT9 _ (List.mem_of_getElem? (i := 109) rfl)⟩, ⟨by decide +kernel, by decide +kernel, by decide +kernel⟩, by decide +kernel⟩
set_option maxRecDepth 20000 in
theorem mok_261 : mOk 261 := ⟨inT9 _ (List.mem_of_getElem? (i := 114) rfl), inT1 _ (List.mem_of_getElem? (i := 13) rfl), ⟨inT9 _ (List.mem_of_getElem? (i := 112) rfl), inT9 _ (List.mem_of_getElem? (i := 113) rfl)⟩, ⟨by decide +kernel, by decide +kernel, by decide +kernel⟩, by decide +kernel⟩
set_option maxRecDepth 20000 in
theorem mok_262 : mOk 262 := ⟨inT9 _ (List.mem_of_getElem? (i := 118) rfl), inT1 _ (List.mem_of_getElem? (i := 13) rfl), ⟨inT9 _ (List.mem_of_getElem? (i := 116) rfl), inT9 _ (List.mem_of_getElem? (i := 117) rfl)⟩, ⟨by decide +kernel, by decide +kernel, by decide +kernel⟩, by decide +kernel⟩
set_option maxRecDepth 20000 in
theorem mok_263 : mOk 263 := ⟨inT9 _ (List.mem_of_getElem? (i := 127) rfl), inT1 _ (List.mem_of_getElem? (i := 13) rfl), ⟨inT9 _ (List.mem_of_getElem? (i := 126) rfl), inV7 _ (List.mem_of_getElem? (i := 4) rfl)⟩, ⟨by decide +kernel, by decide +kernel, by decide +kernel⟩, by decide +kernel⟩
set_option maxRecDepth 20000 in
theorem mok_264 : mOk 264 := ⟨inT9 _ (List.mem_of_getElem? (i := 123) rfl), inT1 _ (List.mem_of_getElem? (i := 13) rfl), ⟨inT9 _ (List.mem_of_getElem? (i := 121) rfl), inT9 _ (List.mem_of_getElem? (i := 122) rfl)⟩, ⟨by decide +kernel, by decide +kernel, by decide +kernel⟩, by decide +kernel⟩
set_option maxRecDepth 20000 in
theorem mok_265 : mOk 265 := ⟨inT9 _ (List.mem_of_getElem? (i := 131) rfl), inT1 _ (List.mem_of_getElem? (i := 13) rfl), ⟨inT9 _ (List.mem_of_getElem? (i := 129) rfl), inT9 _ (List.mem_of_getElem? (i := 130) rfl)⟩, ⟨by decide +kernel, by decide +kernel, by decide +kernel⟩, by decide +kernel⟩
set_option maxRecDepth 20000 in
theorem mok_266 : mOk 266 := ⟨inT9 _ (List.mem_of_getElem? (i := 139) rfl), inT1 _ (List.mem_of_getElem? (i := 13) rfl), ⟨inT9 _ (List.mem_of_getElem? (i := 138) rfl), inV7 _ (List.mem_of_getElem? (i := 5) rfl)⟩, ⟨by decide +kernel, by decide +kernel, by decide +kernel⟩, by decide +kernel⟩
set_option maxRecDepth 20000 in
theorem mok_267 : mOk 267 := ⟨inT9 _ (List.mem_of_getElem? (i := 135) rfl), inT1 _ (List.mem_of_getElem? (i := 13) rfl), ⟨inT9 _ (List.mem_of_getElem? (i := 133) rfl), inT9 _ (List.mem_of_getElem? (i := 134) rfl)⟩, ⟨by decide +kernel, by decide +kernel, by decide +kernel⟩, by decide +kernel⟩
set_option maxRecDepth 20000 in
theorem mok_268 : mOk 268 := ⟨inT9 _ (List.mem_of_getElem? (i := 147) rfl), inT1 _ (List.mem_of_getElem? (i := 13) rfl), ⟨inT9 _ (List.mem_of_getElem? (i := 146) rfl), inV7 _ (List.mem_of_getElem? (i := 6) rfl)⟩, ⟨by decide +kernel, by decide +kernel, by decide +kernel⟩, by decide +kernel⟩
set_option maxRecDepth 20000 in
theorem mok_269 : mOk 269 := ⟨inT9 _ (List.mem_of_getElem? (i := 143) rfl), inT1 _ (List.mem_of_getElem? (i := 13) rfl), ⟨inT9 _ (List.mem_of_getElem? (i := 141) rfl), inT9 _ (List.mem_of_getElem? (i := 142) rfl)⟩, ⟨by decide +kernel, by decide +kernel, by decide +kernel⟩, by decide +kernel⟩
set_option maxRecDepth 20000 in
theorem mok_270 : mOk 270 := ⟨inT9 _ (List.mem_of_getElem? (i := 155) rfl), inT1 _ (List.mem_of_getElem? (i := 13) rfl), ⟨inT9 _ (List.mem_of_getElem? (i := 154) rfl), inV7 _ (List.mem_of_getElem? (i := 7) rfl)⟩, ⟨by decide +kernel, by decide +kernel, by decide +kernel⟩, by decide +kernel⟩
set_option maxRecDepth 20000 in
theorem mok_271 : mOk 271 := ⟨inT9 _ (List.mem_of_getElem? (i := 151) rfl), inT1 _ (List.mem_of_getElem? (i := 13) rfl), ⟨inT9 _ (List.mem_of_getElem? (i := 149) rfl), inT9 _ (List.mem_of_getElem? (i := 150) rfl)⟩, ⟨by decide +kernel, by decide +kernel, by decide +kernel⟩, by decide +kernel⟩
set_option maxRecDepth 20000 in
theorem mok_272 : mOk 272 := ⟨inT9 _ (List.mem_of_getElem? (i := 159) rfl), inT1 _ (List.mem_of_getElem? (i := 13) rfl), ⟨inT9 _ (List.mem_of_getElem? (i := 157) rfl), inT9 _ (List.mem_of_getElem? (i := 158) rfl)⟩, ⟨by decide +kernel, by decide +kernel, by decide +kernel⟩, by decide +kernel⟩
set_option maxRecDepth 20000 in
theorem mok_273 : mOk 273 := ⟨inT9 _ (List.mem_of_getElem? (i := 163) rfl), inT1 _ (List.mem_of_getElem? (i := 13) rfl), ⟨inT9 _ (List.mem_of_getElem? (i := 161) rfl), inT9 _ (List.mem_of_getElem? (i := 162) rfl)⟩, ⟨by decide +kernel, by decide +kernel, by decide +kernel⟩, by decide +kernel⟩
set_option maxRecDepth 20000 in
theorem mok_274 : mOk 274 := ⟨inT9 _ (List.mem_of_getElem? (i := 171) rfl), inT1 _ (List.mem_of_getElem? (i := 13) rfl), ⟨inT9 _ (List.mem_of_getElem? (i := 170) rfl), inV7 _ (List.mem_of_getElem? (i := 8) rfl)⟩, ⟨by decide +kernel, by decide +kernel, by decide +kernel⟩, by decide +kernel⟩
set_option maxRecDepth 20000 in
theorem mok_275 : mOk 275 := ⟨inT9 _ (List.mem_of_getElem? (i := 167) rfl), inT1 _ (List.mem_of_getElem? (i := 13) rfl), ⟨inT9 _ (List.mem_of_getElem? (i := 165) rfl), inT9 _ (List.mem_of_getElem? (i := 166) rfl)⟩, ⟨by decide +kernel, by decide +kernel, by decide +kernel⟩, by decide +kernel⟩
set_option maxRecDepth 20000 in
theorem mok_276 : mOk 276 := ⟨inT9 _ (List.mem_of_getElem? (i := 183) rfl), inT1 _ (List.mem_of_getElem? (i := 13) rfl), ⟨inT9 _ (List.mem_of_getElem? (i := 182) rfl), inV7 _ (List.mem_of_getElem? (i := 10) rfl)⟩, ⟨by decide +kernel, by decide +kernel, by decide +kernel⟩, by decide +kernel⟩
set_option maxRecDepth 20000 in
theorem mok_277 : mOk 277 := ⟨inT9 _ (List.mem_of_getElem? (i := 179) rfl), inT1 _ (List.mem_of_getElem? (i := 13) rfl), ⟨inT9 _ (List.mem_of_getElem? (i := 178) rfl), inV7 _ (List.mem_of_getElem? (i := 9) rfl)⟩, ⟨by decide +kernel, by decide +kernel, by decide +kernel⟩, by decide +kernel⟩
set_option maxRecDepth 20000 in
theorem mok_278 : mOk 278 := ⟨inT9 _ (List.mem_of_getElem? (i := 175) rfl), inT1 _ (List.mem_of_getElem? (i := 13) rfl), ⟨inT9 _ (List.mem_of_getElem? (i := 173) rfl), inT9 _ (List.mem_of_getElem? (i := 174) rfl)⟩, ⟨by decide +kernel, by decide +kernel, by decide +kernel⟩, by decide +kernel⟩
set_option maxRecDepth 20000 in
theorem mok_279 : mOk 279 := ⟨inT9 _ (List.mem_of_getElem? (i := 187) rfl), inT1 _ (List.mem_of_getElem? (i := 13) rfl), ⟨inT9 _ (List.mem_of_getElem? (i := 185) rfl), inT9 _ (List.mem_of_getElem? (i := 186) rfl)⟩, ⟨by decide +kernel, by decide +kernel, by decide +kernel⟩, by decide +kernel⟩
set_option maxRecDepth 20000 in
theorem mok_280 : mOk 280 := ⟨inT9 _ (List.mem_of_getElem? (i := 202) rfl), inT1 _ (List.mem_of_getElem? (i := 13) rfl), ⟨inT9 _ (List.mem_of_getElem? (i := 201) rfl), inV7 _ (List.mem_of_getElem? (i := 12) rfl)⟩, ⟨by decide +kernel, by decide +kernel, by decide +kernel⟩, by decide +kernel⟩
set_option maxRecDepth 20000 in
theorem mok_281 : mOk 281 := ⟨inT9 _ (List.mem_of_getElem? (i := 198) rfl), inT1 _ (List.mem_of_getElem? (i := 13) rfl), ⟨inT9 _ (List.mem_of_getElem? (i := 197) rfl), inV7 _ (List.mem_of_getElem? (i := 11) rfl)⟩, ⟨by decide +kernel, by decide +kernel, by decide +kernel⟩, by decide +kernel⟩
set_option maxRecDepth 20000 in
theorem mok_282 : mOk 282 := ⟨inT9 _ (List.mem_of_getElem? (i := 191) rfl), inT1 _ (List.mem_of_getElem? (i := 13) rfl), ⟨inT9 _ (List.mem_of_getElem? (i := 189) rfl), inT9 _ (List.mem_of_getElem? (i := 190) rfl)⟩, ⟨by decide +kernel, by decide +kernel, by decide +kernel⟩, by decide +kernel⟩
set_option maxRecDepth 20000 in
theorem mok_283 : mOk 283 := ⟨inT9 _ (List.mem_of_getElem? (i := 206) rfl), inT1 _ (List.mem_of_getElem? (i := 13) rfl), ⟨inT9 _ (List.mem_of_getElem? (i := 204) rfl), inT9 _ (List.mem_of_getElem? (i := 205) rfl)⟩, ⟨by decide +kernel, by decide +kernel, by decide +kernel⟩, by decide +kernel⟩
set_option maxRecDepth 20000 in
theorem mok_284 : mOk 284 := ⟨inT9 _ (List.mem_of_getElem? (i := 218) rfl), inT1 _ (List.mem_of_getElem? (i := 13) rfl), ⟨inT9 _ (List.mem_of_getElem? (i := 217) rfl), inV7 _ (List.mem_of_getElem? (i := 14) rfl)⟩, ⟨by decide +kernel, by decide +kernel, by decide +kernel⟩, by decide +kernel⟩
set_option maxRecDepth 20000 in
theorem mok_285 : mOk 285 := ⟨inT9 _ (List.mem_of_getElem? (i := 214) rfl), inT1 _ (List.mem_of_getElem? (i := 13) rfl), ⟨inT9 _ (List.mem_of_getElem? (i := 213) rfl), inV7 _ (List.mem_of_getElem? (i := 13) rfl)⟩, ⟨by decide +kernel, by decide +kernel, by decide +kernel⟩, by decide +kernel⟩
set_option maxRecDepth 20000 in
theorem mok_286 : mOk 286 := ⟨inT9 _ (List.mem_of_getElem? (i := 210) rfl), inT1 _ (List.mem_of_getElem? (i := 13) rfl), ⟨inT9 _ (List.mem_of_getElem? (i := 208) rfl), inT9 _ (List.mem_of_getElem? (i := 209) rfl)⟩, ⟨by decide +kernel, by decide +kernel, by decide +kernel⟩, by decide +kernel⟩
set_option maxRecDepth 20000 in
theorem mok_287 : mOk 287 := ⟨inT9 _ (List.mem_of_getElem? (i := 222) rfl), inT1 _ (List.mem_of_getElem? (i := 13) rfl), ⟨inT9 _ (List.mem_of_getElem? (i := 220) rfl), inT9 _ (List.mem_of_getElem? (i := 221) rfl)⟩, ⟨by decide +kernel, by decide +kernel, by decide +kernel⟩, by decide +kernel⟩
set_option maxRecDepth 20000 in
theorem mok_288 : mOk 288 := ⟨inT9 _ (List.mem_of_getElem? (i := 230) rfl), inT1 _ (List.mem_of_getElem? (i := 13) rfl), ⟨inT9 _ (List.mem_of_getElem? (i := 229) rfl), inV7 _ (List.mem_of_getElem? (i := 15) rfl)⟩, ⟨by decide +kernel, by decide +kernel, by decide +kernel⟩, by decide +kernel⟩
set_option maxRecDepth 20000 in
theorem mok_289 : mOk 289 := ⟨inT9 _ (List.mem_of_getElem? (i := 226) rfl), inT1 _ (List.mem_of_getElem? (i := 13) rfl), ⟨inT9 _ (List.mem_of_getElem? (i := 224) rfl), inT9 _ (List.mem_of_getElem? (i := 225) rfl)⟩, ⟨by decide +kernel, by decide +kernel, by decide +kernel⟩, by decide +kernel⟩
set_option maxRecDepth 20000 in
theorem mok_290 : mOk 290 := ⟨inT9 _ (List.mem_of_getElem? (i := 234) rfl), inT1 _ (List.mem_of_getElem? (i := 13) rfl), ⟨inT9 _ (List.mem_of_getElem? (i := 232) rfl), inT9 _ (List.mem_of_getElem? (i := 233) rfl)⟩, ⟨by decide +kernel, by decide +kernel, by decide +kernel⟩, by decide +kernel⟩
set_option maxRecDepth 20000 in
theorem mok_291 : mOk 291 := ⟨inT9 _ (List.mem_of_getElem? (i := 238) rfl), inT1 _ (List.mem_of_getElem? (i := 13) rfl), ⟨inT9 _ (List.mem_of_getElem? (i := 236) rfl), inT9 _ (List.mem_of_getElem? (i := 237) rfl)⟩, ⟨by decide +kernel, by decide +kernel, by decide +kernel⟩, by decide +kernel⟩
set_option maxRecDepth 20000 in
theorem mok_292 : mOk 292 := ⟨inT10 _ (List.mem_of_getElem? (i := 5) rfl), inT1 _ (List.mem_of_getElem? (i := 13) rfl), inT10 _ (List.mem_of_getElem? (i := 4) rfl), ⟨by decide +kernel, by decide +kernel, by decide +kernel⟩, by decide +kernel⟩
set_option maxRecDepth 20000 in
theorem mok_293 : mOk 293 := ⟨inT10 _ (List.mem_of_getElem? (i := 8) rfl), inT1 _ (List.mem_of_getElem? (i := 13) rfl), inT10 _ (List.mem_of_getElem? (i := 7) rfl), ⟨by decide +kernel, by decide +kernel, by decide +kernel⟩, by decide +kernel⟩
set_option maxRecDepth 20000 in
theorem mok_294 : mOk 294 := ⟨inT10 _ (List.mem_of_getElem? (i := 2) rfl), inT1 _ (List.mem_of_getElem? (i := 13) rfl), ⟨inT10 _ (List.mem_of_getElem? (i := 0) rfl), inT10 _ (List.mem_of_getElem? (i := 1) rfl)⟩, ⟨by decide +kernel, by decide +kernel, by decide +kernel⟩, by decide +kernel⟩
set_option maxRecDepth 20000 in
theorem mok_295 : mOk 295 := ⟨inT10 _ (List.mem_of_getElem? (i := 12) rfl), inT1 _ (List.mem_of_getElem? (i := 13) rfl), ⟨inT10 _ (List.mem_of_getElem? (i := 10) rfl), inT10 _ (List.mem_of_getElem? (i := 11) rfl)⟩, ⟨by decide +kernel, by decide +kernel, by decide +kernel⟩, by decide +kernel⟩
set_option maxRecDepth 20000 in
theorem mok_296 : mOk 296 := ⟨inT10 _ (List.mem_of_getElem? (i := 16) rfl), inT1 _ (List.mem_of_getElem? (i := 13) rfl), ⟨inT10 _ (List.mem_of_getElem? (i := 14) rfl), inT10 _ (List.mem_of_getElem? (i := 15) rfl)⟩, ⟨by decide +kernel, by decide +kernel, by decide +kernel⟩, by decide +kernel⟩
set_option maxRecDepth 20000 in
theorem mok_297 : mOk 297 := ⟨inT10 _ (List.mem_of_getElem? (i := 20) rfl), inT1 _ (List.mem_of_getElem? (i := 13) rfl), ⟨inT10 _ (List.mem_of_getElem? (i := 18) rfl), inT10 _ (List.mem_of_getElem? (i := 19) rfl)⟩, ⟨by decide +kernel, by decide +kernel, by decide +kernel⟩, by decide +kernel⟩
set_option maxRecDepth 20000 in
theorem mok_298 : mOk 298 := ⟨inT10 _ (List.mem_of_getElem? (i := 24) rfl), inT1 _ (List.mem_of_getElem? (i := 13) rfl), ⟨inT10 _ (List.mem_of_getElem? (i := 22) rfl), inT10 _ (List.mem_of_getElem? (i := 23) rfl)⟩, ⟨by decide +kernel, by decide +kernel, by decide +kernel⟩, by decide +kernel⟩
set_option maxRecDepth 20000 in
theorem mok_299 : mOk 299 := ⟨inT10 _ (List.mem_of_getElem? (i := 32) rfl), inT1 _ (List.mem_of_getElem? (i := 13) rfl), ⟨inT10 _ (List.mem_of_getElem? (i := 31) rfl), inV8 _ (List.mem_of_getElem? (i := 0) rfl)⟩, ⟨by decide +kernel, by decide +kernel, by decide +kernel⟩, by decide +kernel⟩
set_option maxRecDepth 20000 in
theorem mok_300 : mOk 300 := ⟨inT10 _ (List.mem_of_getElem? (i := 28) rfl), inT1 _ (List.mem_of_getElem? (i := 13) rfl), ⟨inT10 _ (List.mem_of_getElem? (i := 26) rfl), inT10 _ (List.mem_of_getElem? (i := 27) rfl)⟩, ⟨by decide +kernel, by decide +kernel, by decide +kernel⟩, by decide +kernel⟩
set_option maxRecDepth 20000 in
theorem mok_301 : mOk 301 := ⟨inT10 _ (List.mem_of_getElem? (i := 36) rfl), inT1 _ (List.mem_of_getElem? (i := 13) rfl), ⟨inT10 _ (List.mem_of_getElem? (i := 34) rfl), inT10 _ (List.mem_of_getElem? (i := 35) rfl)⟩, ⟨by decide +kernel, by decide +kernel, by decide +kernel⟩, by decide +kernel⟩
set_option maxRecDepth 20000 in
theorem mok_302 : mOk 302 := ⟨inT10 _ (List.mem_of_getElem? (i := 40) rfl), inT1 _ (List.mem_of_getElem? (i := 13) rfl), ⟨inT10 _ (List.mem_of_getElem? (i := 38) rfl), inT10 _ (List.mem_of_getElem? (i := 39) rfl)⟩, ⟨by decide +kernel, by decide +kernel, by decide +kernel⟩, by decide +kernel⟩
set_option maxRecDepth 20000 in
theorem mok_303 : mOk 303 := ⟨inT10 _ (List.mem_of_getElem? (i := 44) rfl), inT1 _ (List.mem_of_getElem? (i := 13) rfl), ⟨inT10 _ (List.mem_of_getElem? (i := 42) rfl), inT10 _ (List.mem_of_getElem? (i := 43) rfl)⟩, ⟨by decide +kernel, by decide +kernel, by decide +kernel⟩, by decide +kernel⟩
set_option maxRecDepth 20000 in
theorem mok_304 : mOk 304 := ⟨inT10 _ (List.mem_of_getElem? (i := 48) rfl), inT1 _ (List.mem_of_getElem? (i := 13) rfl), ⟨inT10 _ (List.mem_of_getElem? (i := 46) rfl), inT10 _ (List.mem_of_getElem? (i := 47) rfl)⟩, ⟨by decide +kernel, by decide +kernel, by decide +kernel⟩, by decide +kernel⟩
set_option maxRecDepth 20000 in
theorem mok_305 : mOk 305 := ⟨inT8 _ (List.mem_of_getElem? (i := 137) rfl), inT1 _ (List.mem_of_getElem? (i := 13) rfl), ⟨inT8 _ (List.mem_of_getElem? (i := 136) rfl), inV5 _ (List.mem_of_getElem? (i := 8) rfl)⟩, ⟨by decide +kernel, by decide +kernel, by decide +kernel⟩, by decide +kernel⟩
set_option maxRecDepth 20000 in
theorem mok_306 : mOk 306 := ⟨inT10 _ (List.mem_of_getElem? (i := 52) rfl), inT1 _ (List.mem_of_getElem? (i := 13) rfl), ⟨inT10 _ (List.mem_of_getElem? (i := 50) rfl), inT10 _ (List.mem_of_getElem? (i := 51) rfl)⟩, ⟨by decide +kernel, by decide +kernel, by decide +kernel⟩, by decide +kernel⟩
set_option maxRecDepth 20000 in
theorem mok_307 : mOk 307 := ⟨inT10 _ (List.mem_of_getElem? (i := 56) rfl), inT1 _ (List.mem_of_getElem? (i := 13) rfl), ⟨inT10 _ (List.mem_of_getElem? (i := 54) rfl), inT10 _ (List.mem_of_getElem? (i := 55) rfl)⟩, ⟨by decide +kernel, by decide +kernel, by decide +kernel⟩, by decide +kernel⟩
set_option maxRecDepth 20000 in
theorem mok_308 : mOk 308 := ⟨inT10 _ (List.mem_of_getElem? (i := 60) rfl), inT1 _ (List.mem_of_getElem? (i := 13) rfl), ⟨inT10 _ (List.mem_of_getElem? (i := 58) rfl), inT10 _ (List.mem_of_getElem? (i := 59) rfl)⟩, ⟨by decide +kernel, by decide +kernel, by decide +kernel⟩, by decide +kernel⟩
set_option maxRecDepth 20000 in
theorem mok_309 : mOk 309 := ⟨inT10 _ (List.mem_of_getElem? (i := 64) rfl), inT1 _ (List.mem_of_getElem? (i := 13) rfl), ⟨inT10 _ (List.mem_of_getElem? (i := 62) rfl), inT10 _ (List.mem_of_getElem? (i := 63) rfl)⟩, ⟨by decide +kernel, by decide +kernel, by decide +kernel⟩, by decide +kernel⟩
set_option maxRecDepth 20000 in
theorem mok_310 : mOk 310 := ⟨inT10 _ (List.mem_of_getElem? (i := 68) rfl), inT1 _ (List.mem_of_getElem? (i := 13) rfl), ⟨inT10 _ (List.mem_of_getElem? (i := 66) rfl), inT10 _ (List.mem_of_getElem? (i := 67) rfl)⟩, ⟨by decide +kernel, by decide +kernel, by decide +kernel⟩, by decide +kernel⟩
set_option maxRecDepth 20000 in
theorem mok_311 : mOk 311 := ⟨inT10 _ (List.mem_of_getElem? (i := 72) rfl), inT1 _ (List.mem_of_getElem? (i := 13) rfl), ⟨inT10 _ (List.mem_of_getElem? (i := 70) rfl), inT10 _ (List.mem_of_getElem? (i := 71) rfl)⟩, ⟨by decide +kernel, by decide +kernel, by decide +kernel⟩, by decide +kernel⟩
set_option maxRecDepth 20000 in
theorem mok_312 : mOk 312 := ⟨inT10 _ (List.mem_of_getElem? (i := 76) rfl), inT1 _ (List.mem_of_getElem? (i := 13) rfl), ⟨inT10 _ (List.mem_of_getElem? (i := 74) rfl), inT10 _ (List.mem_of_getElem? (i := 75) rfl)⟩, ⟨by decide +kernel, by decide +kernel, by decide +kernel⟩, by decide +kernel⟩
set_option maxRecDepth 20000 in
theorem mok_313 : mOk 313 := ⟨inT3 _ (List.mem_of_getElem? (i := 213) rfl), inT1 _ (List.mem_of_getElem? (i := 27) rfl), inT3 _ (List.mem_of_getElem? (i := 212) rfl), ⟨by decide +kernel, by decide +kernel, by decide +kernel⟩, by decide +kernel⟩
set_option maxRecDepth 20000 in
theorem mok_314 : mOk 314 := ⟨inT6 _ (List.mem_of_getElem? (i := 136) rfl), inT1 _ (List.mem_of_getElem? (i := 27) rfl), inT6 _ (List.mem_of_getElem? (i := 135) rfl), ⟨by decide +kernel, by decide +kernel, by decide +kernel⟩, by decide +kernel⟩
set_option maxRecDepth 20000 in
theorem mok_315 : mOk 315 := ⟨inT3 _ (List.mem_of_getElem? (i := 5) rfl), inT1 _ (List.mem_of_getElem? (i := 27) rfl), inT3 _ (List.mem_of_getElem? (i := 4) rfl), ⟨by decide +kernel, by decide +kernel, by decide +kernel⟩, by decide +kernel⟩
set_option maxRecDepth 20000 in
theorem mok_316 : mOk 316 := ⟨inT3 _ (List.mem_of_getElem? (i := 210) rfl), inT1 _ (List.mem_of_getElem? (i := 30) rfl), inT3 _ (List.mem_of_getElem? (i := 209) rfl), ⟨by decide +kernel, by decide +kernel, by decide +kernel⟩, by decide +kernel⟩
set_option maxRecDepth 20000 in
theorem mok_317 : mOk 317 := ⟨inT6 _ (List.mem_of_getElem? (i := 133) rfl), inT1 _ (List.mem_of_getElem? (i := 30) rfl), inT6 _ (List.mem_of_getElem? (i := 132) rfl), ⟨by decide +kernel, by decide +kernel, by decide +kernel⟩, by decide +kernel⟩
set_option maxRecDepth 20000 in
theorem mok_318 : mOk 318 := ⟨inT3 _ (List.mem_of_getElem? (i := 221) rfl), inT1 _ (List.mem_of_getElem? (i := 30) rfl), inT3 _ (List.mem_of_getElem? (i := 220) rfl), ⟨by decide +kernel, by decide +kernel, by decide +kernel⟩, by decide +kernel⟩
set_option maxRecDepth 20000 in
theorem mok_319 : mOk 319 := ⟨inT5 _ (List.mem_of_getElem? (i := 158) rfl), inT1 _ (List.mem_of_getElem? (i := 25) rfl), inT5 _ (List.mem_of_getElem? (i := 157) rfl), ⟨by decide +kernel, by decide +kernel, by decide +kernel⟩, by decide +kernel⟩
set_option maxRecDepth 20000 in
theorem mok_320 : mOk 320 := ⟨inT3 _ (List.mem_of_getElem? (i := 53) rfl), inT1 _ (List.mem_of_getElem? (i := 25) rfl), inT3 _ (List.mem_of_getElem? (i := 52) rfl), ⟨by decide +kernel, by decide +kernel, by decide +kernel⟩, by decide +kernel⟩
set_option maxRecDepth 20000 in
theorem mok_321 : mOk 321 := ⟨inT3 _ (List.mem_of_getElem? (i := 64) rfl), inT1 _ (List.mem_of_getElem? (i := 25) rfl), inT3 _ (List.mem_of_getElem? (i := 63) rfl), ⟨by decide +kernel, by decide +kernel, by decide +kernel⟩, by decide +kernel⟩
set_option maxRecDepth 20000 in
theorem mok_322 : mOk 322 := ⟨inT3 _ (List.mem_of_getElem? (i := 106) rfl), inT1 _ (List.mem_of_getElem? (i := 25) rfl), inT3 _ (List.mem_of_getElem? (i := 105) rfl), ⟨by decide +kernel, by decide +kernel, by decide +kernel⟩, by decide +kernel⟩
set_option maxRecDepth 20000 in
theorem mok_323 : mOk 323 := ⟨inT4 _ (List.mem_of_getElem? (i := 98) rfl), inT1 _ (List.mem_of_getElem? (i := 15) rfl), ⟨inT4 _ (List.mem_of_getElem? (i := 96) rfl), inT4 _ (List.mem_of_getElem? (i := 97) rfl)⟩, ⟨by decide +kernel, by decide +kernel, by decide +kernel⟩, by decide +kernel⟩
set_option maxRecDepth 20000 in
theorem mok_324 : mOk 324 := ⟨inT4 _ (List.mem_of_getElem? (i := 108) rfl), inT1 _ (List.mem_of_getElem? (i := 15) rfl), ⟨inT4 _ (List.mem_of_getElem? (i := 106) rfl), inT4 _ (List.mem_of_getElem? (i := 107) rfl)⟩, ⟨by decide +kernel, by decide +kernel, by decide +kernel⟩, by decide +kernel⟩
set_option maxRecDepth 20000 in
theorem mok_325 : mOk 325 := ⟨inT4 _ (List.mem_of_getElem? (i := 102) rfl), inT1 _ (List.mem_of_getElem? (i := 15) rfl), ⟨inT4 _ (List.mem_of_getElem? (i := 100) rfl), inT4 _ (List.mem_of_getElem? (i := 101) rfl)⟩, ⟨by decide +kernel, by decide +kernel, by decide +kernel⟩, by decide +kernel⟩
set_option maxRecDepth 20000 in
theorem mok_326 : mOk 326 := ⟨inT4 _ (List.mem_of_getElem? (i := 112) rfl), inT1 _ (List.mem_of_getElem? (i := 15) rfl), ⟨inT4 _ (List.mem_of_getElem? (i := 110) rfl), inT4 _ (List.mem_of_getElem? (i := 111) rfl)⟩, ⟨by decide +kernel, by decide +kernel, by decide +kernel⟩, by decide +kernel⟩
set_option maxRecDepth 20000 in
theorem mok_327 : mOk 327 := ⟨inT4 _ (List.mem_of_getElem? (i := 118) rfl), inT1 _ (List.mem_of_getElem? (i := 15) rfl), inT4 _ (List.mem_of_getElem? (i := 117) rfl), ⟨by decide +kernel, by decide +kernel, by decide +kernel⟩, by decide +kernel⟩
set_option maxRecDepth 20000 in
theorem mok_328 : mOk 328 := ⟨inT4 _ (List.mem_of_getElem? (i := 115) rfl), inT1 _ (List.mem_of_getElem? (i := 16) rfl), inT4 _ (List.mem_of_getElem? (i := 114) rfl), ⟨by decide +kernel, by decide +kernel, by decide +kernel⟩, by decide +kernel⟩
set_option maxRecDepth 20000 in
theorem mok_329 : mOk 329 := ⟨inT4 _ (List.mem_of_getElem? (i := 123) rfl), inT1 _ (List.mem_of_getElem? (i := 17) rfl), inT4 _ (List.mem_of_getElem? (i := 122) rfl), ⟨by decide +kernel, by decide +kernel, by decide +kernel⟩, by decide +kernel⟩
set_option maxRecDepth 20000 in
theorem mok_330 : mOk 330 := ⟨inT4 _ (List.mem_of_getElem? (i := 59) rfl), inT1 _ (List.mem_of_getElem? (i := 0) rfl), inT4 _ (List.mem_of_getElem? (i := 58) rfl), ⟨by decide +kernel, by decide +kernel, by decide +kernel⟩, by decide +kernel⟩
set_option maxRecDepth 20000 in
theorem mok_331 : mOk 331 := ⟨inT5 _ (List.mem_of_getElem? (i := 48) rfl), inT1 _ (List.mem_of_getElem? (i := 0) rfl), inT5 _ (List.mem_of_getElem? (i := 47) rfl), ⟨by decide +kernel, by decide +kernel, by decide +kernel⟩, by decide +kernel⟩
set_option maxRecDepth 20000 in
theorem mok_332 : mOk 332 := ⟨inT5 _ (List.mem_of_getElem? (i := 121) rfl), inT1 _ (List.mem_of_getElem? (i := 0) rfl), inT5 _ (List.mem_of_getElem? (i := 120) rfl), ⟨by decide +kernel, by decide +kernel, by decide +kernel⟩, by decide +kernel⟩
set_option maxRecDepth 20000 in
theorem mok_333 : mOk 333 := ⟨inT5 _ (List.mem_of_getElem? (i := 183) rfl), inT1 _ (List.mem_of_getElem? (i := 0) rfl), inT5 _ (List.mem_of_getElem? (i := 182) rfl), ⟨by decide +kernel, by decide +kernel, by decide +kernel⟩, by decide +kernel⟩
set_option maxRecDepth 20000 in
theorem mok_334 : mOk 334 := ⟨inT5 _ (List.mem_of_getElem? (i := 197) rfl), inT1 _ (List.mem_of_getElem? (i := 0) rfl), inT5 _ (List.mem_of_getElem? (i := 196) rfl), ⟨by decide +kernel, by decide +kernel, by decide +kernel⟩, by decide +kernel⟩
set_option maxRecDepth 20000 in
theorem mok_335 : mOk 335 := ⟨inT5 _ (List.mem_of_getElem? (i := 205) rfl), inT1 _ (List.mem_of_getElem? (i := 0) rfl), inT5 _ (List.mem_of_getElem? (i := 204) rfl), ⟨by decide +kernel, by decide +kernel, by decide +kernel⟩, by decide +kernel⟩
set_option maxRecDepth 20000 in
theorem mok_336 : mOk 336 := ⟨inT5 _ (List.mem_of_getElem? (i := 213) rfl), inT1 _ (List.mem_of_getElem? (i := 0) rfl), inT5 _ (List.mem_of_getElem? (i := 212) rfl), ⟨by decide +kernel, by decide +kernel, by decide +kernel⟩, by decide +kernel⟩
set_option maxRecDepth 20000 in
theorem mok_337 : mOk 337 := ⟨inT5 _ (List.mem_of_getElem? (i := 230) rfl), inT1 _ (List.mem_of_getElem? (i := 0) rfl), inT5 _ (List.mem_of_getElem? (i := 229) rfl), ⟨by decide +kernel, by decide +kernel, by decide +kernel⟩, by decide +kernel⟩
set_option maxRecDepth 20000 in
theorem mok_338 : mOk 338 := ⟨inT5 _ (List.mem_of_getElem? (i := 238) rfl), inT1 _ (List.mem_of_getElem? (i := 0) rfl), inT5 _ (List.mem_of_getElem? (i := 237) rfl), ⟨by decide +kernel, by decide +kernel, by decide +kernel⟩, by decide +kernel⟩
set_option maxRecDepth 20000 in
theorem mok_339 : mOk 339 := ⟨inT6 _ (List.mem_of_getElem? (i := 5) rfl), inT1 _ (List.mem_of_getElem? (i := 0) rfl), inT6 _ (List.mem_of_getElem? (i := 4) rfl), ⟨by decide +kernel, by decide +kernel, by decide +kernel⟩, by decide +kernel⟩
set_option maxRecDepth 20000 in
theorem mok_340 : mOk 340 := ⟨inT6 _ (List.mem_of_getElem? (i := 13) rfl), inT1 _ (List.mem_of_getElem? (i := 0) rfl), inT6 _ (List.mem_of_getElem? (i := 12) rfl), ⟨by decide +kernel, by decide +kernel, by decide +kernel⟩, by decide +kernel⟩
set_option maxRecDepth 20000 in
theorem mok_341 : mOk 341 := ⟨inT6 _ (List.mem_of_getElem? (i := 38) rfl), inT1 _ (List.mem_of_getElem? (i := 0) rfl), inT6 _ (List.mem_of_getElem? (i := 37) rfl), ⟨by decide +kernel, by decide +kernel, by decide +kernel⟩, by decide +kernel⟩
set_option maxRecDepth 20000 in
theorem mok_342 : mOk 342 := ⟨inT6 _ (List.mem_of_getElem? (i := 50) rfl), inT1 _ (List.mem_of_getElem? (i := 0) rfl), inT6 _ (List.mem_of_getElem? (i := 49) rfl), ⟨by decide +kernel, by decide +kernel, by decide +kernel⟩, by decide +kernel⟩
set_option maxRecDepth 20000 in
theorem mok_343 : mOk 343 := ⟨inT6 _ (List.mem_of_getElem? (i := 58) rfl), inT1 _ (List.mem_of_getElem? (i := 0) rfl), inT6 _ (List.mem_of_getElem? (i := 57) rfl), ⟨by decide +kernel, by decide +kernel, by decide +kernel⟩, by decide +kernel⟩
set_option maxRecDepth 20000 in
theorem mok_344 : mOk 344 := ⟨inT6 _ (List.mem_of_getElem? (i := 70) rfl), inT1 _ (List.mem_of_getElem? (i := 0) rfl), inT6 _ (List.mem_of_getElem? (i := 69) rfl), ⟨by decide +kernel, by decide +kernel, by decide +kernel⟩, by decide +kernel⟩
set_option maxRecDepth 20000 in
theorem mok_345 : mOk 345 := ⟨inT6 _ (List.mem_of_getElem? (i := 77) rfl), inT1 _ (List.mem_of_getElem? (i := 0) rfl), inT6 _ (List.mem_of_getElem? (i := 76) rfl), ⟨by decide +kernel, by decide +kernel, by decide +kernel⟩, by decide +kernel⟩
set_option maxRecDepth 20000 in
theorem mok_346 : mOk 346 := ⟨inT6 _ (List.mem_of_getElem? (i := 84) rfl), inT1 _ (List.mem_of_getElem? (i := 0) rfl), inT6 _ (List.mem_of_getElem? (i := 83) rfl), ⟨by decide +kernel, by decide +kernel, by decide +kernel⟩, by decide +kernel⟩
set_option maxRecDepth 20000 in
theorem mok_347 : mOk 347 := ⟨inT6 _ (List.mem_of_getElem? (i := 91) rfl), inT1 _ (List.mem_of_getElem? (i := 0) rfl), inT6 _ (List.mem_of_getElem? (i := 90) rfl), ⟨by decide +kernel, by decide +kernel, by decide +kernel⟩, by decide +kernel⟩
set_option maxRecDepth 20000 in
theorem mok_348 : mOk 348 := ⟨inT6 _ (List.mem_of_getElem? (i := 98) rfl), inT1 _ (List.mem_of_getElem? (i := 0) rfl), inT6 _ (List.mem_of_getElem? (i := 97) rfl), ⟨by decide +kernel, by decide +kernel, by decide +kernel⟩, by decide +kernel⟩
set_option maxRecDepth 20000 in
theorem mok_349 : mOk 349 := ⟨inT6 _ (List.mem_of_getElem? (i := 105) rfl), inT1 _ (List.mem_of_getElem? (i := 0) rfl), inT6 _ (List.mem_of_getElem? (i := 104) rfl), ⟨by decide +kernel, by decide +kernel, by decide +kernel⟩, by decide +kernel⟩
set_option maxRecDepth 20000 in
theorem mok_350 : mOk 350 := ⟨inT6 _ (List.mem_of_getElem? (i := 113) rfl), inT1 _ (List.mem_of_getElem? (i := 0) rfl), inT6 _ (List.mem_of_getElem? (i := 112) rfl), ⟨by decide +kernel, by decide +kernel, by decide +kernel⟩, by decide +kernel⟩
set_option maxRecDepth 20000 in
theorem mok_351 : mOk 351 := ⟨inT6 _ (List.mem_of_getElem? (i := 126) rfl), inT1 _ (List.mem_of_getElem? (i := 0) rfl), inT6 _ (List.mem_of_getElem? (i := 125) rfl), ⟨by decide +kernel, by decide +kernel, by decide +kernel⟩, by decide +kernel⟩
set_option maxRecDepth 20000 in
theorem mok_352 : mOk 352 := ⟨inT6 _ (List.mem_of_getElem? (i := 139) rfl), inT1 _ (List.mem_of_getElem? (i := 0) rfl), inT6 _ (List.mem_of_getElem? (i := 138) rfl), ⟨by decide +kernel, by decide +kernel, by decide +kernel⟩, by decide +kernel⟩
set_option maxRecDepth 20000 in
theorem mok_353 : mOk 353 := ⟨inT6 _ (List.mem_of_getElem? (i := 161) rfl), inT1 _ (List.mem_of_getElem? (i := 0) rfl), inT6 _ (List.mem_of_getElem? (i := 160) rfl), ⟨by decide +kernel, by decide +kernel, by decide +kernel⟩, by decide +kernel⟩
set_option maxRecDepth 20000 in
theorem mok_354 : mOk 354 := ⟨inT6 _ (List.mem_of_getElem? (i := 189) rfl), inT1 _ (List.mem_of_getElem? (i := 0) rfl), inT6 _ (List.mem_of_getElem? (i := 188) rfl), ⟨by decide +kernel, by decide +kernel, by decide +kernel⟩, by decide +kernel⟩
set_option maxRecDepth 20000 in
theorem mok_355 : mOk 355 := ⟨inT6 _ (List.mem_of_getElem? (i := 201) rfl), inT1 _ (List.mem_of_getElem? (i := 0) rfl), inT6 _ (List.mem_of_getElem? (i := 200) rfl), ⟨by decide +kernel, by decide +kernel, by decide +kernel⟩, by decide +kernel⟩
set_option maxRecDepth 20000 in
theorem mok_356 : mOk 356 := ⟨inT6 _ (List.mem_of_getElem? (i := 222) rfl), inT1 _ (List.mem_of_getElem? (i := 0) rfl), inT6 _ (List.mem_of_getElem? (i := 221) rfl), ⟨by decide +kernel, by decide +kernel, by decide +kernel⟩, by decide +kernel⟩
set_option maxRecDepth 20000 in
theorem mok_357 : mOk 357 := ⟨inT6 _ (List.mem_of_getElem? (i := 229) rfl), inT1 _ (List.mem_of_getElem? (i := 0) rfl), inT6 _ (List.mem_of_getElem? (i := 228) rfl), ⟨by decide +kernel, by decide +kernel, by decide +kernel⟩, by decide +kernel⟩
set_option maxRecDepth 20000 in
theorem mok_358 : mOk 358 := ⟨inT7 _ (List.mem_of_getElem? (i := 5) rfl), inT1 _ (List.mem_of_getElem? (i := 0) rfl), inT7 _ (List.mem_of_getElem? (i := 4) rfl), ⟨by decide +kernel, by decide +kernel, by decide +kernel⟩, by decide +kernel⟩
set_option maxRecDepth 20000 in
theorem mok_359 : mOk 359 := ⟨inT7 _ (List.mem_of_getElem? (i := 12) rfl), inT1 _ (List.mem_of_getElem? (i := 0) rfl), inT7 _ (List.mem_of_getElem? (i := 11) rfl), ⟨by decide +kernel, by decide +kernel, by decide +kernel⟩, by decide +kernel⟩
set_option maxRecDepth 20000 in
theorem mok_360 : mOk 360 := ⟨inT7 _ (List.mem_of_getElem? (i := 19) rfl), inT1 _ (List.mem_of_getElem? (i := 0) rfl), inT7 _ (List.mem_of_getElem? (i := 18) rfl), ⟨by decide +kernel, by decide +kernel, by decide +kernel⟩, by decide +kernel⟩
set_option maxRecDepth 20000 in
theorem mok_361 : mOk 361 := ⟨inT7 _ (List.mem_of_getElem? (i := 26) rfl), inT1 _ (List.mem_of_getElem? (i := 0) rfl), inT7 _ (List.mem_of_getElem? (i := 25) rfl), ⟨by decide +kernel, by decide +kernel, by decide +kernel⟩, by decide +kernel⟩
set_option maxRecDepth 20000 in
theorem mok_362 : mOk 362 := ⟨inT7 _ (List.mem_of_getElem? (i := 39) rfl), inT1 _ (List.mem_of_getElem? (i := 0) rfl), inT7 _ (List.mem_of_getElem? (i := 38) rfl), ⟨by decide +kernel, by decide +kernel, by decide +kernel⟩, by decide +kernel⟩
set_option maxRecDepth 20000 in
theorem mok_363 : mOk 363 := ⟨inT7 _ (List.mem_of_getElem? (i := 46) rfl), inT1 _ (List.mem_of_getElem? (i := 0) rfl), inT7 _ (List.mem_of_getElem? (i := 45) rfl), ⟨by decide +kernel, by decide +kernel, by decide +kernel⟩, by decide +kernel⟩
set_option maxRecDepth 20000 in
theorem mok_364 : mOk 364 := ⟨inT7 _ (List.mem_of_getElem? (i := 54) rfl), inT1 _ (List.mem_of_getElem? (i := 0) rfl), inT7 _ (List.mem_of_getElem? (i := 53) rfl), ⟨by decide +kernel, by decide +kernel, by decide +kernel⟩, by decide +kernel⟩
set_option maxRecDepth 20000 in
theorem mok_365 : mOk 365 := ⟨inT7 _ (List.mem_of_getElem? (i := 65) rfl), inT1 _ (List.mem_of_getElem? (i := 0) rfl), inT7 _ (List.mem_of_getElem? (i := 64) rfl), ⟨by decide +kernel, by decide +kernel, by decide +kernel⟩, by decide +kernel⟩
set_option maxRecDepth 20000 in
theorem mok_366 : mOk 366 := ⟨inT7 _ (List.mem_of_getElem? (i := 72) rfl), inT1 _ (List.mem_of_getElem? (i := 0) rfl), inT7 _ (List.mem_of_getElem? (i := 71) rfl), ⟨by decide +kernel, by decide +kernel, by decide +kernel⟩, by decide +kernel⟩
set_option maxRecDepth 20000 in
theorem mok_367 : mOk 367 := ⟨inT7 _ (List.mem_of_getElem? (i := 90) rfl), inT1 _ (List.mem_of_getElem? (i := 0) rfl), inT7 _ (List.mem_of_getElem? (i := 89) rfl), ⟨by decide +kernel, by decide +kernel, by decide +kernel⟩, by decide +kernel⟩
theorem mokB_0 : ∀ i, i < 30 → mOk (0 + i) := fun i hi => match i, hi with
  | 0, _ => mok_0
  | 1, _ => mok_1
  | 2, _ => mok_2
  | 3, _ => mok_3
  | 4, _ => mok_4
  | 5, _ => mok_5
  | 6, _ => mok_6
  | 7, _ => mok_7
  | 8, _ => mok_8
  | 9, _ => mok_9
  | 10, _ => mok_10
  | 11, _ => mok_11
  | 12, _ => mok_12
  | 13, _ => mok_13
  | 14, _ => mok_14
  | 15, _ => mok_15
  | 16, _ => mok_16
  | 17, _ => mok_17
  | 18, _ => mok_18
  | 19, _ => mok_19
  | 20, _ => mok_20
  | 21, _ => mok_21
  | 22, _ => mok_22
  | 23, _ => mok_23
  | 24, _ => mok_24
  | 25, _ => mok_25
  | 26, _ => mok_26
  | 27, _ => mok_27
  | 28, _ => mok_28
  | 29, _ => mok_29
  | n + 30, h => absurd h (by omega)
theorem mokB_30 : ∀ i, i < 30 → mOk (30 + i) := fun i hi => match i, hi with
  | 0, _ => mok_30
  | 1, _ => mok_31
  | 2, _ => mok_32
  | 3, _ => mok_33
  | 4, _ => mok_34
  | 5, _ => mok_35
  | 6, _ => mok_36
  | 7, _ => mok_37
  | 8, _ => mok_38
  | 9, _ => mok_39
  | 10, _ => mok_40
  | 11, _ => mok_41
  | 12, _ => mok_42
  | 13, _ => mok_43
  | 14, _ => mok_44
  | 15, _ => mok_45
  | 16, _ => mok_46
  | 17, _ => mok_47
  | 18, _ => mok_48
  | 19, _ => mok_49
  | 20, _ => mok_50
  | 21, _ => mok_51
  | 22, _ => mok_52
  | 23, _ => mok_53
  | 24, _ => mok_54
  | 25, _ => mok_55
  | 26, _ => mok_56
  | 27, _ => mok_57
  | 28, _ => mok_58
  | 29, _ => mok_59
  | n + 30, h => absurd h (by omega)
theorem mokB_60 : ∀ i, i < 30 → mOk (60 + i) := fun i hi => match i, hi with
  | 0, _ => mok_60
  | 1, _ => mok_61
  | 2, _ => mok_62
  | 3, _ => mok_63
  | 4, _ => mok_64
  | 5, _ => mok_65
  | 6, _ => mok_66
  | 7, _ => mok_67
  | 8, _ => mok_68
  | 9, _ => mok_69
  | 10, _ => mok_70
  | 11, _ => mok_71
  | 12, _ => mok_72
  | 13, _ => mok_73
  | 14, _ => mok_74
  | 15, _ => mok_75
  | 16, _ => mok_76
  | 17, _ => mok_77
  | 18, _ => mok_78
  | 19, _ => mok_79
  | 20, _ => mok_80
  | 21, _ => mok_81
  | 22, _ => mok_82
  | 23, _ => mok_83
  | 24, _ => mok_84
  | 25, _ => mok_85
  | 26, _ => mok_86
  | 27, _ => mok_87
  | 28, _ => mok_88
  | 29, _ => mok_89
  | n + 30, h => absurd h (by omega)
theorem mokB_90 : ∀ i, i < 30 → mOk (90 + i) := fun i hi => match i, hi with
  | 0, _ => mok_90
  | 1, _ => mok_91
  | 2, _ => mok_92
  | 3, _ => mok_93
  | 4, _ => mok_94
  | 5, _ => mok_95
  | 6, _ => mok_96
  | 7, _ => mok_97
  | 8, _ => mok_98
  | 9, _ => mok_99
  | 10, _ => mok_100
  | 11, _ => mok_101
  | 12, _ => mok_102
  | 13, _ => mok_103
  | 14, _ => mok_104
  | 15, _ => mok_105
  | 16, _ => mok_106
  | 17, _ => mok_107
  | 18, _ => mok_108
  | 19, _ => mok_109
  | 20, _ => mok_110
  | 21, _ => mok_111
  | 22, _ => mok_112
  | 23, _ => mok_113
  | 24, _ => mok_114
  | 25, _ => mok_115
  | 26, _ => mok_116
  | 27, _ => mok_117
  | 28, _ => mok_118
  | 29, _ => mok_119
  | n + 30, h => absurd h (by omega)
theorem mokB_120 : ∀ i, i < 30 → mOk (120 + i) := fun i hi => match i, hi with
  | 0, _ => mok_120
  | 1, _ => mok_121
  | 2, _ => mok_122
  | 3, _ => mok_123
  | 4, _ => mok_124
  | 5, _ => mok_125
  | 6, _ => mok_126
  | 7, _ => mok_127
  | 8, _ => mok_128
  | 9, _ => mok_129
  | 10, _ => mok_130
  | 11, _ => mok_131
  | 12, _ => mok_132
  | 13, _ => mok_133
  | 14, _ => mok_134
  | 15, _ => mok_135
  | 16, _ => mok_136
  | 17, _ => mok_137
  | 18, _ => mok_138
  | 19, _ => mok_139
  | 20, _ => mok_140
  | 21, _ => mok_141
  | 22, _ => mok_142
  | 23, _ => mok_143
  | 24, _ => mok_144
  | 25, _ => mok_145
  | 26, _ => mok_146
  | 27, _ => mok_147
  | 28, _ => mok_148
  | 29, _ => mok_149
  | n + 30, h => absurd h (by omega)
theorem mokB_150 : ∀ i, i < 30 → mOk (150 + i) := fun i hi => match i, hi with
  | 0, _ => mok_150
  | 1, _ => mok_151
  | 2, _ => mok_152
  | 3, _ => mok_153
  | 4, _ => mok_154
  | 5, _ => mok_155
  | 6, _ => mok_156
  | 7, _ => mok_157
  | 8, _ => mok_158
  | 9, _ => mok_159
  | 10, _ => mok_160
  | 11, _ => mok_161
  | 12, _ => mok_162
  | 13, _ => mok_163
  | 14, _ => mok_164
  | 15, _ => mok_165
  | 16, _ => mok_166
  | 17, _ => mok_167
  | 18, _ => mok_168
  | 19, _ => mok_169
  | 20, _ => mok_170
  | 21, _ => mok_171
  | 22, _ => mok_172
  | 23, _ => mok_173
  | 24, _ => mok_174
  | 25, _ => mok_175
  | 26, _ => mok_176
  | 27, _ => mok_177
  | 28, _ => mok_178
  | 29, _ => mok_179
  | n + 30, h => absurd h (by omega)
theorem mokB_180 : ∀ i, i < 30 → mOk (180 + i) := fun i hi => match i, hi with
  | 0, _ => mok_180
  | 1, _ => mok_181
  | 2, _ => mok_182
  | 3, _ => mok_183
  | 4, _ => mok_184
  | 5, _ => mok_185
  | 6, _ => mok_186
  | 7, _ => mok_187
  | 8, _ => mok_188
  | 9, _ => mok_189
  | 10, _ => mok_190
  | 11, _ => mok_191
  | 12, _ => mok_192
  | 13, _ => mok_193
  | 14, _ => mok_194
  | 15, _ => mok_195
  | 16, _ => mok_196
  | 17, _ => mok_197
  | 18, _ => mok_198
  | 19, _ => mok_199
  | 20, _ => mok_200
  | 21, _ => mok_201
  | 22, _ => mok_202
  | 23, _ => mok_203
  | 24, _ => mok_204
  | 25, _ => mok_205
  | 26, _ => mok_206
  | 27, _ => mok_207
  | 28, _ => mok_208
  | 29, _ => mok_209
  | n + 30, h => absurd h (by omega)
theorem mokB_210 : ∀ i, i < 30 → mOk (210 + i) := fun i hi => match i, hi with
  | 0, _ => mok_210
  | 1, _ => mok_211
  | 2, _ => mok_212
  | 3, _ => mok_213
  | 4, _ => mok_214
  | 5, _ => mok_215
  | 6, _ => mok_216
  | 7, _ => mok_217
  | 8, _ => mok_218
  | 9, _ => mok_219
  | 10, _ => mok_220
  | 11, _ => mok_221
  | 12, _ => mok_222
  | 13, _ => mok_223
  | 14, _ => mok_224
  | 15, _ => mok_225
  | 16, _ => mok_226
  | 17, _ => mok_227
  | 18, _ => mok_228
  | 19, _ => mok_229
  | 20, _ => mok_230
  | 21, _ => mok_231
  | 22, _ => mok_232
  | 23, _ => mok_233
  | 24, _ => mok_234
  | 25, _ => mok_235
  | 26, _ => mok_236
  | 27, _ => mok_237
  | 28, _ => mok_238
  | 29, _ => mok_239
  | n + 30, h => absurd h (by omega)
theorem mokB_240 : ∀ i, i < 30 → mOk (240 + i) := fun i hi => match i, hi with
  | 0, _ => mok_240
  | 1, _ => mok_241
  | 2, _ => mok_242
  | 3, _ => mok_243
  | 4, _ => mok_244
  | 5, _ => mok_245
  | 6, _ => mok_246
  | 7, _ => mok_247
  | 8, _ => mok_248
  | 9, _ => mok_249
  | 10, _ => mok_250
  | 11, _ => mok_251
  | 12, _ => mok_252
  | 13, _ => mok_253
  | 14, _ => mok_254
  | 15, _ => mok_255
  | 16, _ => mok_256
  | 17, _ => mok_257
  | 18, _ => mok_258
  | 19, _ => mok_259
  | 20, _ => mok_260
  | 21, _ => mok_261
  | 22, _ => mok_262
  | 23, _ => mok_263
  | 24, _ => mok_264
  | 25, _ => mok_265
  | 26, _ => mok_266
  | 27, _ => mok_267
  | 28, _ => mok_268
  | 29, _ => mok_269
  | n + 30, h => absurd h (by omega)
theorem mokB_270 : ∀ i, i < 30 → mOk (270 + i) := fun i hi => match i, hi with
  | 0, _ => mok_270
  | 1, _ => mok_271
  | 2, _ => mok_272
  | 3, _ => mok_273
  | 4, _ => mok_274
  | 5, _ => mok_275
  | 6, _ => mok_276
  | 7, _ => mok_277
  | 8, _ => mok_278
  | 9, _ => mok_279
  | 10, _ => mok_280
  | 11, _ => mok_281
  | 12, _ => mok_282
  | 13, _ => mok_283
  | 14, _ => mok_284
  | 15, _ => mok_285
  | 16, _ => mok_286
  | 17, _ => mok_287
  | 18, _ => mok_288
  | 19, _ => mok_289
  | 20, _ => mok_290
  | 21, _ => mok_291
  | 22, _ => mok_292
  | 23, _ => mok_293
  | 24, _ => mok_294
  | 25, _ => mok_295
  | 26, _ => mok_296
  | 27, _ => mok_297
  | 28, _ => mok_298
  | 29, _ => mok_299
  | n + 30, h => absurd h (by omega)
theorem mokB_300 : ∀ i, i < 30 → mOk (300 + i) := fun i hi => match i, hi with
  | 0, _ => mok_300
  | 1, _ => mok_301
  | 2, _ => mok_302
  | 3, _ => mok_303
  | 4, _ => mok_304
  | 5, _ => mok_305
  | 6, _ => mok_306
  | 7, _ => mok_307
  | 8, _ => mok_308
  | 9, _ => mok_309
  | 10, _ => mok_310
  | 11, _ => mok_311
  | 12, _ => mok_312
  | 13, _ => mok_313
  | 14, _ => mok_314
  | 15, _ => mok_315
  | 16, _ => mok_316
  | 17, _ => mok_317
  | 18, _ => mok_318
  | 19, _ => mok_319
  | 20, _ => mok_320
  | 21, _ => mok_321
  | 22, _ => mok_322
  | 23, _ => mok_323
  | 24, _ => mok_324
  | 25, _ => mok_325
  | 26, _ => mok_326
  | 27, _ => mok_327
  | 28, _ => mok_328
  | 29, _ => mok_329
  | n + 30, h => absurd h (by omega)
theorem mokB_330 : ∀ i, i < 30 → mOk (330 + i) := fun i hi => match i, hi with
  | 0, _ => mok_330
  | 1, _ => mok_331
  | 2, _ => mok_332
  | 3, _ => mok_333
  | 4, _ => mok_334
  | 5, _ => mok_335
  | 6, _ => mok_336
  | 7, _ => mok_337
  | 8, _ => mok_338
  | 9, _ => mok_339
  | 10, _ => mok_340
  | 11, _ => mok_341
  | 12, _ => mok_342
  | 13, _ => mok_343
  | 14, _ => mok_344
  | 15, _ => mok_345
  | 16, _ => mok_346
  | 17, _ => mok_347
  | 18, _ => mok_348
  | 19, _ => mok_349
  | 20, _ => mok_350
  | 21, _ => mok_351
  | 22, _ => mok_352
  | 23, _ => mok_353
  | 24, _ => mok_354
  | 25, _ => mok_355
  | 26, _ => mok_356
  | 27, _ => mok_357
  | 28, _ => mok_358
  | 29, _ => mok_359
  | n + 30, h => absurd h (by omega)
theorem mokB_360 : ∀ i, i < 8 → mOk (360 + i) := fun i hi => match i, hi with
  | 0, _ => mok_360
  | 1, _ => mok_361
  | 2, _ => mok_362
  | 3, _ => mok_363
  | 4, _ => mok_364
  | 5, _ => mok_365
  | 6, _ => mok_366
  | 7, _ => mok_367
  | n + 8, h => absurd h (by omega)
theorem mok_all (m : Nat) (hm : m < 368) : mOk m := by
  by_cases h0 : m < 30
  · obtain ⟨i, rfl⟩ : ∃ i, m = 0 + i := ⟨m - 0, by omega⟩
    exact mokB_0 i (by omega)
  by_cases h30 : m < 60
  · obtain ⟨i, rfl⟩ : ∃ i, m = 30 + i := ⟨m - 30, by omega⟩
    exact mokB_30 i (by omega)
  by_cases h60 : m < 90
  · obtain ⟨i, rfl⟩ : ∃ i, m = 60 + i := ⟨m - 60, by omega⟩
    exact mokB_60 i (by omega)
  by_cases h90 : m < 120
  · obtain ⟨i, rfl⟩ : ∃ i, m = 90 + i := ⟨m - 90, by omega⟩
    exact mokB_90 i (by omega)
  by_cases h120 : m < 150
  · obtain ⟨i, rfl⟩ : ∃ i, m = 120 + i := ⟨m - 120, by omega⟩
    exact mokB_120 i (by omega)
  by_cases h150 : m < 180
  · obtain ⟨i, rfl⟩ : ∃ i, m = 150 + i := ⟨m - 150, by omega⟩
    exact mokB_150 i (by omega)
  by_cases h180 : m < 210
  · obtain ⟨i, rfl⟩ : ∃ i, m = 180 + i := ⟨m - 180, by omega⟩
    exact mokB_180 i (by omega)
  by_cases h210 : m < 240
  · obtain ⟨i, rfl⟩ : ∃ i, m = 210 + i := ⟨m - 210, by omega⟩
    exact mokB_210 i (by omega)
  by_cases h240 : m < 270
  · obtain ⟨i, rfl⟩ : ∃ i, m = 240 + i := ⟨m - 240, by omega⟩
    exact mokB_240 i (by omega)
  by_cases h270 : m < 300
  · obtain ⟨i, rfl⟩ : ∃ i, m = 270 + i := ⟨m - 270, by omega⟩
    exact mokB_270 i (by omega)
  by_cases h300 : m < 330
  · obtain ⟨i, rfl⟩ : ∃ i, m = 300 + i := ⟨m - 300, by omega⟩
    exact mokB_300 i (by omega)
  by_cases h330 : m < 360
  · obtain ⟨i, rfl⟩ : ∃ i, m = 330 + i := ⟨m - 330, by omega⟩
    exact mokB_330 i (by omega)
  by_cases h360 : m < 368
  · obtain ⟨i, rfl⟩ : ∃ i, m = 360 + i := ⟨m - 360, by omega⟩
    exact mokB_360 i (by omega)
  omega
def tF (c : Nat) : u_T := (vwCl.getD c ("", fun _ => ("", "", "", false), 0)).2.1
def nF (c : Nat) : Nat := (vwCl.getD c ("", fun _ => ("", "", "", false), 0)).2.2
theorem lkp_mem {α : Type} {k : Nat} {v : α} : ∀ {T : List (Nat × Option α)}, lkp none k T = some v → (k, some v) ∈ T := by
  intro T
  induction T with
  | nil => intro h; exact absurd h (by simp [lkp])
  | cons q T ih =>
    obtain ⟨p, c⟩ := q
    intro h
    simp only [lkp] at h
    split at h <;> rename_i e
    · have e : p = k := by simpa using e
      subst e; subst h
      exact List.mem_cons_self
    · exact List.mem_cons_of_mem _ (ih h)
def flQ (q : Nat × Option (Nat × Nat)) : Prop := match q.2 with
  | some v => Cond.fieldLink (cN (q.1 / 10000)) (q.1 % 10000) (tF v.1 v.2).1 (tF v.1 v.2).2.1 (tF v.1 v.2).2.2.1 ∈ lw_tbl
  | none => True
def flT_0 : List (Nat × Option (Nat × Nat)) := [(110010, some (11, 0)), (110019, some (11, 1)), (110023, some (11, 2)), (110026, some (11, 3)), (110032, some (11, 4)), (110039, some (11, 5)), (110043, some (11, 6)), (110051, some (11, 7)), (110060, some (11, 8)), (110069, some (11, 9)), (110078, some (11, 10)), (110085, some (11, 11)), (110092, some (11, 12)), (110096, some (11, 13)), (110100, some (11, 14)), (110104, some (11, 15)), (110107, some (11, 16)), (110111, some (8, 1)), (110126, some (8, 2)), (110136, some (7, 14)), (110150, some (2, 1)), (110154, some (1, 9)), (110160, some (7, 0)), (110163, some (7, 1))]
set_option maxRecDepth 20000 in
theorem flO_0 : ∀ q ∈ flT_0, flQ q := List.forall_mem_cons.mpr ⟨inT2 _ (List.mem_of_getElem? (i := 163) rfl), List.forall_mem_cons.mpr ⟨inT2 _ (List.mem_of_getElem? (i := 164) rfl), List.forall_mem_cons.mpr ⟨inT2 _ (List.mem_of_getElem? (i := 165) rfl), List.forall_mem_cons.mpr ⟨inT2 _ (List.mem_of_getElem? (i := 166) rfl), List.forall_mem_cons.mpr ⟨inT2 _ (List.mem_of_getElem? (i := 167) rfl), List.forall_mem_cons.mpr ⟨inT2 _ (List.mem_of_getElem? (i := 168) rfl), List.forall_mem_cons.mpr ⟨inT2 _ (List.mem_of_getElem? (i := 169) rfl), List.forall_mem_cons.mpr ⟨inT2 _ (List.mem_of_getElem? (i := 170) rfl), List.forall_mem_cons.mpr ⟨inT2 _ (List.mem_of_getElem? (i := 171) rfl), List.forall_mem_cons.mpr ⟨inT2 _ (List.mem_of_getElem? (i := 172) rfl), List.forall_mem_cons.mpr ⟨inT2 _ (List.mem_of_getElem? (i := 173) rfl), List.forall_mem_cons.mpr ⟨inT2 _ (List.mem_of_getElem? (i := 174) rfl), List.forall_mem_cons.mpr ⟨inT2 _ (List.mem_of_getElem? (i := 175) rfl), List.forall_mem_cons.mpr ⟨inT2 _ (List.mem_of_getElem? (i := 176) rfl), List.forall_mem_cons.mpr ⟨inT2 _ (List.mem_of_getElem? (i := 177) rfl), List.forall_mem_cons.mpr ⟨inT2 _ (List.mem_of_getElem? (i := 178) rfl), List.forall_mem_cons.mpr ⟨inT2 _ (List.mem_of_getElem? (i := 179) rfl), List.forall_mem_cons.mpr ⟨inT1 _ (List.mem_of_getElem? (i := 48) rfl), List.forall_mem_cons.mpr ⟨inT1 _ (List.mem_of_getElem? (i := 51) rfl), List.forall_mem_cons.mpr ⟨inT1 _ (List.mem_of_getElem? (i := 160) rfl), List.forall_mem_cons.mpr ⟨inT2 _ (List.mem_of_getElem? (i := 55) rfl), List.forall_mem_cons.mpr ⟨inT2 _ (List.mem_of_getElem? (i := 10) rfl), List.forall_mem_cons.mpr ⟨inT1 _ (List.mem_of_getElem? (i := 102) rfl), List.forall_mem_cons.mpr ⟨inT1 _ (List.mem_of_getElem? (i := 108) rfl), fun _ h => absurd h List.not_mem_nil⟩⟩⟩⟩⟩⟩⟩⟩⟩⟩⟩⟩⟩⟩⟩⟩⟩⟩⟩⟩⟩⟩⟩⟩
def flT_1 : List (Nat × Option (Nat × Nat)) := [(110166, some (7, 2)), (110169, some (7, 3)), (110172, some (7, 4)), (110175, some (7, 12)), (110178, some (7, 9)), (110200, some (7, 5)), (110203, some (7, 6)), (110206, some (7, 7)), (110209, some (7, 13)), (110268, some (7, 17)), (110283, some (10, 8)), (110286, some (10, 9)), (110289, some (10, 10)), (110292, some (7, 11)), (110316, some (7, 10)), (110371, some (0, 3)), (110374, some (0, 2)), (110408, some (7, 15)), (110413, some (7, 18)), (110419, some (7, 8)), (110430, some (4, 2)), (110452, some (7, 16)), (110455, some (5, 2)), (110469, some (8, 0))]
set_option maxRecDepth 20000 in
theorem flO_1 : ∀ q ∈ flT_1, flQ q := List.forall_mem_cons.mpr ⟨inT1 _ (List.mem_of_getElem? (i := 110) rfl), List.forall_mem_cons.mpr ⟨inT1 _ (List.mem_of_getElem? (i := 114) rfl), List.forall_mem_cons.mpr ⟨inT1 _ (List.mem_of_getElem? (i := 118) rfl), List.forall_mem_cons.mpr ⟨inT1 _ (List.mem_of_getElem? (i := 156) rfl), List.forall_mem_cons.mpr ⟨inT1 _ (List.mem_of_getElem? (i := 138) rfl), List.forall_mem_cons.mpr ⟨inT1 _ (List.mem_of_getElem? (i := 121) rfl), List.forall_mem_cons.mpr ⟨inT1 _ (List.mem_of_getElem? (i := 129) rfl), List.forall_mem_cons.mpr ⟨inT1 _ (List.mem_of_getElem? (i := 134) rfl), List.forall_mem_cons.mpr ⟨inT1 _ (List.mem_of_getElem? (i := 158) rfl), List.forall_mem_cons.mpr ⟨inT1 _ (List.mem_of_getElem? (i := 172) rfl), List.forall_mem_cons.mpr ⟨inT2 _ (List.mem_of_getElem? (i := 78) rfl), List.forall_mem_cons.mpr ⟨inT2 _ (List.mem_of_getElem? (i := 81) rfl), List.forall_mem_cons.mpr ⟨inT2 _ (List.mem_of_getElem? (i := 83) rfl), List.forall_mem_cons.mpr ⟨inT1 _ (List.mem_of_getElem? (i := 153) rfl), List.forall_mem_cons.mpr ⟨inT1 _ (List.mem_of_getElem? (i := 145) rfl), List.forall_mem_cons.mpr ⟨inT2 _ (List.mem_of_getElem? (i := 153) rfl), List.forall_mem_cons.mpr ⟨inT2 _ (List.mem_of_getElem? (i := 151) rfl), List.forall_mem_cons.mpr ⟨inT1 _ (List.mem_of_getElem? (i := 164) rfl), List.forall_mem_cons.mpr ⟨inT1 _ (List.mem_of_getElem? (i := 174) rfl), List.forall_mem_cons.mpr ⟨inT1 _ (List.mem_of_getElem? (i := 136) rfl), List.forall_mem_cons.mpr ⟨inT1 _ (List.mem_of_getElem? (i := 92) rfl), List.forall_mem_cons.mpr ⟨inT1 _ (List.mem_of_getElem? (i := 169) rfl), List.forall_mem_cons.mpr ⟨inT1 _ (List.mem_of_getElem? (i := 226) rfl), List.forall_mem_cons.mpr ⟨inT1 _ (List.mem_of_getElem? (i := 47) rfl), fun _ h => absurd h List.not_mem_nil⟩⟩⟩⟩⟩⟩⟩⟩⟩⟩⟩⟩⟩⟩⟩⟩⟩⟩⟩⟩⟩⟩⟩⟩
def flT_2 : List (Nat × Option (Nat × Nat)) := [(9, some (0, 1)), (15, some (0, 0)), (19, some (0, 2)), (23, some (0, 3)), (34, some (8, 0)), (42, some (7, 11)), (47, some (7, 6)), (50, some (7, 7)), (10009, some (1, 0)), (10015, some (1, 1)), (10018, some (1, 2)), (10021, some (1, 3)), (10024, some (1, 4)), (10027, some (1, 9)), (10037, some (1, 5)), (10040, some (1, 6)), (10047, some (7, 10)), (10052, some (7, 11)), (10055, some (7, 12)), (10062, some (7, 3)), (10065, some (7, 4)), (10068, some (7, 7)), (10071, some (7, 6)), (10074, some (7, 1))]
set_option maxRecDepth 20000 in
theorem flO_2 : ∀ q ∈ flT_2, flQ q := List.forall_mem_cons.mpr ⟨inT2 _ (List.mem_of_getElem? (i := 149) rfl), List.forall_mem_cons.mpr ⟨inT2 _ (List.mem_of_getElem? (i := 148) rfl), List.forall_mem_cons.mpr ⟨inT2 _ (List.mem_of_getElem? (i := 150) rfl), List.forall_mem_cons.mpr ⟨inT2 _ (List.mem_of_getElem? (i := 152) rfl), List.forall_mem_cons.mpr ⟨inT1 _ (List.mem_of_getElem? (i := 46) rfl), List.forall_mem_cons.mpr ⟨inT1 _ (List.mem_of_getElem? (i := 150) rfl), List.forall_mem_cons.mpr ⟨inT1 _ (List.mem_of_getElem? (i := 126) rfl), List.forall_mem_cons.mpr ⟨inT1 _ (List.mem_of_getElem? (i := 132) rfl), List.forall_mem_cons.mpr ⟨inT2 _ (List.mem_of_getElem? (i := 0) rfl), List.forall_mem_cons.mpr ⟨inT2 _ (List.mem_of_getElem? (i := 1) rfl), List.forall_mem_cons.mpr ⟨inT2 _ (List.mem_of_getElem? (i := 2) rfl), List.forall_mem_cons.mpr ⟨inT2 _ (List.mem_of_getElem? (i := 3) rfl), List.forall_mem_cons.mpr ⟨inT2 _ (List.mem_of_getElem? (i := 4) rfl), List.forall_mem_cons.mpr ⟨inT2 _ (List.mem_of_getElem? (i := 9) rfl), List.forall_mem_cons.mpr ⟨inT2 _ (List.mem_of_getElem? (i := 5) rfl), List.forall_mem_cons.mpr ⟨inT2 _ (List.mem_of_getElem? (i := 6) rfl), List.forall_mem_cons.mpr ⟨inT1 _ (List.mem_of_getElem? (i := 144) rfl), List.forall_mem_cons.mpr ⟨inT1 _ (List.mem_of_getElem? (i := 152) rfl), List.forall_mem_cons.mpr ⟨inT1 _ (List.mem_of_getElem? (i := 155) rfl), List.forall_mem_cons.mpr ⟨inT1 _ (List.mem_of_getElem? (i := 113) rfl), List.forall_mem_cons.mpr ⟨inT1 _ (List.mem_of_getElem? (i := 117) rfl), List.forall_mem_cons.mpr ⟨inT1 _ (List.mem_of_getElem? (i := 133) rfl), List.forall_mem_cons.mpr ⟨inT1 _ (List.mem_of_getElem? (i := 128) rfl), List.forall_mem_cons.mpr ⟨inT1 _ (List.mem_of_getElem? (i := 107) rfl), fun _ h => absurd h List.not_mem_nil⟩⟩⟩⟩⟩⟩⟩⟩⟩⟩⟩⟩⟩⟩⟩⟩⟩⟩⟩⟩⟩⟩⟩⟩
def flT_3 : List (Nat × Option (Nat × Nat)) := [(10087, some (7, 0)), (10094, some (7, 2)), (10097, some (1, 7)), (10104, some (1, 8)), (10108, some (7, 5)), (10111, some (7, 16)), (20012, some (2, 1)), (20018, some (2, 0)), (30009, some (3, 1)), (30015, some (3, 2)), (30018, some (3, 0)), (30036, some (7, 10)), (30046, some (7, 1)), (30049, some (7, 11)), (30062, some (7, 5)), (30065, some (7, 6)), (30075, some (3, 3)), (30082, some (3, 4)), (40011, some (4, 0)), (40021, some (4, 1)), (40025, some (4, 2)), (50011, some (5, 0)), (50016, some (5, 1)), (50024, some (5, 2))]
set_option maxRecDepth 20000 in
theorem flO_3 : ∀ q ∈ flT_3, flQ q := List.forall_mem_cons.mpr ⟨inT1 _ (List.mem_of_getElem? (i := 101) rfl), List.forall_mem_cons.mpr ⟨inT1 _ (List.mem_of_getElem? (i := 111) rfl), List.forall_mem_cons.mpr ⟨inT2 _ (List.mem_of_getElem? (i := 7) rfl), List.forall_mem_cons.mpr ⟨inT2 _ (List.mem_of_getElem? (i := 8) rfl), List.forall_mem_cons.mpr ⟨inT1 _ (List.mem_of_getElem? (i := 122) rfl), List.forall_mem_cons.mpr ⟨inT1 _ (List.mem_of_getElem? (i := 168) rfl), List.forall_mem_cons.mpr ⟨inT2 _ (List.mem_of_getElem? (i := 54) rfl), List.forall_mem_cons.mpr ⟨inT2 _ (List.mem_of_getElem? (i := 53) rfl), List.forall_mem_cons.mpr ⟨inT2 _ (List.mem_of_getElem? (i := 127) rfl), List.forall_mem_cons.mpr ⟨inT2 _ (List.mem_of_getElem? (i := 128) rfl), List.forall_mem_cons.mpr ⟨inT2 _ (List.mem_of_getElem? (i := 126) rfl), List.forall_mem_cons.mpr ⟨inT1 _ (List.mem_of_getElem? (i := 142) rfl), List.forall_mem_cons.mpr ⟨inT1 _ (List.mem_of_getElem? (i := 106) rfl), List.forall_mem_cons.mpr ⟨inT1 _ (List.mem_of_getElem? (i := 151) rfl), List.forall_mem_cons.mpr ⟨inT1 _ (List.mem_of_getElem? (i := 120) rfl), List.forall_mem_cons.mpr ⟨inT1 _ (List.mem_of_getElem? (i := 127) rfl), List.forall_mem_cons.mpr ⟨inT2 _ (List.mem_of_getElem? (i := 129) rfl), List.forall_mem_cons.mpr ⟨inT2 _ (List.mem_of_getElem? (i := 130) rfl), List.forall_mem_cons.mpr ⟨inT1 _ (List.mem_of_getElem? (i := 89) rfl), List.forall_mem_cons.mpr ⟨inT1 _ (List.mem_of_getElem? (i := 90) rfl), List.forall_mem_cons.mpr ⟨inT1 _ (List.mem_of_getElem? (i := 91) rfl), List.forall_mem_cons.mpr ⟨inT1 _ (List.mem_of_getElem? (i := 223) rfl), List.forall_mem_cons.mpr ⟨inT1 _ (List.mem_of_getElem? (i := 224) rfl), List.forall_mem_cons.mpr ⟨inT1 _ (List.mem_of_getElem? (i := 225) rfl), fun _ h => absurd h List.not_mem_nil⟩⟩⟩⟩⟩⟩⟩⟩⟩⟩⟩⟩⟩⟩⟩⟩⟩⟩⟩⟩⟩⟩⟩⟩
def flT_4 : List (Nat × Option (Nat × Nat)) := [(60009, some (6, 0)), (60015, some (6, 1)), (60044, some (7, 10)), (60055, some (7, 11)), (60067, some (7, 17)), (60071, some (7, 15)), (60075, some (7, 16)), (60102, some (8, 3)), (60109, some (8, 2)), (70009, some (7, 0)), (70015, some (7, 1)), (70018, some (7, 2)), (70021, some (7, 3)), (70024, some (7, 4)), (70027, some (7, 5)), (70030, some (7, 6)), (70033, some (7, 7)), (70036, some (7, 8)), (70042, some (7, 9)), (70046, some (7, 18)), (70064, some (7, 11)), (70067, some (7, 13)), (70070, some (7, 14)), (70073, some (7, 15))]
set_option maxRecDepth 20000 in
theorem flO_4 : ∀ q ∈ flT_4, flQ q := List.forall_mem_cons.mpr ⟨inT2 _ (List.mem_of_getElem? (i := 38) rfl), List.forall_mem_cons.mpr ⟨inT2 _ (List.mem_of_getElem? (i := 39) rfl), List.forall_mem_cons.mpr ⟨inT1 _ (List.mem_of_getElem? (i := 139) rfl), List.forall_mem_cons.mpr ⟨inT1 _ (List.mem_of_getElem? (i := 149) rfl), List.forall_mem_cons.mpr ⟨inT1 _ (List.mem_of_getElem? (i := 171) rfl), List.forall_mem_cons.mpr ⟨inT1 _ (List.mem_of_getElem? (i := 163) rfl), List.forall_mem_cons.mpr ⟨inT1 _ (List.mem_of_getElem? (i := 166) rfl), List.forall_mem_cons.mpr ⟨inT1 _ (List.mem_of_getElem? (i := 53) rfl), List.forall_mem_cons.mpr ⟨inT1 _ (List.mem_of_getElem? (i := 52) rfl), List.forall_mem_cons.mpr ⟨inT1 _ (List.mem_of_getElem? (i := 100) rfl), List.forall_mem_cons.mpr ⟨inT1 _ (List.mem_of_getElem? (i := 103) rfl), List.forall_mem_cons.mpr ⟨inT1 _ (List.mem_of_getElem? (i := 109) rfl), List.forall_mem_cons.mpr ⟨inT1 _ (List.mem_of_getElem? (i := 112) rfl), List.forall_mem_cons.mpr ⟨inT1 _ (List.mem_of_getElem? (i := 115) rfl), List.forall_mem_cons.mpr ⟨inT1 _ (List.mem_of_getElem? (i := 119) rfl), List.forall_mem_cons.mpr ⟨inT1 _ (List.mem_of_getElem? (i := 123) rfl), List.forall_mem_cons.mpr ⟨inT1 _ (List.mem_of_getElem? (i := 130) rfl), List.forall_mem_cons.mpr ⟨inT1 _ (List.mem_of_getElem? (i := 135) rfl), List.forall_mem_cons.mpr ⟨inT1 _ (List.mem_of_getElem? (i := 137) rfl), List.forall_mem_cons.mpr ⟨inT1 _ (List.mem_of_getElem? (i := 173) rfl), List.forall_mem_cons.mpr ⟨inT1 _ (List.mem_of_getElem? (i := 146) rfl), List.forall_mem_cons.mpr ⟨inT1 _ (List.mem_of_getElem? (i := 157) rfl), List.forall_mem_cons.mpr ⟨inT1 _ (List.mem_of_getElem? (i := 159) rfl), List.forall_mem_cons.mpr ⟨inT1 _ (List.mem_of_getElem? (i := 162) rfl), fun _ h => absurd h List.not_mem_nil⟩⟩⟩⟩⟩⟩⟩⟩⟩⟩⟩⟩⟩⟩⟩⟩⟩⟩⟩⟩⟩⟩⟩⟩
def flT_5 : List (Nat × Option (Nat × Nat)) := [(70076, some (7, 16)), (70079, some (7, 17)), (70082, some (7, 10)), (70085, some (7, 12)), (80009, some (8, 0)), (80015, some (8, 2)), (80019, some (8, 1)), (80026, some (8, 4)), (80029, some (8, 5)), (80035, some (8, 3)), (80038, some (8, 6)), (80041, some (8, 7)), (90009, some (9, 0)), (90015, some (9, 1)), (90019, some (7, 15)), (90045, some (10, 9)), (90054, some (7, 11)), (90057, some (10, 7)), (90069, some (7, 1)), (90072, some (7, 6)), (90075, some (7, 4)), (90078, some (7, 7)), (90087, some (7, 10)), (90090, some (10, 8))]
set_option maxRecDepth 20000 in
theorem flO_5 : ∀ q ∈ flT_5, flQ q := List.forall_mem_cons.mpr ⟨inT1 _ (List.mem_of_getElem? (i := 165) rfl), List.forall_mem_cons.mpr ⟨inT1 _ (List.mem_of_getElem? (i := 170) rfl), List.forall_mem_cons.mpr ⟨inT1 _ (List.mem_of_getElem? (i := 141) rfl), List.forall_mem_cons.mpr ⟨inT1 _ (List.mem_of_getElem? (i := 154) rfl), List.forall_mem_cons.mpr ⟨inT1 _ (List.mem_of_getElem? (i := 45) rfl), List.forall_mem_cons.mpr ⟨inT1 _ (List.mem_of_getElem? (i := 50) rfl), List.forall_mem_cons.mpr ⟨inT1 _ (List.mem_of_getElem? (i := 49) rfl), List.forall_mem_cons.mpr ⟨inT1 _ (List.mem_of_getElem? (i := 55) rfl), List.forall_mem_cons.mpr ⟨inT1 _ (List.mem_of_getElem? (i := 56) rfl), List.forall_mem_cons.mpr ⟨inT1 _ (List.mem_of_getElem? (i := 54) rfl), List.forall_mem_cons.mpr ⟨inT1 _ (List.mem_of_getElem? (i := 57) rfl), List.forall_mem_cons.mpr ⟨inT1 _ (List.mem_of_getElem? (i := 58) rfl), List.forall_mem_cons.mpr ⟨inT2 _ (List.mem_of_getElem? (i := 113) rfl), List.forall_mem_cons.mpr ⟨inT2 _ (List.mem_of_getElem? (i := 114) rfl), List.forall_mem_cons.mpr ⟨inT1 _ (List.mem_of_getElem? (i := 161) rfl), List.forall_mem_cons.mpr ⟨inT2 _ (List.mem_of_getElem? (i := 79) rfl), List.forall_mem_cons.mpr ⟨inT1 _ (List.mem_of_getElem? (i := 147) rfl), List.forall_mem_cons.mpr ⟨inT2 _ (List.mem_of_getElem? (i := 75) rfl), List.forall_mem_cons.mpr ⟨inT1 _ (List.mem_of_getElem? (i := 104) rfl), List.forall_mem_cons.mpr ⟨inT1 _ (List.mem_of_getElem? (i := 124) rfl), List.forall_mem_cons.mpr ⟨inT1 _ (List.mem_of_getElem? (i := 116) rfl), List.forall_mem_cons.mpr ⟨inT1 _ (List.mem_of_getElem? (i := 131) rfl), List.forall_mem_cons.mpr ⟨inT1 _ (List.mem_of_getElem? (i := 143) rfl), List.forall_mem_cons.mpr ⟨inT2 _ (List.mem_of_getElem? (i := 77) rfl), fun _ h => absurd h List.not_mem_nil⟩⟩⟩⟩⟩⟩⟩⟩⟩⟩⟩⟩⟩⟩⟩⟩⟩⟩⟩⟩⟩⟩⟩⟩
def flT_6 : List (Nat × Option (Nat × Nat)) := [(90102, some (7, 16)), (100009, some (10, 1)), (100015, some (10, 2)), (100018, some (10, 3)), (100021, some (10, 4)), (100024, some (10, 5)), (100027, some (10, 7)), (100030, some (10, 8)), (100033, some (10, 0)), (100053, some (10, 6)), (100057, some (7, 11)), (100060, some (7, 10)), (100069, some (7, 6)), (100072, some (7, 1)), (100095, some (10, 9)), (100098, some (10, 10)), (120007, some (12, 1)), (120013, some (12, 2)), (120016, some (12, 4)), (120019, some (12, 5)), (120022, some (12, 7)), (120025, some (12, 12)), (120029, some (12, 14)), (120032, some (12, 19))]
set_option maxRecDepth 20000 in
theorem flO_6 : ∀ q ∈ flT_6, flQ q := List.forall_mem_cons.mpr ⟨inT1 _ (List.mem_of_getElem? (i := 167) rfl), List.forall_mem_cons.mpr ⟨inT2 _ (List.mem_of_getElem? (i := 68) rfl), List.forall_mem_cons.mpr ⟨inT2 _ (List.mem_of_getElem? (i := 69) rfl), List.forall_mem_cons.mpr ⟨inT2 _ (List.mem_of_getElem? (i := 70) rfl), List.forall_mem_cons.mpr ⟨inT2 _ (List.mem_of_getElem? (i := 71) rfl), List.forall_mem_cons.mpr ⟨inT2 _ (List.mem_of_getElem? (i := 72) rfl), List.forall_mem_cons.mpr ⟨inT2 _ (List.mem_of_getElem? (i := 74) rfl), List.forall_mem_cons.mpr ⟨inT2 _ (List.mem_of_getElem? (i := 76) rfl), List.forall_mem_cons.mpr ⟨inT2 _ (List.mem_of_getElem? (i := 67) rfl), List.forall_mem_cons.mpr ⟨inT2 _ (List.mem_of_getElem? (i := 73) rfl), List.forall_mem_cons.mpr ⟨inT1 _ (List.mem_of_getElem? (i := 148) rfl), List.forall_mem_cons.mpr ⟨inT1 _ (List.mem_of_getElem? (i := 140) rfl), List.forall_mem_cons.mpr ⟨inT1 _ (List.mem_of_getElem? (i := 125) rfl), List.forall_mem_cons.mpr ⟨inT1 _ (List.mem_of_getElem? (i := 105) rfl), List.forall_mem_cons.mpr ⟨inT2 _ (List.mem_of_getElem? (i := 80) rfl), List.forall_mem_cons.mpr ⟨inT2 _ (List.mem_of_getElem? (i := 82) rfl), List.forall_mem_cons.mpr ⟨inT7 _ (List.mem_of_getElem? (i := 110) rfl), List.forall_mem_cons.mpr ⟨inT7 _ (List.mem_of_getElem? (i := 111) rfl), List.forall_mem_cons.mpr ⟨inT7 _ (List.mem_of_getElem? (i := 113) rfl), List.forall_mem_cons.mpr ⟨inT7 _ (List.mem_of_getElem? (i := 114) rfl), List.forall_mem_cons.mpr ⟨inT7 _ (List.mem_of_getElem? (i := 116) rfl), List.forall_mem_cons.mpr ⟨inT7 _ (List.mem_of_getElem? (i := 121) rfl), List.forall_mem_cons.mpr ⟨inT7 _ (List.mem_of_getElem? (i := 123) rfl), List.forall_mem_cons.mpr ⟨inT7 _ (List.mem_of_getElem? (i := 128) rfl), fun _ h => absurd h List.not_mem_nil⟩⟩⟩⟩⟩⟩⟩⟩⟩⟩⟩⟩⟩⟩⟩⟩⟩⟩⟩⟩⟩⟩⟩⟩
def flT_7 : List (Nat × Option (Nat × Nat)) := [(120036, some (12, 20)), (120039, some (12, 21)), (120042, some (12, 22)), (120045, some (12, 24)), (120048, some (12, 25)), (120051, some (12, 26)), (120054, some (12, 27)), (120057, some (12, 0)), (120072, some (12, 8)), (120075, some (12, 9)), (120078, some (12, 11)), (120081, some (12, 10)), (120157, some (12, 13)), (120182, some (12, 6)), (120196, some (12, 15)), (120232, some (12, 17)), (120235, some (12, 18)), (120238, some (12, 16)), (120264, some (12, 23)), (120407, some (12, 3))]
set_option maxRecDepth 20000 in
theorem flO_7 : ∀ q ∈ flT_7, flQ q := List.forall_mem_cons.mpr ⟨inT7 _ (List.mem_of_getElem? (i := 129) rfl), List.forall_mem_cons.mpr ⟨inT7 _ (List.mem_of_getElem? (i := 130) rfl), List.forall_mem_cons.mpr ⟨inT7 _ (List.mem_of_getElem? (i := 131) rfl), List.forall_mem_cons.mpr ⟨inT7 _ (List.mem_of_getElem? (i := 133) rfl), List.forall_mem_cons.mpr ⟨inT7 _ (List.mem_of_getElem? (i := 134) rfl), List.forall_mem_cons.mpr ⟨inT7 _ (List.mem_of_getElem? (i := 135) rfl), List.forall_mem_cons.mpr ⟨inT7 _ (List.mem_of_getElem? (i := 136) rfl), List.forall_mem_cons.mpr ⟨inT7 _ (List.mem_of_getElem? (i := 109) rfl), List.forall_mem_cons.mpr ⟨inT7 _ (List.mem_of_getElem? (i := 117) rfl), List.forall_mem_cons.mpr ⟨inT7 _ (List.mem_of_getElem? (i := 118) rfl), List.forall_mem_cons.mpr ⟨inT7 _ (List.mem_of_getElem? (i := 120) rfl), List.forall_mem_cons.mpr ⟨inT7 _ (List.mem_of_getElem? (i := 119) rfl), List.forall_mem_cons.mpr ⟨inT7 _ (List.mem_of_getElem? (i := 122) rfl), List.forall_mem_cons.mpr ⟨inT7 _ (List.mem_of_getElem? (i := 115) rfl), List.forall_mem_cons.mpr ⟨inT7 _ (List.mem_of_getElem? (i := 124) rfl), List.forall_mem_cons.mpr ⟨inT7 _ (List.mem_of_getElem? (i := 126) rfl), List.forall_mem_cons.mpr ⟨inT7 _ (List.mem_of_getElem? (i := 127) rfl), List.forall_mem_cons.mpr ⟨inT7 _ (List.mem_of_getElem? (i := 125) rfl), List.forall_mem_cons.mpr ⟨inT7 _ (List.mem_of_getElem? (i := 132) rfl), List.forall_mem_cons.mpr ⟨inT7 _ (List.mem_of_getElem? (i := 112) rfl), fun _ h => absurd h List.not_mem_nil⟩⟩⟩⟩⟩⟩⟩⟩⟩⟩⟩⟩⟩⟩⟩⟩⟩⟩⟩⟩
def flT : List (Nat × Option (Nat × Nat)) := flT_0 ++ (flT_1 ++ (flT_2 ++ (flT_3 ++ (flT_4 ++ (flT_5 ++ (flT_6 ++ (flT_7)))))))
theorem flO : ∀ q ∈ flT, flQ q := by
  intro q h
  unfold flT at h
  rcases List.mem_append.mp h with h | h
  · exact flO_0 q h
  rcases List.mem_append.mp h with h | h
  · exact flO_1 q h
  rcases List.mem_append.mp h with h | h
  · exact flO_2 q h
  rcases List.mem_append.mp h with h | h
  · exact flO_3 q h
  rcases List.mem_append.mp h with h | h
  · exact flO_4 q h
  rcases List.mem_append.mp h with h | h
  · exact flO_5 q h
  rcases List.mem_append.mp h with h | h
  · exact flO_6 q h
  exact flO_7 q h
def flk (k : Nat) : Option (Nat × Nat) := lkp none k flT
theorem flk_ok {k : Nat} {v : Nat × Nat} (h : flk k = some v) : flQ (k, some v) := flO _ (lkp_mem h)
def mlQ (q : Nat × Option (Nat)) : Prop := match q.2 with
  | some v => Cond.methodLink (cN (q.1 / 10000)) (q.1 % 10000) (mY v) ∈ lw_tbl
  | none => True
def mlT_0 : List (Nat × Option (Nat)) := [(110114, some 57), (110118, some 46), (110122, some 40), (110144, some 39), (110147, some 13), (110152, some 5), (110157, some 148), (110182, some 34), (110188, some 19), (110197, some 149), (110212, some 11), (110218, some 9), (110222, some 10), (110228, some 152), (110232, some 37), (110235, some 71), (110244, some 153), (110248, some 52), (110257, some 150), (110262, some 51), (110273, some 50), (110276, some 53), (110279, some 76), (110295, some 315)]
set_option maxRecDepth 20000 in
theorem mlO_0 : ∀ q ∈ mlT_0, mlQ q := List.forall_mem_cons.mpr ⟨inT2 _ (List.mem_of_getElem? (i := 219) rfl), List.forall_mem_cons.mpr ⟨inT3 _ (List.mem_of_getElem? (i := 17) rfl), List.forall_mem_cons.mpr ⟨inT4 _ (List.mem_of_getElem? (i := 66) rfl), List.forall_mem_cons.mpr ⟨inT4 _ (List.mem_of_getElem? (i := 49) rfl), List.forall_mem_cons.mpr ⟨inT5 _ (List.mem_of_getElem? (i := 53) rfl), List.forall_mem_cons.mpr ⟨inT4 _ (List.mem_of_getElem? (i := 40) rfl), List.forall_mem_cons.mpr ⟨inT5 _ (List.mem_of_getElem? (i := 128) rfl), List.forall_mem_cons.mpr ⟨inT5 _ (List.mem_of_getElem? (i := 148) rfl), List.forall_mem_cons.mpr ⟨inT3 _ (List.mem_of_getElem? (i := 143) rfl), List.forall_mem_cons.mpr ⟨inT5 _ (List.mem_of_getElem? (i := 188) rfl), List.forall_mem_cons.mpr ⟨inT5 _ (List.mem_of_getElem? (i := 193) rfl), List.forall_mem_cons.mpr ⟨inT5 _ (List.mem_of_getElem? (i := 202) rfl), List.forall_mem_cons.mpr ⟨inT5 _ (List.mem_of_getElem? (i := 210) rfl), List.forall_mem_cons.mpr ⟨inT5 _ (List.mem_of_getElem? (i := 219) rfl), List.forall_mem_cons.mpr ⟨inT5 _ (List.mem_of_getElem? (i := 223) rfl), List.forall_mem_cons.mpr ⟨inT3 _ (List.mem_of_getElem? (i := 33) rfl), List.forall_mem_cons.mpr ⟨inT6 _ (List.mem_of_getElem? (i := 10) rfl), List.forall_mem_cons.mpr ⟨inT6 _ (List.mem_of_getElem? (i := 19) rfl), List.forall_mem_cons.mpr ⟨inT6 _ (List.mem_of_getElem? (i := 43) rfl), List.forall_mem_cons.mpr ⟨inT4 _ (List.mem_of_getElem? (i := 14) rfl), List.forall_mem_cons.mpr ⟨inT6 _ (List.mem_of_getElem? (i := 64) rfl), List.forall_mem_cons.mpr ⟨inT2 _ (List.mem_of_getElem? (i := 235) rfl), List.forall_mem_cons.mpr ⟨inT4 _ (List.mem_of_getElem? (i := 5) rfl), List.forall_mem_cons.mpr ⟨inT3 _ (List.mem_of_getElem? (i := 3) rfl), fun _ h => absurd h List.not_mem_nil⟩⟩⟩⟩⟩⟩⟩⟩⟩⟩⟩⟩⟩⟩⟩⟩⟩⟩⟩⟩⟩⟩⟩⟩
def mlT_1 : List (Nat × Option (Nat)) := [(110300, some 154), (110306, some 54), (110310, some 321), (110319, some 21), (110323, some 20), (110328, some 22), (110331, some 158), (110335, some 317), (110340, some 157), (110343, some 58), (110346, some 59), (110351, some 322), (110354, some 159), (110357, some 160), (110360, some 318), (110362, some 60), (110368, some 0), (110377, some 4), (110380, some 151), (110385, some 161), (110388, some 162), (110393, some 163), (110396, some 164), (110399, some 155)]
set_option maxRecDepth 20000 in
theorem mlO_1 : ∀ q ∈ mlT_1, mlQ q := List.forall_mem_cons.mpr ⟨inT3 _ (List.mem_of_getElem? (i := 13) rfl), List.forall_mem_cons.mpr ⟨inT3 _ (List.mem_of_getElem? (i := 201) rfl), List.forall_mem_cons.mpr ⟨inT3 _ (List.mem_of_getElem? (i := 138) rfl), List.forall_mem_cons.mpr ⟨inT3 _ (List.mem_of_getElem? (i := 174) rfl), List.forall_mem_cons.mpr ⟨inT3 _ (List.mem_of_getElem? (i := 189) rfl), List.forall_mem_cons.mpr ⟨inT6 _ (List.mem_of_getElem? (i := 119) rfl), List.forall_mem_cons.mpr ⟨inT3 _ (List.mem_of_getElem? (i := 205) rfl), List.forall_mem_cons.mpr ⟨inT6 _ (List.mem_of_getElem? (i := 131) rfl), List.forall_mem_cons.mpr ⟨inT3 _ (List.mem_of_getElem? (i := 197) rfl), List.forall_mem_cons.mpr ⟨inT6 _ (List.mem_of_getElem? (i := 144) rfl), List.forall_mem_cons.mpr ⟨inT6 _ (List.mem_of_getElem? (i := 145) rfl), List.forall_mem_cons.mpr ⟨inT6 _ (List.mem_of_getElem? (i := 150) rfl), List.forall_mem_cons.mpr ⟨inT6 _ (List.mem_of_getElem? (i := 151) rfl), List.forall_mem_cons.mpr ⟨inT6 _ (List.mem_of_getElem? (i := 155) rfl), List.forall_mem_cons.mpr ⟨inT3 _ (List.mem_of_getElem? (i := 219) rfl), List.forall_mem_cons.mpr ⟨inT6 _ (List.mem_of_getElem? (i := 166) rfl), List.forall_mem_cons.mpr ⟨inT6 _ (List.mem_of_getElem? (i := 171) rfl), List.forall_mem_cons.mpr ⟨inT6 _ (List.mem_of_getElem? (i := 194) rfl), List.forall_mem_cons.mpr ⟨inT6 _ (List.mem_of_getElem? (i := 206) rfl), List.forall_mem_cons.mpr ⟨inT6 _ (List.mem_of_getElem? (i := 211) rfl), List.forall_mem_cons.mpr ⟨inT6 _ (List.mem_of_getElem? (i := 215) rfl), List.forall_mem_cons.mpr ⟨inT6 _ (List.mem_of_getElem? (i := 235) rfl), List.forall_mem_cons.mpr ⟨inT6 _ (List.mem_of_getElem? (i := 239) rfl), List.forall_mem_cons.mpr ⟨inT3 _ (List.mem_of_getElem? (i := 237) rfl), fun _ h => absurd h List.not_mem_nil⟩⟩⟩⟩⟩⟩⟩⟩⟩⟩⟩⟩⟩⟩⟩⟩⟩⟩⟩⟩⟩⟩⟩⟩
def mlT_2 : List (Nat × Option (Nat)) := [(110402, some 165), (110405, some 166), (110416, some 156), (110422, some 36), (110425, some 35), (110433, some 29), (110436, some 30), (110439, some 31), (110442, some 32), (110445, some 33), (110448, some 38), (110466, some 316), (110472, some 320), (26, some 1), (30, some 3), (39, some 2), (53, some 322), (59, some 321), (10043, some 7), (10058, some 51), (10077, some 320), (10083, some 10), (10090, some 12), (10100, some 321)]
set_option maxRecDepth 20000 in
theorem mlO_2 : ∀ q ∈ mlT_2, mlQ q := List.forall_mem_cons.mpr ⟨inT7 _ (List.mem_of_getElem? (i := 31) rfl), List.forall_mem_cons.mpr ⟨inT7 _ (List.mem_of_getElem? (i := 34) rfl), List.forall_mem_cons.mpr ⟨inT7 _ (List.mem_of_getElem? (i := 59) rfl), List.forall_mem_cons.mpr ⟨inT7 _ (List.mem_of_getElem? (i := 77) rfl), List.forall_mem_cons.mpr ⟨inT7 _ (List.mem_of_getElem? (i := 84) rfl), List.forall_mem_cons.mpr ⟨inT7 _ (List.mem_of_getElem? (i := 96) rfl), List.forall_mem_cons.mpr ⟨inT7 _ (List.mem_of_getElem? (i := 97) rfl), List.forall_mem_cons.mpr ⟨inT7 _ (List.mem_of_getElem? (i := 100) rfl), List.forall_mem_cons.mpr ⟨inT7 _ (List.mem_of_getElem? (i := 101) rfl), List.forall_mem_cons.mpr ⟨inT7 _ (List.mem_of_getElem? (i := 102) rfl), List.forall_mem_cons.mpr ⟨inT4 _ (List.mem_of_getElem? (i := 31) rfl), List.forall_mem_cons.mpr ⟨inT3 _ (List.mem_of_getElem? (i := 208) rfl), List.forall_mem_cons.mpr ⟨inT6 _ (List.mem_of_getElem? (i := 219) rfl), List.forall_mem_cons.mpr ⟨inT6 _ (List.mem_of_getElem? (i := 175) rfl), List.forall_mem_cons.mpr ⟨inT6 _ (List.mem_of_getElem? (i := 182) rfl), List.forall_mem_cons.mpr ⟨inT6 _ (List.mem_of_getElem? (i := 179) rfl), List.forall_mem_cons.mpr ⟨inT6 _ (List.mem_of_getElem? (i := 186) rfl), List.forall_mem_cons.mpr ⟨inT6 _ (List.mem_of_getElem? (i := 198) rfl), List.forall_mem_cons.mpr ⟨inT5 _ (List.mem_of_getElem? (i := 117) rfl), List.forall_mem_cons.mpr ⟨inT3 _ (List.mem_of_getElem? (i := 50) rfl), List.forall_mem_cons.mpr ⟨inT3 _ (List.mem_of_getElem? (i := 51) rfl), List.forall_mem_cons.mpr ⟨inT3 _ (List.mem_of_getElem? (i := 54) rfl), List.forall_mem_cons.mpr ⟨inT3 _ (List.mem_of_getElem? (i := 58) rfl), List.forall_mem_cons.mpr ⟨inT3 _ (List.mem_of_getElem? (i := 62) rfl), fun _ h => absurd h List.not_mem_nil⟩⟩⟩⟩⟩⟩⟩⟩⟩⟩⟩⟩⟩⟩⟩⟩⟩⟩⟩⟩⟩⟩⟩⟩
def mlT_3 : List (Nat × Option (Nat)) := [(20022, some 6), (20025, some 61), (20030, some 63), (20036, some 66), (20044, some 67), (20047, some 62), (20050, some 70), (20056, some 7), (20060, some 14), (20064, some 8), (20068, some 69), (20072, some 15), (20077, some 16), (20084, some 65), (20087, some 17), (20094, some 18), (20097, some 64), (30022, some 23), (30026, some 25), (30030, some 315), (30042, some 48), (30052, some 9), (30068, some 52), (30072, some 24)]
set_option maxRecDepth 20000 in
theorem mlO_3 : ∀ q ∈ mlT_3, mlQ q := List.forall_mem_cons.mpr ⟨inT5 _ (List.mem_of_getElem? (i := 57) rfl), List.forall_mem_cons.mpr ⟨inT5 _ (List.mem_of_getElem? (i := 61) rfl), List.forall_mem_cons.mpr ⟨inT5 _ (List.mem_of_getElem? (i := 62) rfl), List.forall_mem_cons.mpr ⟨inT5 _ (List.mem_of_getElem? (i := 64) rfl), List.forall_mem_cons.mpr ⟨inT5 _ (List.mem_of_getElem? (i := 67) rfl), List.forall_mem_cons.mpr ⟨inT5 _ (List.mem_of_getElem? (i := 68) rfl), List.forall_mem_cons.mpr ⟨inT5 _ (List.mem_of_getElem? (i := 69) rfl), List.forall_mem_cons.mpr ⟨inT5 _ (List.mem_of_getElem? (i := 71) rfl), List.forall_mem_cons.mpr ⟨inT5 _ (List.mem_of_getElem? (i := 75) rfl), List.forall_mem_cons.mpr ⟨inT5 _ (List.mem_of_getElem? (i := 113) rfl), List.forall_mem_cons.mpr ⟨inT5 _ (List.mem_of_getElem? (i := 93) rfl), List.forall_mem_cons.mpr ⟨inT5 _ (List.mem_of_getElem? (i := 79) rfl), List.forall_mem_cons.mpr ⟨inT5 _ (List.mem_of_getElem? (i := 83) rfl), List.forall_mem_cons.mpr ⟨inT5 _ (List.mem_of_getElem? (i := 88) rfl), List.forall_mem_cons.mpr ⟨inT5 _ (List.mem_of_getElem? (i := 89) rfl), List.forall_mem_cons.mpr ⟨inT5 _ (List.mem_of_getElem? (i := 96) rfl), List.forall_mem_cons.mpr ⟨inT5 _ (List.mem_of_getElem? (i := 100) rfl), List.forall_mem_cons.mpr ⟨inT3 _ (List.mem_of_getElem? (i := 147) rfl), List.forall_mem_cons.mpr ⟨inT3 _ (List.mem_of_getElem? (i := 156) rfl), List.forall_mem_cons.mpr ⟨inT3 _ (List.mem_of_getElem? (i := 165) rfl), List.forall_mem_cons.mpr ⟨inT3 _ (List.mem_of_getElem? (i := 178) rfl), List.forall_mem_cons.mpr ⟨inT3 _ (List.mem_of_getElem? (i := 155) rfl), List.forall_mem_cons.mpr ⟨inT6 _ (List.mem_of_getElem? (i := 123) rfl), List.forall_mem_cons.mpr ⟨inT3 _ (List.mem_of_getElem? (i := 151) rfl), fun _ h => absurd h List.not_mem_nil⟩⟩⟩⟩⟩⟩⟩⟩⟩⟩⟩⟩⟩⟩⟩⟩⟩⟩⟩⟩⟩⟩⟩⟩
def mlT_4 : List (Nat × Option (Nat)) := [(30078, some 51), (30085, some 26), (40028, some 322), (40034, some 319), (40037, some 29), (40041, some 33), (40044, some 32), (40047, some 31), (50020, some 46), (50027, some 322), (60019, some 61), (60024, some 63), (60028, some 41), (60031, some 69), (60035, some 67), (60040, some 66), (60050, some 44), (60058, some 45), (60063, some 42), (60077, some 62), (60080, some 70), (60083, some 68), (60088, some 43), (60098, some 48)]
set_option maxRecDepth 20000 in
theorem mlO_4 : ∀ q ∈ mlT_4, mlQ q := List.forall_mem_cons.mpr ⟨inT3 _ (List.mem_of_getElem? (i := 160) rfl), List.forall_mem_cons.mpr ⟨inT3 _ (List.mem_of_getElem? (i := 161) rfl), List.forall_mem_cons.mpr ⟨inT3 _ (List.mem_of_getElem? (i := 111) rfl), List.forall_mem_cons.mpr ⟨inT5 _ (List.mem_of_getElem? (i := 156) rfl), List.forall_mem_cons.mpr ⟨inT5 _ (List.mem_of_getElem? (i := 152) rfl), List.forall_mem_cons.mpr ⟨inT5 _ (List.mem_of_getElem? (i := 159) rfl), List.forall_mem_cons.mpr ⟨inT5 _ (List.mem_of_getElem? (i := 162) rfl), List.forall_mem_cons.mpr ⟨inT7 _ (List.mem_of_getElem? (i := 81) rfl), List.forall_mem_cons.mpr ⟨inT4 _ (List.mem_of_getElem? (i := 35) rfl), List.forall_mem_cons.mpr ⟨inT5 _ (List.mem_of_getElem? (i := 227) rfl), List.forall_mem_cons.mpr ⟨inT4 _ (List.mem_of_getElem? (i := 70) rfl), List.forall_mem_cons.mpr ⟨inT4 _ (List.mem_of_getElem? (i := 82) rfl), List.forall_mem_cons.mpr ⟨inT4 _ (List.mem_of_getElem? (i := 86) rfl), List.forall_mem_cons.mpr ⟨inT4 _ (List.mem_of_getElem? (i := 192) rfl), List.forall_mem_cons.mpr ⟨inT4 _ (List.mem_of_getElem? (i := 191) rfl), List.forall_mem_cons.mpr ⟨inT4 _ (List.mem_of_getElem? (i := 91) rfl), List.forall_mem_cons.mpr ⟨inT4 _ (List.mem_of_getElem? (i := 143) rfl), List.forall_mem_cons.mpr ⟨inT4 _ (List.mem_of_getElem? (i := 171) rfl), List.forall_mem_cons.mpr ⟨inT4 _ (List.mem_of_getElem? (i := 175) rfl), List.forall_mem_cons.mpr ⟨inT4 _ (List.mem_of_getElem? (i := 147) rfl), List.forall_mem_cons.mpr ⟨inT4 _ (List.mem_of_getElem? (i := 162) rfl), List.forall_mem_cons.mpr ⟨inT4 _ (List.mem_of_getElem? (i := 153) rfl), List.forall_mem_cons.mpr ⟨inT4 _ (List.mem_of_getElem? (i := 149) rfl), List.forall_mem_cons.mpr ⟨inT4 _ (List.mem_of_getElem? (i := 169) rfl), fun _ h => absurd h List.not_mem_nil⟩⟩⟩⟩⟩⟩⟩⟩⟩⟩⟩⟩⟩⟩⟩⟩⟩⟩⟩⟩⟩⟩⟩⟩
def mlT_5 : List (Nat × Option (Nat)) := [(60105, some 52), (60114, some 49), (70050, some 47), (70060, some 27), (70088, some 51), (70093, some 322), (70099, some 28), (80022, some 58), (80032, some 62), (80044, some 323), (80048, some 324), (80052, some 66), (80056, some 67), (80060, some 65), (90025, some 76), (90031, some 72), (90035, some 73), (90039, some 74), (90042, some 75), (90048, some 315), (90061, some 55), (90065, some 56), (90081, some 322), (90093, some 321)]
set_option maxRecDepth 20000 in
theorem mlO_5 : ∀ q ∈ mlT_5, mlQ q := List.forall_mem_cons.mpr ⟨inT4 _ (List.mem_of_getElem? (i := 179) rfl), List.forall_mem_cons.mpr ⟨inT4 _ (List.mem_of_getElem? (i := 184) rfl), List.forall_mem_cons.mpr ⟨inT3 _ (List.mem_of_getElem? (i := 21) rfl), List.forall_mem_cons.mpr ⟨inT3 _ (List.mem_of_getElem? (i := 28) rfl), List.forall_mem_cons.mpr ⟨inT2 _ (List.mem_of_getElem? (i := 239) rfl), List.forall_mem_cons.mpr ⟨inT3 _ (List.mem_of_getElem? (i := 104) rfl), List.forall_mem_cons.mpr ⟨inT3 _ (List.mem_of_getElem? (i := 107) rfl), List.forall_mem_cons.mpr ⟨inT4 _ (List.mem_of_getElem? (i := 74) rfl), List.forall_mem_cons.mpr ⟨inT4 _ (List.mem_of_getElem? (i := 78) rfl), List.forall_mem_cons.mpr ⟨inT4 _ (List.mem_of_getElem? (i := 95) rfl), List.forall_mem_cons.mpr ⟨inT4 _ (List.mem_of_getElem? (i := 105) rfl), List.forall_mem_cons.mpr ⟨inT4 _ (List.mem_of_getElem? (i := 157) rfl), List.forall_mem_cons.mpr ⟨inT4 _ (List.mem_of_getElem? (i := 158) rfl), List.forall_mem_cons.mpr ⟨inT4 _ (List.mem_of_getElem? (i := 196) rfl), List.forall_mem_cons.mpr ⟨inT3 _ (List.mem_of_getElem? (i := 37) rfl), List.forall_mem_cons.mpr ⟨inT3 _ (List.mem_of_getElem? (i := 91) rfl), List.forall_mem_cons.mpr ⟨inT3 _ (List.mem_of_getElem? (i := 113) rfl), List.forall_mem_cons.mpr ⟨inT3 _ (List.mem_of_getElem? (i := 118) rfl), List.forall_mem_cons.mpr ⟨inT3 _ (List.mem_of_getElem? (i := 126) rfl), List.forall_mem_cons.mpr ⟨inT3 _ (List.mem_of_getElem? (i := 129) rfl), List.forall_mem_cons.mpr ⟨inT3 _ (List.mem_of_getElem? (i := 95) rfl), List.forall_mem_cons.mpr ⟨inT3 _ (List.mem_of_getElem? (i := 100) rfl), List.forall_mem_cons.mpr ⟨inT3 _ (List.mem_of_getElem? (i := 112) rfl), List.forall_mem_cons.mpr ⟨inT3 _ (List.mem_of_getElem? (i := 117) rfl), fun _ h => absurd h List.not_mem_nil⟩⟩⟩⟩⟩⟩⟩⟩⟩⟩⟩⟩⟩⟩⟩⟩⟩⟩⟩⟩⟩⟩⟩⟩
def mlT_6 : List (Nat × Option (Nat)) := [(90096, some 11), (100037, some 77), (100041, some 78), (100044, some 82), (100047, some 53), (100063, some 9), (100075, some 320), (100080, some 79), (100084, some 80), (100088, some 81), (100092, some 321), (100101, some 83), (130007, some 86), (130017, some 87), (130020, some 89), (130028, some 90), (130031, some 91), (130035, some 92), (130038, some 93), (130042, some 94), (130045, some 95), (130048, some 96), (130052, some 97), (130057, some 98)]
set_option maxRecDepth 20000 in
theorem mlO_6 : ∀ q ∈ mlT_6, mlQ q := List.forall_mem_cons.mpr ⟨inT3 _ (List.mem_of_getElem? (i := 122) rfl), List.forall_mem_cons.mpr ⟨inT3 _ (List.mem_of_getElem? (i := 41) rfl), List.forall_mem_cons.mpr ⟨inT3 _ (List.mem_of_getElem? (i := 66) rfl), List.forall_mem_cons.mpr ⟨inT3 _ (List.mem_of_getElem? (i := 83) rfl), List.forall_mem_cons.mpr ⟨inT3 _ (List.mem_of_getElem? (i := 45) rfl), List.forall_mem_cons.mpr ⟨inT3 _ (List.mem_of_getElem? (i := 46) rfl), List.forall_mem_cons.mpr ⟨inT3 _ (List.mem_of_getElem? (i := 65) rfl), List.forall_mem_cons.mpr ⟨inT3 _ (List.mem_of_getElem? (i := 70) rfl), List.forall_mem_cons.mpr ⟨inT3 _ (List.mem_of_getElem? (i := 74) rfl), List.forall_mem_cons.mpr ⟨inT3 _ (List.mem_of_getElem? (i := 78) rfl), List.forall_mem_cons.mpr ⟨inT3 _ (List.mem_of_getElem? (i := 82) rfl), List.forall_mem_cons.mpr ⟨inT3 _ (List.mem_of_getElem? (i := 87) rfl), List.forall_mem_cons.mpr ⟨inT4 _ (List.mem_of_getElem? (i := 62) rfl), List.forall_mem_cons.mpr ⟨inT5 _ (List.mem_of_getElem? (i := 49) rfl), List.forall_mem_cons.mpr ⟨inT5 _ (List.mem_of_getElem? (i := 124) rfl), List.forall_mem_cons.mpr ⟨inT5 _ (List.mem_of_getElem? (i := 184) rfl), List.forall_mem_cons.mpr ⟨inT5 _ (List.mem_of_getElem? (i := 198) rfl), List.forall_mem_cons.mpr ⟨inT5 _ (List.mem_of_getElem? (i := 206) rfl), List.forall_mem_cons.mpr ⟨inT5 _ (List.mem_of_getElem? (i := 214) rfl), List.forall_mem_cons.mpr ⟨inT5 _ (List.mem_of_getElem? (i := 231) rfl), List.forall_mem_cons.mpr ⟨inT5 _ (List.mem_of_getElem? (i := 239) rfl), List.forall_mem_cons.mpr ⟨inT6 _ (List.mem_of_getElem? (i := 6) rfl), List.forall_mem_cons.mpr ⟨inT6 _ (List.mem_of_getElem? (i := 15) rfl), List.forall_mem_cons.mpr ⟨inT6 _ (List.mem_of_getElem? (i := 39) rfl), fun _ h => absurd h List.not_mem_nil⟩⟩⟩⟩⟩⟩⟩⟩⟩⟩⟩⟩⟩⟩⟩⟩⟩⟩⟩⟩⟩⟩⟩⟩
def mlT_7 : List (Nat × Option (Nat)) := [(130060, some 99), (130063, some 100), (130067, some 101), (130070, some 102), (130073, some 103), (130076, some 104), (130079, some 105), (130082, some 109), (130085, some 115), (130088, some 116), (130092, some 118), (130095, some 122), (130099, some 123), (130102, some 124), (130105, some 125), (130108, some 126), (130112, some 127), (130115, some 128), (130118, some 130), (130121, some 131), (130124, some 133), (130127, some 138), (130131, some 139), (130134, some 140)]
set_option maxRecDepth 20000 in
theorem mlO_7 : ∀ q ∈ mlT_7, mlQ q := List.forall_mem_cons.mpr ⟨inT6 _ (List.mem_of_getElem? (i := 51) rfl), List.forall_mem_cons.mpr ⟨inT6 _ (List.mem_of_getElem? (i := 59) rfl), List.forall_mem_cons.mpr ⟨inT6 _ (List.mem_of_getElem? (i := 71) rfl), List.forall_mem_cons.mpr ⟨inT6 _ (List.mem_of_getElem? (i := 78) rfl), List.forall_mem_cons.mpr ⟨inT6 _ (List.mem_of_getElem? (i := 85) rfl), List.forall_mem_cons.mpr ⟨inT6 _ (List.mem_of_getElem? (i := 92) rfl), List.forall_mem_cons.mpr ⟨inT6 _ (List.mem_of_getElem? (i := 99) rfl), List.forall_mem_cons.mpr ⟨inT6 _ (List.mem_of_getElem? (i := 106) rfl), List.forall_mem_cons.mpr ⟨inT6 _ (List.mem_of_getElem? (i := 114) rfl), List.forall_mem_cons.mpr ⟨inT6 _ (List.mem_of_getElem? (i := 127) rfl), List.forall_mem_cons.mpr ⟨inT6 _ (List.mem_of_getElem? (i := 140) rfl), List.forall_mem_cons.mpr ⟨inT6 _ (List.mem_of_getElem? (i := 162) rfl), List.forall_mem_cons.mpr ⟨inT6 _ (List.mem_of_getElem? (i := 190) rfl), List.forall_mem_cons.mpr ⟨inT6 _ (List.mem_of_getElem? (i := 202) rfl), List.forall_mem_cons.mpr ⟨inT6 _ (List.mem_of_getElem? (i := 223) rfl), List.forall_mem_cons.mpr ⟨inT6 _ (List.mem_of_getElem? (i := 230) rfl), List.forall_mem_cons.mpr ⟨inT7 _ (List.mem_of_getElem? (i := 6) rfl), List.forall_mem_cons.mpr ⟨inT7 _ (List.mem_of_getElem? (i := 13) rfl), List.forall_mem_cons.mpr ⟨inT7 _ (List.mem_of_getElem? (i := 20) rfl), List.forall_mem_cons.mpr ⟨inT7 _ (List.mem_of_getElem? (i := 27) rfl), List.forall_mem_cons.mpr ⟨inT7 _ (List.mem_of_getElem? (i := 40) rfl), List.forall_mem_cons.mpr ⟨inT7 _ (List.mem_of_getElem? (i := 47) rfl), List.forall_mem_cons.mpr ⟨inT7 _ (List.mem_of_getElem? (i := 55) rfl), List.forall_mem_cons.mpr ⟨inT7 _ (List.mem_of_getElem? (i := 66) rfl), fun _ h => absurd h List.not_mem_nil⟩⟩⟩⟩⟩⟩⟩⟩⟩⟩⟩⟩⟩⟩⟩⟩⟩⟩⟩⟩⟩⟩⟩⟩
def mlT_8 : List (Nat × Option (Nat)) := [(130137, some 141), (130140, some 142), (130147, some 84), (130151, some 183), (130152, some 85), (130156, some 184), (130157, some 330), (130162, some 202), (130163, some 167), (130166, some 331), (130168, some 210), (130169, some 88), (130172, some 211), (130173, some 332), (130176, some 233), (130177, some 333), (130179, some 234), (130180, some 334), (130182, some 236), (130183, some 335), (130185, some 237), (130186, some 336), (130189, some 239), (130190, some 337)]
set_option maxRecDepth 20000 in
theorem mlO_8 : ∀ q ∈ mlT_8, mlQ q := List.forall_mem_cons.mpr ⟨inT7 _ (List.mem_of_getElem? (i := 73) rfl), List.forall_mem_cons.mpr ⟨inT7 _ (List.mem_of_getElem? (i := 91) rfl), List.forall_mem_cons.mpr ⟨inT2 _ (List.mem_of_getElem? (i := 215) rfl), List.forall_mem_cons.mpr ⟨inT7 _ (List.mem_of_getElem? (i := 199) rfl), List.forall_mem_cons.mpr ⟨inT2 _ (List.mem_of_getElem? (i := 223) rfl), List.forall_mem_cons.mpr ⟨inT7 _ (List.mem_of_getElem? (i := 203) rfl), List.forall_mem_cons.mpr ⟨inT4 _ (List.mem_of_getElem? (i := 57) rfl), List.forall_mem_cons.mpr ⟨inT7 _ (List.mem_of_getElem? (i := 210) rfl), List.forall_mem_cons.mpr ⟨inT7 _ (List.mem_of_getElem? (i := 195) rfl), List.forall_mem_cons.mpr ⟨inT5 _ (List.mem_of_getElem? (i := 46) rfl), List.forall_mem_cons.mpr ⟨inT8 _ (List.mem_of_getElem? (i := 110) rfl), List.forall_mem_cons.mpr ⟨inT2 _ (List.mem_of_getElem? (i := 227) rfl), List.forall_mem_cons.mpr ⟨inT8 _ (List.mem_of_getElem? (i := 114) rfl), List.forall_mem_cons.mpr ⟨inT5 _ (List.mem_of_getElem? (i := 119) rfl), List.forall_mem_cons.mpr ⟨inT8 _ (List.mem_of_getElem? (i := 118) rfl), List.forall_mem_cons.mpr ⟨inT5 _ (List.mem_of_getElem? (i := 181) rfl), List.forall_mem_cons.mpr ⟨inT8 _ (List.mem_of_getElem? (i := 197) rfl), List.forall_mem_cons.mpr ⟨inT5 _ (List.mem_of_getElem? (i := 195) rfl), List.forall_mem_cons.mpr ⟨inT8 _ (List.mem_of_getElem? (i := 209) rfl), List.forall_mem_cons.mpr ⟨inT5 _ (List.mem_of_getElem? (i := 203) rfl), List.forall_mem_cons.mpr ⟨inT8 _ (List.mem_of_getElem? (i := 217) rfl), List.forall_mem_cons.mpr ⟨inT5 _ (List.mem_of_getElem? (i := 211) rfl), List.forall_mem_cons.mpr ⟨inT8 _ (List.mem_of_getElem? (i := 221) rfl), List.forall_mem_cons.mpr ⟨inT5 _ (List.mem_of_getElem? (i := 228) rfl), fun _ h => absurd h List.not_mem_nil⟩⟩⟩⟩⟩⟩⟩⟩⟩⟩⟩⟩⟩⟩⟩⟩⟩⟩⟩⟩⟩⟩⟩⟩
def mlT_9 : List (Nat × Option (Nat)) := [(130192, some 241), (130193, some 338), (130195, some 242), (130196, some 339), (130199, some 243), (130200, some 340), (130202, some 244), (130203, some 341), (130205, some 245), (130206, some 342), (130208, some 246), (130209, some 343), (130212, some 247), (130213, some 344), (130215, some 248), (130216, some 345), (130218, some 249), (130219, some 346), (130221, some 251), (130222, some 347), (130224, some 252), (130225, some 348), (130227, some 253), (130228, some 106)]
set_option maxRecDepth 20000 in
theorem mlO_9 : ∀ q ∈ mlT_9, mlQ q := List.forall_mem_cons.mpr ⟨inT9 _ (List.mem_of_getElem? (i := 21) rfl), List.forall_mem_cons.mpr ⟨inT5 _ (List.mem_of_getElem? (i := 236) rfl), List.forall_mem_cons.mpr ⟨inT9 _ (List.mem_of_getElem? (i := 29) rfl), List.forall_mem_cons.mpr ⟨inT6 _ (List.mem_of_getElem? (i := 3) rfl), List.forall_mem_cons.mpr ⟨inT9 _ (List.mem_of_getElem? (i := 33) rfl), List.forall_mem_cons.mpr ⟨inT6 _ (List.mem_of_getElem? (i := 11) rfl), List.forall_mem_cons.mpr ⟨inT9 _ (List.mem_of_getElem? (i := 37) rfl), List.forall_mem_cons.mpr ⟨inT6 _ (List.mem_of_getElem? (i := 36) rfl), List.forall_mem_cons.mpr ⟨inT9 _ (List.mem_of_getElem? (i := 41) rfl), List.forall_mem_cons.mpr ⟨inT6 _ (List.mem_of_getElem? (i := 48) rfl), List.forall_mem_cons.mpr ⟨inT9 _ (List.mem_of_getElem? (i := 48) rfl), List.forall_mem_cons.mpr ⟨inT6 _ (List.mem_of_getElem? (i := 56) rfl), List.forall_mem_cons.mpr ⟨inT9 _ (List.mem_of_getElem? (i := 52) rfl), List.forall_mem_cons.mpr ⟨inT6 _ (List.mem_of_getElem? (i := 68) rfl), List.forall_mem_cons.mpr ⟨inT9 _ (List.mem_of_getElem? (i := 56) rfl), List.forall_mem_cons.mpr ⟨inT6 _ (List.mem_of_getElem? (i := 75) rfl), List.forall_mem_cons.mpr ⟨inT9 _ (List.mem_of_getElem? (i := 60) rfl), List.forall_mem_cons.mpr ⟨inT6 _ (List.mem_of_getElem? (i := 82) rfl), List.forall_mem_cons.mpr ⟨inT9 _ (List.mem_of_getElem? (i := 64) rfl), List.forall_mem_cons.mpr ⟨inT6 _ (List.mem_of_getElem? (i := 89) rfl), List.forall_mem_cons.mpr ⟨inT9 _ (List.mem_of_getElem? (i := 72) rfl), List.forall_mem_cons.mpr ⟨inT6 _ (List.mem_of_getElem? (i := 96) rfl), List.forall_mem_cons.mpr ⟨inT9 _ (List.mem_of_getElem? (i := 76) rfl), List.forall_mem_cons.mpr ⟨inT2 _ (List.mem_of_getElem? (i := 231) rfl), fun _ h => absurd h List.not_mem_nil⟩⟩⟩⟩⟩⟩⟩⟩⟩⟩⟩⟩⟩⟩⟩⟩⟩⟩⟩⟩⟩⟩⟩⟩
def mlT_10 : List (Nat × Option (Nat)) := [(130231, some 254), (130232, some 107), (130235, some 256), (130236, some 108), (130240, some 257), (130241, some 349), (130243, some 258), (130244, some 110), (130247, some 259), (130248, some 111), (130251, some 260), (130252, some 112), (130255, some 261), (130256, some 113), (130259, some 262), (130260, some 114), (130263, some 264), (130264, some 350), (130266, some 265), (130267, some 351), (130269, some 267), (130270, some 117), (130273, some 269), (130274, some 352)]
set_option maxRecDepth 20000 in
theorem mlO_10 : ∀ q ∈ mlT_10, mlQ q := List.forall_mem_cons.mpr ⟨inT9 _ (List.mem_of_getElem? (i := 80) rfl), List.forall_mem_cons.mpr ⟨inT3 _ (List.mem_of_getElem? (i := 9) rfl), List.forall_mem_cons.mpr ⟨inT9 _ (List.mem_of_getElem? (i := 87) rfl), List.forall_mem_cons.mpr ⟨inT3 _ (List.mem_of_getElem? (i := 130) rfl), List.forall_mem_cons.mpr ⟨inT9 _ (List.mem_of_getElem? (i := 95) rfl), List.forall_mem_cons.mpr ⟨inT6 _ (List.mem_of_getElem? (i := 103) rfl), List.forall_mem_cons.mpr ⟨inT9 _ (List.mem_of_getElem? (i := 99) rfl), List.forall_mem_cons.mpr ⟨inT3 _ (List.mem_of_getElem? (i := 134) rfl), List.forall_mem_cons.mpr ⟨inT9 _ (List.mem_of_getElem? (i := 103) rfl), List.forall_mem_cons.mpr ⟨inT3 _ (List.mem_of_getElem? (i := 139) rfl), List.forall_mem_cons.mpr ⟨inT9 _ (List.mem_of_getElem? (i := 107) rfl), List.forall_mem_cons.mpr ⟨inT3 _ (List.mem_of_getElem? (i := 166) rfl), List.forall_mem_cons.mpr ⟨inT9 _ (List.mem_of_getElem? (i := 111) rfl), List.forall_mem_cons.mpr ⟨inT3 _ (List.mem_of_getElem? (i := 170) rfl), List.forall_mem_cons.mpr ⟨inT9 _ (List.mem_of_getElem? (i := 115) rfl), List.forall_mem_cons.mpr ⟨inT3 _ (List.mem_of_getElem? (i := 185) rfl), List.forall_mem_cons.mpr ⟨inT9 _ (List.mem_of_getElem? (i := 120) rfl), List.forall_mem_cons.mpr ⟨inT6 _ (List.mem_of_getElem? (i := 111) rfl), List.forall_mem_cons.mpr ⟨inT9 _ (List.mem_of_getElem? (i := 128) rfl), List.forall_mem_cons.mpr ⟨inT6 _ (List.mem_of_getElem? (i := 124) rfl), List.forall_mem_cons.mpr ⟨inT9 _ (List.mem_of_getElem? (i := 132) rfl), List.forall_mem_cons.mpr ⟨inT3 _ (List.mem_of_getElem? (i := 193) rfl), List.forall_mem_cons.mpr ⟨inT9 _ (List.mem_of_getElem? (i := 140) rfl), List.forall_mem_cons.mpr ⟨inT6 _ (List.mem_of_getElem? (i := 137) rfl), fun _ h => absurd h List.not_mem_nil⟩⟩⟩⟩⟩⟩⟩⟩⟩⟩⟩⟩⟩⟩⟩⟩⟩⟩⟩⟩⟩⟩⟩⟩
def mlT_11 : List (Nat × Option (Nat)) := [(130276, some 271), (130277, some 119), (130280, some 272), (130281, some 120), (130284, some 273), (130285, some 121), (130288, some 275), (130289, some 353), (130292, some 278), (130293, some 354), (130295, some 279), (130296, some 355), (130298, some 282), (130299, some 356), (130301, some 283), (130302, some 357), (130305, some 286), (130306, some 358), (130308, some 287), (130309, some 359), (130311, some 289), (130312, some 129), (130315, some 290), (130316, some 360)]
set_option maxRecDepth 20000 in
theorem mlO_11 : ∀ q ∈ mlT_11, mlQ q := List.forall_mem_cons.mpr ⟨inT9 _ (List.mem_of_getElem? (i := 148) rfl), List.forall_mem_cons.mpr ⟨inT3 _ (List.mem_of_getElem? (i := 215) rfl), List.forall_mem_cons.mpr ⟨inT9 _ (List.mem_of_getElem? (i := 156) rfl), List.forall_mem_cons.mpr ⟨inT3 _ (List.mem_of_getElem? (i := 225) rfl), List.forall_mem_cons.mpr ⟨inT9 _ (List.mem_of_getElem? (i := 160) rfl), List.forall_mem_cons.mpr ⟨inT3 _ (List.mem_of_getElem? (i := 229) rfl), List.forall_mem_cons.mpr ⟨inT9 _ (List.mem_of_getElem? (i := 164) rfl), List.forall_mem_cons.mpr ⟨inT6 _ (List.mem_of_getElem? (i := 159) rfl), List.forall_mem_cons.mpr ⟨inT9 _ (List.mem_of_getElem? (i := 172) rfl), List.forall_mem_cons.mpr ⟨inT6 _ (List.mem_of_getElem? (i := 187) rfl), List.forall_mem_cons.mpr ⟨inT9 _ (List.mem_of_getElem? (i := 184) rfl), List.forall_mem_cons.mpr ⟨inT6 _ (List.mem_of_getElem? (i := 199) rfl), List.forall_mem_cons.mpr ⟨inT9 _ (List.mem_of_getElem? (i := 188) rfl), List.forall_mem_cons.mpr ⟨inT6 _ (List.mem_of_getElem? (i := 220) rfl), List.forall_mem_cons.mpr ⟨inT9 _ (List.mem_of_getElem? (i := 203) rfl), List.forall_mem_cons.mpr ⟨inT6 _ (List.mem_of_getElem? (i := 227) rfl), List.forall_mem_cons.mpr ⟨inT9 _ (List.mem_of_getElem? (i := 207) rfl), List.forall_mem_cons.mpr ⟨inT7 _ (List.mem_of_getElem? (i := 3) rfl), List.forall_mem_cons.mpr ⟨inT9 _ (List.mem_of_getElem? (i := 219) rfl), List.forall_mem_cons.mpr ⟨inT7 _ (List.mem_of_getElem? (i := 10) rfl), List.forall_mem_cons.mpr ⟨inT9 _ (List.mem_of_getElem? (i := 223) rfl), List.forall_mem_cons.mpr ⟨inT3 _ (List.mem_of_getElem? (i := 233) rfl), List.forall_mem_cons.mpr ⟨inT9 _ (List.mem_of_getElem? (i := 231) rfl), List.forall_mem_cons.mpr ⟨inT7 _ (List.mem_of_getElem? (i := 17) rfl), fun _ h => absurd h List.not_mem_nil⟩⟩⟩⟩⟩⟩⟩⟩⟩⟩⟩⟩⟩⟩⟩⟩⟩⟩⟩⟩⟩⟩⟩⟩
def mlT_12 : List (Nat × Option (Nat)) := [(130318, some 291), (130319, some 361), (130321, some 294), (130322, some 132), (130325, some 295), (130326, some 362), (130328, some 296), (130329, some 134), (130332, some 297), (130333, some 135), (130336, some 298), (130337, some 137), (130340, some 300), (130341, some 136), (130344, some 301), (130345, some 363), (130347, some 302), (130348, some 364), (130350, some 303), (130351, some 365), (130353, some 304), (130354, some 366), (130356, some 306), (130357, some 367)]
set_option maxRecDepth 20000 in
theorem mlO_12 : ∀ q ∈ mlT_12, mlQ q := List.forall_mem_cons.mpr ⟨inT9 _ (List.mem_of_getElem? (i := 235) rfl), List.forall_mem_cons.mpr ⟨inT7 _ (List.mem_of_getElem? (i := 24) rfl), List.forall_mem_cons.mpr ⟨inT9 _ (List.mem_of_getElem? (i := 239) rfl), List.forall_mem_cons.mpr ⟨inT4 _ (List.mem_of_getElem? (i := 1) rfl), List.forall_mem_cons.mpr ⟨inT10 _ (List.mem_of_getElem? (i := 9) rfl), List.forall_mem_cons.mpr ⟨inT7 _ (List.mem_of_getElem? (i := 37) rfl), List.forall_mem_cons.mpr ⟨inT10 _ (List.mem_of_getElem? (i := 13) rfl), List.forall_mem_cons.mpr ⟨inT4 _ (List.mem_of_getElem? (i := 6) rfl), List.forall_mem_cons.mpr ⟨inT10 _ (List.mem_of_getElem? (i := 17) rfl), List.forall_mem_cons.mpr ⟨inT4 _ (List.mem_of_getElem? (i := 10) rfl), List.forall_mem_cons.mpr ⟨inT10 _ (List.mem_of_getElem? (i := 21) rfl), List.forall_mem_cons.mpr ⟨inT4 _ (List.mem_of_getElem? (i := 19) rfl), List.forall_mem_cons.mpr ⟨inT10 _ (List.mem_of_getElem? (i := 25) rfl), List.forall_mem_cons.mpr ⟨inT4 _ (List.mem_of_getElem? (i := 15) rfl), List.forall_mem_cons.mpr ⟨inT10 _ (List.mem_of_getElem? (i := 33) rfl), List.forall_mem_cons.mpr ⟨inT7 _ (List.mem_of_getElem? (i := 44) rfl), List.forall_mem_cons.mpr ⟨inT10 _ (List.mem_of_getElem? (i := 37) rfl), List.forall_mem_cons.mpr ⟨inT7 _ (List.mem_of_getElem? (i := 52) rfl), List.forall_mem_cons.mpr ⟨inT10 _ (List.mem_of_getElem? (i := 41) rfl), List.forall_mem_cons.mpr ⟨inT7 _ (List.mem_of_getElem? (i := 63) rfl), List.forall_mem_cons.mpr ⟨inT10 _ (List.mem_of_getElem? (i := 45) rfl), List.forall_mem_cons.mpr ⟨inT7 _ (List.mem_of_getElem? (i := 70) rfl), List.forall_mem_cons.mpr ⟨inT10 _ (List.mem_of_getElem? (i := 49) rfl), List.forall_mem_cons.mpr ⟨inT7 _ (List.mem_of_getElem? (i := 88) rfl), fun _ h => absurd h List.not_mem_nil⟩⟩⟩⟩⟩⟩⟩⟩⟩⟩⟩⟩⟩⟩⟩⟩⟩⟩⟩⟩⟩⟩⟩⟩
def mlT_13 : List (Nat × Option (Nat)) := [(130359, some 307), (130360, some 143), (130363, some 308), (130364, some 144), (130367, some 309), (130368, some 145), (130371, some 310), (130372, some 146), (130375, some 311), (130376, some 147), (130379, some 312), (120060, some 168), (120064, some 175), (120068, some 180), (120084, some 185), (120088, some 186), (120091, some 323), (120097, some 324), (120101, some 190), (120104, some 189), (120108, some 188), (120112, some 191), (120117, some 192), (120126, some 174)]
set_option maxRecDepth 20000 in
theorem mlO_13 : ∀ q ∈ mlT_13, mlQ q := List.forall_mem_cons.mpr ⟨inT10 _ (List.mem_of_getElem? (i := 53) rfl), List.forall_mem_cons.mpr ⟨inT4 _ (List.mem_of_getElem? (i := 23) rfl), List.forall_mem_cons.mpr ⟨inT10 _ (List.mem_of_getElem? (i := 57) rfl), List.forall_mem_cons.mpr ⟨inT4 _ (List.mem_of_getElem? (i := 27) rfl), List.forall_mem_cons.mpr ⟨inT10 _ (List.mem_of_getElem? (i := 61) rfl), List.forall_mem_cons.mpr ⟨inT4 _ (List.mem_of_getElem? (i := 36) rfl), List.forall_mem_cons.mpr ⟨inT10 _ (List.mem_of_getElem? (i := 65) rfl), List.forall_mem_cons.mpr ⟨inT4 _ (List.mem_of_getElem? (i := 45) rfl), List.forall_mem_cons.mpr ⟨inT10 _ (List.mem_of_getElem? (i := 69) rfl), List.forall_mem_cons.mpr ⟨inT4 _ (List.mem_of_getElem? (i := 53) rfl), List.forall_mem_cons.mpr ⟨inT10 _ (List.mem_of_getElem? (i := 73) rfl), List.forall_mem_cons.mpr ⟨inT7 _ (List.mem_of_getElem? (i := 207) rfl), List.forall_mem_cons.mpr ⟨inT8 _ (List.mem_of_getElem? (i := 97) rfl), List.forall_mem_cons.mpr ⟨inT8 _ (List.mem_of_getElem? (i := 93) rfl), List.forall_mem_cons.mpr ⟨inT7 _ (List.mem_of_getElem? (i := 230) rfl), List.forall_mem_cons.mpr ⟨inT7 _ (List.mem_of_getElem? (i := 226) rfl), List.forall_mem_cons.mpr ⟨inT8 _ (List.mem_of_getElem? (i := 7) rfl), List.forall_mem_cons.mpr ⟨inT8 _ (List.mem_of_getElem? (i := 8) rfl), List.forall_mem_cons.mpr ⟨inT8 _ (List.mem_of_getElem? (i := 15) rfl), List.forall_mem_cons.mpr ⟨inT7 _ (List.mem_of_getElem? (i := 234) rfl), List.forall_mem_cons.mpr ⟨inT8 _ (List.mem_of_getElem? (i := 3) rfl), List.forall_mem_cons.mpr ⟨inT8 _ (List.mem_of_getElem? (i := 11) rfl), List.forall_mem_cons.mpr ⟨inT8 _ (List.mem_of_getElem? (i := 69) rfl), List.forall_mem_cons.mpr ⟨inT8 _ (List.mem_of_getElem? (i := 76) rfl), fun _ h => absurd h List.not_mem_nil⟩⟩⟩⟩⟩⟩⟩⟩⟩⟩⟩⟩⟩⟩⟩⟩⟩⟩⟩⟩⟩⟩⟩⟩
def mlT_14 : List (Nat × Option (Nat)) := [(120130, some 194), (120133, some 182), (120140, some 193), (120145, some 195), (120150, some 196), (120160, some 209), (120163, some 197), (120166, some 187), (120169, some 200), (120172, some 198), (120175, some 199), (120179, some 201), (120191, some 203), (120202, some 204), (120207, some 205), (120211, some 206), (120214, some 208), (120219, some 207), (120241, some 173), (120244, some 212), (120248, some 170), (120251, some 214), (120254, some 213), (120258, some 217)]
set_option maxRecDepth 20000 in
theorem mlO_14 : ∀ q ∈ mlT_14, mlQ q := List.forall_mem_cons.mpr ⟨inT8 _ (List.mem_of_getElem? (i := 85) rfl), List.forall_mem_cons.mpr ⟨inT8 _ (List.mem_of_getElem? (i := 89) rfl), List.forall_mem_cons.mpr ⟨inT8 _ (List.mem_of_getElem? (i := 64) rfl), List.forall_mem_cons.mpr ⟨inT8 _ (List.mem_of_getElem? (i := 81) rfl), List.forall_mem_cons.mpr ⟨inT8 _ (List.mem_of_getElem? (i := 102) rfl), List.forall_mem_cons.mpr ⟨inT7 _ (List.mem_of_getElem? (i := 238) rfl), List.forall_mem_cons.mpr ⟨inT8 _ (List.mem_of_getElem? (i := 60) rfl), List.forall_mem_cons.mpr ⟨inT8 _ (List.mem_of_getElem? (i := 33) rfl), List.forall_mem_cons.mpr ⟨inT7 _ (List.mem_of_getElem? (i := 214) rfl), List.forall_mem_cons.mpr ⟨inT7 _ (List.mem_of_getElem? (i := 218) rfl), List.forall_mem_cons.mpr ⟨inT7 _ (List.mem_of_getElem? (i := 222) rfl), List.forall_mem_cons.mpr ⟨inT8 _ (List.mem_of_getElem? (i := 106) rfl), List.forall_mem_cons.mpr ⟨inT8 _ (List.mem_of_getElem? (i := 47) rfl), List.forall_mem_cons.mpr ⟨inT8 _ (List.mem_of_getElem? (i := 43) rfl), List.forall_mem_cons.mpr ⟨inT8 _ (List.mem_of_getElem? (i := 37) rfl), List.forall_mem_cons.mpr ⟨inT8 _ (List.mem_of_getElem? (i := 28) rfl), List.forall_mem_cons.mpr ⟨inT8 _ (List.mem_of_getElem? (i := 20) rfl), List.forall_mem_cons.mpr ⟨inT8 _ (List.mem_of_getElem? (i := 24) rfl), List.forall_mem_cons.mpr ⟨inT8 _ (List.mem_of_getElem? (i := 126) rfl), List.forall_mem_cons.mpr ⟨inT8 _ (List.mem_of_getElem? (i := 162) rfl), List.forall_mem_cons.mpr ⟨inT8 _ (List.mem_of_getElem? (i := 166) rfl), List.forall_mem_cons.mpr ⟨inT8 _ (List.mem_of_getElem? (i := 154) rfl), List.forall_mem_cons.mpr ⟨inT8 _ (List.mem_of_getElem? (i := 158) rfl), List.forall_mem_cons.mpr ⟨inT8 _ (List.mem_of_getElem? (i := 146) rfl), fun _ h => absurd h List.not_mem_nil⟩⟩⟩⟩⟩⟩⟩⟩⟩⟩⟩⟩⟩⟩⟩⟩⟩⟩⟩⟩⟩⟩⟩⟩
def mlT_15 : List (Nat × Option (Nat)) := [(120261, some 215), (120267, some 171), (120271, some 220), (120274, some 221), (120278, some 219), (120281, some 218), (120284, some 181), (120287, some 223), (120290, some 222), (120294, some 169), (120297, some 224), (120300, some 229), (120303, some 226), (120306, some 227), (120309, some 216), (120312, some 228), (120315, some 225), (120318, some 305), (120321, some 176), (120324, some 232), (120327, some 231), (120330, some 177), (120333, some 235), (120336, some 238)]
set_option maxRecDepth 20000 in
theorem mlO_15 : ∀ q ∈ mlT_15, mlQ q := List.forall_mem_cons.mpr ⟨inT8 _ (List.mem_of_getElem? (i := 150) rfl), List.forall_mem_cons.mpr ⟨inT8 _ (List.mem_of_getElem? (i := 185) rfl), List.forall_mem_cons.mpr ⟨inT8 _ (List.mem_of_getElem? (i := 188) rfl), List.forall_mem_cons.mpr ⟨inT8 _ (List.mem_of_getElem? (i := 192) rfl), List.forall_mem_cons.mpr ⟨inT8 _ (List.mem_of_getElem? (i := 181) rfl), List.forall_mem_cons.mpr ⟨inT8 _ (List.mem_of_getElem? (i := 142) rfl), List.forall_mem_cons.mpr ⟨inT8 _ (List.mem_of_getElem? (i := 173) rfl), List.forall_mem_cons.mpr ⟨inT9 _ (List.mem_of_getElem? (i := 1) rfl), List.forall_mem_cons.mpr ⟨inT8 _ (List.mem_of_getElem? (i := 177) rfl), List.forall_mem_cons.mpr ⟨inT9 _ (List.mem_of_getElem? (i := 18) rfl), List.forall_mem_cons.mpr ⟨inT8 _ (List.mem_of_getElem? (i := 237) rfl), List.forall_mem_cons.mpr ⟨inT9 _ (List.mem_of_getElem? (i := 5) rfl), List.forall_mem_cons.mpr ⟨inT9 _ (List.mem_of_getElem? (i := 9) rfl), List.forall_mem_cons.mpr ⟨inT9 _ (List.mem_of_getElem? (i := 14) rfl), List.forall_mem_cons.mpr ⟨inT8 _ (List.mem_of_getElem? (i := 205) rfl), List.forall_mem_cons.mpr ⟨inT8 _ (List.mem_of_getElem? (i := 233) rfl), List.forall_mem_cons.mpr ⟨inT8 _ (List.mem_of_getElem? (i := 169) rfl), List.forall_mem_cons.mpr ⟨inT8 _ (List.mem_of_getElem? (i := 134) rfl), List.forall_mem_cons.mpr ⟨inT8 _ (List.mem_of_getElem? (i := 122) rfl), List.forall_mem_cons.mpr ⟨inT8 _ (List.mem_of_getElem? (i := 130) rfl), List.forall_mem_cons.mpr ⟨inT8 _ (List.mem_of_getElem? (i := 138) rfl), List.forall_mem_cons.mpr ⟨inT8 _ (List.mem_of_getElem? (i := 201) rfl), List.forall_mem_cons.mpr ⟨inT8 _ (List.mem_of_getElem? (i := 213) rfl), List.forall_mem_cons.mpr ⟨inT8 _ (List.mem_of_getElem? (i := 225) rfl), fun _ h => absurd h List.not_mem_nil⟩⟩⟩⟩⟩⟩⟩⟩⟩⟩⟩⟩⟩⟩⟩⟩⟩⟩⟩⟩⟩⟩⟩⟩
def mlT_16 : List (Nat × Option (Nat)) := [(120339, some 230), (120343, some 240), (120346, some 178), (120349, some 250), (120352, some 172), (120355, some 255), (120359, some 263), (120362, some 266), (120365, some 268), (120368, some 270), (120371, some 274), (120374, some 276), (120377, some 277), (120380, some 280), (120383, some 179), (120386, some 281), (120389, some 285), (120392, some 284), (120395, some 288), (120398, some 292), (120401, some 293), (120404, some 299), (150308, some 313), (150311, some 314)]
set_option maxRecDepth 20000 in
theorem mlO_16 : ∀ q ∈ mlT_16, mlQ q := List.forall_mem_cons.mpr ⟨inT8 _ (List.mem_of_getElem? (i := 229) rfl), List.forall_mem_cons.mpr ⟨inT9 _ (List.mem_of_getElem? (i := 25) rfl), List.forall_mem_cons.mpr ⟨inT9 _ (List.mem_of_getElem? (i := 45) rfl), List.forall_mem_cons.mpr ⟨inT9 _ (List.mem_of_getElem? (i := 68) rfl), List.forall_mem_cons.mpr ⟨inT9 _ (List.mem_of_getElem? (i := 84) rfl), List.forall_mem_cons.mpr ⟨inT9 _ (List.mem_of_getElem? (i := 91) rfl), List.forall_mem_cons.mpr ⟨inT9 _ (List.mem_of_getElem? (i := 124) rfl), List.forall_mem_cons.mpr ⟨inT9 _ (List.mem_of_getElem? (i := 136) rfl), List.forall_mem_cons.mpr ⟨inT9 _ (List.mem_of_getElem? (i := 144) rfl), List.forall_mem_cons.mpr ⟨inT9 _ (List.mem_of_getElem? (i := 152) rfl), List.forall_mem_cons.mpr ⟨inT9 _ (List.mem_of_getElem? (i := 168) rfl), List.forall_mem_cons.mpr ⟨inT9 _ (List.mem_of_getElem? (i := 180) rfl), List.forall_mem_cons.mpr ⟨inT9 _ (List.mem_of_getElem? (i := 176) rfl), List.forall_mem_cons.mpr ⟨inT9 _ (List.mem_of_getElem? (i := 199) rfl), List.forall_mem_cons.mpr ⟨inT9 _ (List.mem_of_getElem? (i := 192) rfl), List.forall_mem_cons.mpr ⟨inT9 _ (List.mem_of_getElem? (i := 195) rfl), List.forall_mem_cons.mpr ⟨inT9 _ (List.mem_of_getElem? (i := 211) rfl), List.forall_mem_cons.mpr ⟨inT9 _ (List.mem_of_getElem? (i := 215) rfl), List.forall_mem_cons.mpr ⟨inT9 _ (List.mem_of_getElem? (i := 227) rfl), List.forall_mem_cons.mpr ⟨inT10 _ (List.mem_of_getElem? (i := 3) rfl), List.forall_mem_cons.mpr ⟨inT10 _ (List.mem_of_getElem? (i := 6) rfl), List.forall_mem_cons.mpr ⟨inT10 _ (List.mem_of_getElem? (i := 29) rfl), List.forall_mem_cons.mpr ⟨inT3 _ (List.mem_of_getElem? (i := 211) rfl), List.forall_mem_cons.mpr ⟨inT6 _ (List.mem_of_getElem? (i := 134) rfl), fun _ h => absurd h List.not_mem_nil⟩⟩⟩⟩⟩⟩⟩⟩⟩⟩⟩⟩⟩⟩⟩⟩⟩⟩⟩⟩⟩⟩⟩⟩
def mlT_17 : List (Nat × Option (Nat)) := [(170335, some 325), (170492, some 326), (170495, some 328), (171059, some 329), (180009, some 327)]
set_option maxRecDepth 20000 in
theorem mlO_17 : ∀ q ∈ mlT_17, mlQ q := List.forall_mem_cons.mpr ⟨inT4 _ (List.mem_of_getElem? (i := 99) rfl), List.forall_mem_cons.mpr ⟨inT4 _ (List.mem_of_getElem? (i := 109) rfl), List.forall_mem_cons.mpr ⟨inT4 _ (List.mem_of_getElem? (i := 113) rfl), List.forall_mem_cons.mpr ⟨inT4 _ (List.mem_of_getElem? (i := 121) rfl), List.forall_mem_cons.mpr ⟨inT4 _ (List.mem_of_getElem? (i := 116) rfl), fun _ h => absurd h List.not_mem_nil⟩⟩⟩⟩⟩
def mlT : List (Nat × Option (Nat)) := mlT_0 ++ (mlT_1 ++ (mlT_2 ++ (mlT_3 ++ (mlT_4 ++ (mlT_5 ++ (mlT_6 ++ (mlT_7 ++ (mlT_8 ++ (mlT_9 ++ (mlT_10 ++ (mlT_11 ++ (mlT_12 ++ (mlT_13 ++ (mlT_14 ++ (mlT_15 ++ (mlT_16 ++ (mlT_17)))))))))))))))))
theorem mlO : ∀ q ∈ mlT, mlQ q := by
  intro q h
  unfold mlT at h
  rcases List.mem_append.mp h with h | h
  · exact mlO_0 q h
  rcases List.mem_append.mp h with h | h
  · exact mlO_1 q h
  rcases List.mem_append.mp h with h | h
  · exact mlO_2 q h
  rcases List.mem_append.mp h with h | h
  · exact mlO_3 q h
  rcases List.mem_append.mp h with h | h
  · exact mlO_4 q h
  rcases List.mem_append.mp h with h | h
  · exact mlO_5 q h
  rcases List.mem_append.mp h with h | h
  · exact mlO_6 q h
  rcases List.mem_append.mp h with h | h
  · exact mlO_7 q h
  rcases List.mem_append.mp h with h | h
  · exact mlO_8 q h
  rcases List.mem_append.mp h with h | h
  · exact mlO_9 q h
  rcases List.mem_append.mp h with h | h
  · exact mlO_10 q h
  rcases List.mem_append.mp h with h | h
  · exact mlO_11 q h
  rcases List.mem_append.mp h with h | h
  · exact mlO_12 q h
  rcases List.mem_append.mp h with h | h
  · exact mlO_13 q h
  rcases List.mem_append.mp h with h | h
  · exact mlO_14 q h
  rcases List.mem_append.mp h with h | h
  · exact mlO_15 q h
  rcases List.mem_append.mp h with h | h
  · exact mlO_16 q h
  exact mlO_17 q h
def mlk (k : Nat) : Option (Nat) := lkp none k mlT
theorem mlk_ok {k : Nat} {v : Nat} (h : mlk k = some v) : mlQ (k, some v) := mlO _ (lkp_mem h)
def sTx : List String := ["and", "another note stands there", "at", "beat", "both hands are of one player", "both hands are one", "both players are one", "far", "hand", "hard", "if", "key", "left", "low", "near", "no such beat", "no such hand", "no such key", "no such note", "no such number of turns", "no such player", "no such what of a hand", "no such what of a hand ahead", "no such what of a note", "no such what of a row", "not", "note", "of", "or", "page", "player", "r is 0 to 40", "reach", "skill", "slip", "slip is 0 to 100", "take", "the note is at that beat", "the note is struck out", "the tape is no row of keys", "the tape is no rows of notes", "the text of the law is wrong", "the text of the piece is wrong", "there are 12 texts", "tired", "turns are 1 to 60"]
def slQ (q : Nat × Option (Nat)) : Prop := match q.2 with
  | some v => Cond.stringRef (cN (q.1 / 10000)) (q.1 % 10000) (sTx.getD v "") ∈ lw_tbl
  | none => True
def slT_0 : List (Nat × Option (Nat)) := [(110131, some 42), (110141, some 43), (110148, some 41), (110194, some 21), (110216, some 23), (110226, some 45), (110241, some 17), (110254, some 1), (110260, some 37), (110266, some 35), (110271, some 4), (110304, some 31), (110326, some 38), (110349, some 39), (110366, some 40), (110383, some 6), (110391, some 5), (110411, some 22), (110428, some 24), (110456, some 16), (110458, some 18), (110460, some 15), (110462, some 20), (110464, some 19)]
set_option maxRecDepth 20000 in
theorem slO_0 : ∀ q ∈ slT_0, slQ q := List.forall_mem_cons.mpr ⟨inT5 _ (List.mem_of_getElem? (i := 3) rfl), List.forall_mem_cons.mpr ⟨inT5 _ (List.mem_of_getElem? (i := 39) rfl), List.forall_mem_cons.mpr ⟨inT5 _ (List.mem_of_getElem? (i := 118) rfl), List.forall_mem_cons.mpr ⟨inT5 _ (List.mem_of_getElem? (i := 174) rfl), List.forall_mem_cons.mpr ⟨inT5 _ (List.mem_of_getElem? (i := 194) rfl), List.forall_mem_cons.mpr ⟨inT5 _ (List.mem_of_getElem? (i := 218) rfl), List.forall_mem_cons.mpr ⟨inT5 _ (List.mem_of_getElem? (i := 235) rfl), List.forall_mem_cons.mpr ⟨inT6 _ (List.mem_of_getElem? (i := 29) rfl), List.forall_mem_cons.mpr ⟨inT6 _ (List.mem_of_getElem? (i := 47) rfl), List.forall_mem_cons.mpr ⟨inT6 _ (List.mem_of_getElem? (i := 55) rfl), List.forall_mem_cons.mpr ⟨inT6 _ (List.mem_of_getElem? (i := 63) rfl), List.forall_mem_cons.mpr ⟨inT6 _ (List.mem_of_getElem? (i := 110) rfl), List.forall_mem_cons.mpr ⟨inT6 _ (List.mem_of_getElem? (i := 118) rfl), List.forall_mem_cons.mpr ⟨inT6 _ (List.mem_of_getElem? (i := 149) rfl), List.forall_mem_cons.mpr ⟨inT6 _ (List.mem_of_getElem? (i := 170) rfl), List.forall_mem_cons.mpr ⟨inT6 _ (List.mem_of_getElem? (i := 210) rfl), List.forall_mem_cons.mpr ⟨inT6 _ (List.mem_of_getElem? (i := 234) rfl), List.forall_mem_cons.mpr ⟨inT7 _ (List.mem_of_getElem? (i := 51) rfl), List.forall_mem_cons.mpr ⟨inT7 _ (List.mem_of_getElem? (i := 95) rfl), List.forall_mem_cons.mpr ⟨inT5 _ (List.mem_of_getElem? (i := 141) rfl), List.forall_mem_cons.mpr ⟨inT5 _ (List.mem_of_getElem? (i := 192) rfl), List.forall_mem_cons.mpr ⟨inT6 _ (List.mem_of_getElem? (i := 46) rfl), List.forall_mem_cons.mpr ⟨inT6 _ (List.mem_of_getElem? (i := 209) rfl), List.forall_mem_cons.mpr ⟨inT5 _ (List.mem_of_getElem? (i := 222) rfl), fun _ h => absurd h List.not_mem_nil⟩⟩⟩⟩⟩⟩⟩⟩⟩⟩⟩⟩⟩⟩⟩⟩⟩⟩⟩⟩⟩⟩⟩⟩
def slT_1 : List (Nat × Option (Nat)) := [(20034, some 7), (20040, some 14), (20042, some 36), (20054, some 10), (20075, some 28), (20080, some 0), (20082, some 25), (20090, some 12), (20092, some 13), (20100, some 8), (20102, some 11), (20104, some 9), (20106, some 44), (20108, some 30), (20110, some 3), (20112, some 29), (60038, some 8), (60053, some 26), (60061, some 34), (60069, some 3), (60073, some 29), (60086, some 27), (60092, some 2), (60094, some 32)]
set_option maxRecDepth 20000 in
theorem slO_1 : ∀ q ∈ slT_1, slQ q := List.forall_mem_cons.mpr ⟨inT5 _ (List.mem_of_getElem? (i := 63) rfl), List.forall_mem_cons.mpr ⟨inT5 _ (List.mem_of_getElem? (i := 65) rfl), List.forall_mem_cons.mpr ⟨inT5 _ (List.mem_of_getElem? (i := 66) rfl), List.forall_mem_cons.mpr ⟨inT5 _ (List.mem_of_getElem? (i := 70) rfl), List.forall_mem_cons.mpr ⟨inT5 _ (List.mem_of_getElem? (i := 112) rfl), List.forall_mem_cons.mpr ⟨inT5 _ (List.mem_of_getElem? (i := 111) rfl), List.forall_mem_cons.mpr ⟨inT5 _ (List.mem_of_getElem? (i := 87) rfl), List.forall_mem_cons.mpr ⟨inT5 _ (List.mem_of_getElem? (i := 94) rfl), List.forall_mem_cons.mpr ⟨inT5 _ (List.mem_of_getElem? (i := 95) rfl), List.forall_mem_cons.mpr ⟨inT5 _ (List.mem_of_getElem? (i := 104) rfl), List.forall_mem_cons.mpr ⟨inT5 _ (List.mem_of_getElem? (i := 105) rfl), List.forall_mem_cons.mpr ⟨inT5 _ (List.mem_of_getElem? (i := 106) rfl), List.forall_mem_cons.mpr ⟨inT5 _ (List.mem_of_getElem? (i := 107) rfl), List.forall_mem_cons.mpr ⟨inT5 _ (List.mem_of_getElem? (i := 108) rfl), List.forall_mem_cons.mpr ⟨inT5 _ (List.mem_of_getElem? (i := 109) rfl), List.forall_mem_cons.mpr ⟨inT5 _ (List.mem_of_getElem? (i := 110) rfl), List.forall_mem_cons.mpr ⟨inT4 _ (List.mem_of_getElem? (i := 90) rfl), List.forall_mem_cons.mpr ⟨inT4 _ (List.mem_of_getElem? (i := 170) rfl), List.forall_mem_cons.mpr ⟨inT4 _ (List.mem_of_getElem? (i := 188) rfl), List.forall_mem_cons.mpr ⟨inT4 _ (List.mem_of_getElem? (i := 189) rfl), List.forall_mem_cons.mpr ⟨inT4 _ (List.mem_of_getElem? (i := 190) rfl), List.forall_mem_cons.mpr ⟨inT4 _ (List.mem_of_getElem? (i := 148) rfl), List.forall_mem_cons.mpr ⟨inT4 _ (List.mem_of_getElem? (i := 166) rfl), List.forall_mem_cons.mpr ⟨inT4 _ (List.mem_of_getElem? (i := 167) rfl), fun _ h => absurd h List.not_mem_nil⟩⟩⟩⟩⟩⟩⟩⟩⟩⟩⟩⟩⟩⟩⟩⟩⟩⟩⟩⟩⟩⟩⟩⟩
def slT_2 : List (Nat × Option (Nat)) := [(60096, some 33), (60112, some 9), (120115, some 27), (120121, some 2), (120122, some 32), (120124, some 33), (120136, some 9), (120138, some 8), (120143, some 26), (120148, some 34), (120153, some 3), (120155, some 29), (120185, some 11), (120187, some 44), (120189, some 30), (120194, some 12), (120200, some 13), (120205, some 25), (120217, some 0), (120222, some 28), (120224, some 7), (120226, some 14), (120228, some 36), (120230, some 10)]
set_option maxRecDepth 20000 in
theorem slO_2 : ∀ q ∈ slT_2, slQ q := List.forall_mem_cons.mpr ⟨inT4 _ (List.mem_of_getElem? (i := 168) rfl), List.forall_mem_cons.mpr ⟨inT4 _ (List.mem_of_getElem? (i := 183) rfl), List.forall_mem_cons.mpr ⟨inT8 _ (List.mem_of_getElem? (i := 68) rfl), List.forall_mem_cons.mpr ⟨inT8 _ (List.mem_of_getElem? (i := 73) rfl), List.forall_mem_cons.mpr ⟨inT8 _ (List.mem_of_getElem? (i := 74) rfl), List.forall_mem_cons.mpr ⟨inT8 _ (List.mem_of_getElem? (i := 75) rfl), List.forall_mem_cons.mpr ⟨inT8 _ (List.mem_of_getElem? (i := 53) rfl), List.forall_mem_cons.mpr ⟨inT8 _ (List.mem_of_getElem? (i := 51) rfl), List.forall_mem_cons.mpr ⟨inT8 _ (List.mem_of_getElem? (i := 80) rfl), List.forall_mem_cons.mpr ⟨inT8 _ (List.mem_of_getElem? (i := 101) rfl), List.forall_mem_cons.mpr ⟨inT8 _ (List.mem_of_getElem? (i := 56) rfl), List.forall_mem_cons.mpr ⟨inT8 _ (List.mem_of_getElem? (i := 57) rfl), List.forall_mem_cons.mpr ⟨inT8 _ (List.mem_of_getElem? (i := 52) rfl), List.forall_mem_cons.mpr ⟨inT8 _ (List.mem_of_getElem? (i := 54) rfl), List.forall_mem_cons.mpr ⟨inT8 _ (List.mem_of_getElem? (i := 55) rfl), List.forall_mem_cons.mpr ⟨inT8 _ (List.mem_of_getElem? (i := 41) rfl), List.forall_mem_cons.mpr ⟨inT8 _ (List.mem_of_getElem? (i := 42) rfl), List.forall_mem_cons.mpr ⟨inT8 _ (List.mem_of_getElem? (i := 32) rfl), List.forall_mem_cons.mpr ⟨inT8 _ (List.mem_of_getElem? (i := 58) rfl), List.forall_mem_cons.mpr ⟨inT8 _ (List.mem_of_getElem? (i := 59) rfl), List.forall_mem_cons.mpr ⟨inT8 _ (List.mem_of_getElem? (i := 2) rfl), List.forall_mem_cons.mpr ⟨inT8 _ (List.mem_of_getElem? (i := 9) rfl), List.forall_mem_cons.mpr ⟨inT8 _ (List.mem_of_getElem? (i := 10) rfl), List.forall_mem_cons.mpr ⟨inT8 _ (List.mem_of_getElem? (i := 19) rfl), fun _ h => absurd h List.not_mem_nil⟩⟩⟩⟩⟩⟩⟩⟩⟩⟩⟩⟩⟩⟩⟩⟩⟩⟩⟩⟩⟩⟩⟩⟩
def slT : List (Nat × Option (Nat)) := slT_0 ++ (slT_1 ++ (slT_2))
theorem slO : ∀ q ∈ slT, slQ q := by
  intro q h
  unfold slT at h
  rcases List.mem_append.mp h with h | h
  · exact slO_0 q h
  rcases List.mem_append.mp h with h | h
  · exact slO_1 q h
  exact slO_2 q h
def slk (k : Nat) : Option (Nat) := lkp none k slT
theorem slk_ok {k : Nat} {v : Nat} (h : slk k = some v) : slQ (k, some v) := slO _ (lkp_mem h)
def kiQ (q : Nat × Option (Int)) : Prop := match q.2 with
  | some v => Cond.constant (cN (q.1 / 10000)) (q.1 % 10000) (Int32.ofInt v) ∈ lw_tbl
  | none => True
def kiT_0 : List (Nat × Option (Int)) := [(70092, some 1103515245), (120277, some 100000), (120293, some 1103515245), (120358, some 2000000000), (140264, some 65536), (140265, some 1431655765), (140266, some 858993459), (140267, some 252645135)]
set_option maxRecDepth 20000 in
theorem kiO_0 : ∀ q ∈ kiT_0, kiQ q := List.forall_mem_cons.mpr ⟨inT3 _ (List.mem_of_getElem? (i := 99) rfl), List.forall_mem_cons.mpr ⟨inT8 _ (List.mem_of_getElem? (i := 196) rfl), List.forall_mem_cons.mpr ⟨inT9 _ (List.mem_of_getElem? (i := 13) rfl), List.forall_mem_cons.mpr ⟨inT9 _ (List.mem_of_getElem? (i := 119) rfl), List.forall_mem_cons.mpr ⟨inT3 _ (List.mem_of_getElem? (i := 214) rfl), List.forall_mem_cons.mpr ⟨inT3 _ (List.mem_of_getElem? (i := 6) rfl), List.forall_mem_cons.mpr ⟨inT3 _ (List.mem_of_getElem? (i := 7) rfl), List.forall_mem_cons.mpr ⟨inT3 _ (List.mem_of_getElem? (i := 8) rfl), fun _ h => absurd h List.not_mem_nil⟩⟩⟩⟩⟩⟩⟩⟩
def kiT : List (Nat × Option (Int)) := kiT_0
theorem kiO : ∀ q ∈ kiT, kiQ q := by
  intro q h
  unfold kiT at h
  exact kiO_0 q h
def kik (k : Nat) : Option (Int) := lkp none k kiT
theorem kik_ok {k : Nat} {v : Int} (h : kik k = some v) : kiQ (k, some v) := kiO _ (lkp_mem h)
def kjQ (q : Nat × Option (Int)) : Prop := match q.2 with
  | some v => Cond.constantLong (cN (q.1 / 10000)) (q.1 % 10000) (Int64.ofInt v) ∈ lw_tbl
  | none => True
def kjT_0 : List (Nat × Option (Int)) := [(150314, some 6148914691236517205), (150316, some 3689348814741910323), (150318, some 1085102592571150095)]
set_option maxRecDepth 20000 in
theorem kjO_0 : ∀ q ∈ kjT_0, kjQ q := List.forall_mem_cons.mpr ⟨inT3 _ (List.mem_of_getElem? (i := 222) rfl), List.forall_mem_cons.mpr ⟨inT3 _ (List.mem_of_getElem? (i := 223) rfl), List.forall_mem_cons.mpr ⟨inT3 _ (List.mem_of_getElem? (i := 224) rfl), fun _ h => absurd h List.not_mem_nil⟩⟩⟩
def kjT : List (Nat × Option (Int)) := kjT_0
theorem kjO : ∀ q ∈ kjT, kjQ q := by
  intro q h
  unfold kjT at h
  exact kjO_0 q h
def kjk (k : Nat) : Option (Int) := lkp none k kjT
theorem kjk_ok {k : Nat} {v : Int} (h : kjk k = some v) : kjQ (k, some v) := kjO _ (lkp_mem h)
def acQ (q : Nat × Option (Nat)) : Prop := match q.2 with
  | some v => Cond.methodLink (cN (q.1 / 10000)) (q.1 % 10000) arraycopyName ∈ lw_tbl
  | none => True
def acT_0 : List (Nat × Option (Nat)) := [(10031, some 0), (40015, some 0), (70054, some 0)]
set_option maxRecDepth 20000 in
theorem acO_0 : ∀ q ∈ acT_0, acQ q := List.forall_mem_cons.mpr ⟨inT4 _ (List.mem_of_getElem? (i := 44) rfl), List.forall_mem_cons.mpr ⟨inT3 _ (List.mem_of_getElem? (i := 32) rfl), List.forall_mem_cons.mpr ⟨inT3 _ (List.mem_of_getElem? (i := 25) rfl), fun _ h => absurd h List.not_mem_nil⟩⟩⟩
def acT : List (Nat × Option (Nat)) := acT_0
theorem acO : ∀ q ∈ acT, acQ q := by
  intro q h
  unfold acT at h
  exact acO_0 q h
def ack (k : Nat) : Option (Nat) := lkp none k acT
theorem ack_ok {k : Nat} {v : Nat} (h : ack k = some v) : acQ (k, some v) := acO _ (lkp_mem h)
def nlQ (q : Nat × Option (Nat)) : Prop := match q.2 with
  | some v => Cond.methodLinkNest (cN (q.1 / 10000)) (q.1 % 10000) (mY v) "FourHands" ∈ lw_tbl
  | none => True
def nlT_0 : List (Nat × Option (Nat)) := [(30058, some 153)]
set_option maxRecDepth 20000 in
theorem nlO_0 : ∀ q ∈ nlT_0, nlQ q := List.forall_mem_cons.mpr ⟨inT3 _ (List.mem_of_getElem? (i := 182) rfl), fun _ h => absurd h List.not_mem_nil⟩
def nlT : List (Nat × Option (Nat)) := nlT_0
theorem nlO : ∀ q ∈ nlT, nlQ q := by
  intro q h
  unfold nlT at h
  exact nlO_0 q h
def nlk (k : Nat) : Option (Nat) := lkp none k nlT
theorem nlk_ok {k : Nat} {v : Nat} (h : nlk k = some v) : nlQ (k, some v) := nlO _ (lkp_mem h)
def xlQ (q : Nat × Option (String × String × String)) : Prop := match q.2 with
  | some v => Cond.fieldLink (cN (q.1 / 10000)) (q.1 % 10000) v.1 v.2.1 v.2.2 ∈ lw_tbl
  | none => True
def xlT_0 : List (Nat × Option (String × String × String)) := [(170009, some ("java/lang/String", "value", "[B")), (170015, some ("java/lang/String", "coder", "B")), (170038, some ("java/lang/String", "COMPACT_STRINGS", "Z")), (171053, some ("jdk/internal/util/Preconditions", "SIOOBE_FORMATTER", "Ljava/util/function/BiFunction;"))]
set_option maxRecDepth 20000 in
theorem xlO_0 : ∀ q ∈ xlT_0, xlQ q := List.forall_mem_cons.mpr ⟨inT10 _ (List.mem_of_getElem? (i := 99) rfl), List.forall_mem_cons.mpr ⟨inT10 _ (List.mem_of_getElem? (i := 100) rfl), List.forall_mem_cons.mpr ⟨inT4 _ (List.mem_of_getElem? (i := 103) rfl), List.forall_mem_cons.mpr ⟨inT4 _ (List.mem_of_getElem? (i := 119) rfl), fun _ h => absurd h List.not_mem_nil⟩⟩⟩⟩
def xlT : List (Nat × Option (String × String × String)) := xlT_0
theorem xlO : ∀ q ∈ xlT, xlQ q := by
  intro q h
  unfold xlT at h
  exact xlO_0 q h
def xlk (k : Nat) : Option (String × String × String) := lkp none k xlT
theorem xlk_ok {k : Nat} {v : String × String × String} (h : xlk k = some v) : xlQ (k, some v) := xlO _ (lkp_mem h)
def exT : List String := ["java/lang/IllegalArgumentException", "java/lang/IllegalStateException", "java/lang/IndexOutOfBoundsException", "java/lang/UnsupportedOperationException", "java/util/NoSuchElementException"]
def tlQ (q : Nat × Option (Nat)) : Prop := match q.2 with
  | some v => Cond.classLink (cN (q.1 / 10000)) (q.1 % 10000) (exT.getD v "") ∈ lw_tbl
  | none => True
def tlT_0 : List (Nat × Option (Nat)) := [(110129, some 0), (110139, some 3), (110192, some 4), (110239, some 2), (110252, some 1), (130013, some 0), (130015, some 3), (130024, some 2), (130026, some 4), (130055, some 1)]
set_option maxRecDepth 20000 in
theorem tlO_0 : ∀ q ∈ tlT_0, tlQ q := List.forall_mem_cons.mpr ⟨inT4 _ (List.mem_of_getElem? (i := 200) rfl), List.forall_mem_cons.mpr ⟨inT5 _ (List.mem_of_getElem? (i := 30) rfl), List.forall_mem_cons.mpr ⟨inT5 _ (List.mem_of_getElem? (i := 165) rfl), List.forall_mem_cons.mpr ⟨inT5 _ (List.mem_of_getElem? (i := 132) rfl), List.forall_mem_cons.mpr ⟨inT6 _ (List.mem_of_getElem? (i := 20) rfl), List.forall_mem_cons.mpr ⟨inT4 _ (List.mem_of_getElem? (i := 60) rfl), List.forall_mem_cons.mpr ⟨inT4 _ (List.mem_of_getElem? (i := 61) rfl), List.forall_mem_cons.mpr ⟨inT5 _ (List.mem_of_getElem? (i := 122) rfl), List.forall_mem_cons.mpr ⟨inT5 _ (List.mem_of_getElem? (i := 123) rfl), List.forall_mem_cons.mpr ⟨inT6 _ (List.mem_of_getElem? (i := 14) rfl), fun _ h => absurd h List.not_mem_nil⟩⟩⟩⟩⟩⟩⟩⟩⟩⟩
def tlT : List (Nat × Option (Nat)) := tlT_0
theorem tlO : ∀ q ∈ tlT, tlQ q := by
  intro q h
  unfold tlT at h
  exact tlO_0 q h
def tlk (k : Nat) : Option (Nat) := lkp none k tlT
theorem tlk_ok {k : Nat} {v : Nat} (h : tlk k = some v) : tlQ (k, some v) := tlO _ (lkp_mem h)
/-- the cells in the order of their making: tag and number -/
def obT : List (Nat × Nat) := [(11, 0), (8, 0), (148, 0), (7, 0), (129, 0), (130, 0), (131, 0), (132, 0), (133, 0), (134, 0), (135, 0), (136, 0), (137, 0), (4, 0), (121, 0), (7, 1), (129, 1), (130, 1), (131, 1), (132, 1), (133, 1), (134, 1), (135, 1), (136, 1), (137, 1), (4, 1), (121, 1), (7, 2), (129, 2), (130, 2), (131, 2), (132, 2), (133, 2), (134, 2), (135, 2), (136, 2), (137, 2), (4, 2), (121, 2), (5, 0), (26, 0), (7, 3), (129, 3), (130, 3), (131, 3), (132, 3), (133, 3), (134, 3), (135, 3), (136, 3), (137, 3), (4, 3), (121, 3), (7, 4), (129, 4), (130, 4), (131, 4), (132, 4), (133, 4), (134, 4), (135, 4), (136, 4), (137, 4), (4, 4), (121, 4), (7, 5), (129, 5), (130, 5), (131, 5), (132, 5), (133, 5), (134, 5), (135, 5), (136, 5), (137, 5), (4, 5), (121, 5), (7, 6), (129, 6), (130, 6), (131, 6), (132, 6), (133, 6), (134, 6), (135, 6), (136, 6), (137, 6), (4, 6), (121, 6), (7, 7), (129, 7), (130, 7), (131, 7), (132, 7), (133, 7), (134, 7), (135, 7), (136, 7), (137, 7), (4, 7), (121, 7), (7, 8), (129, 8), (130, 8), (131, 8), (132, 8), (133, 8), (134, 8), (135, 8), (136, 8), (137, 8), (4, 8), (121, 8), (7, 9), (129, 9), (130, 9), (131, 9), (132, 9), (133, 9), (134, 9), (135, 9), (136, 9), (137, 9), (4, 9), (121, 9), (7, 10), (129, 10), (130, 10), (131, 10), (132, 10), (133, 10), (134, 10), (135, 10), (136, 10), (137, 10), (4, 10), (121, 10), (7, 11), (129, 11), (130, 11), (131, 11), (132, 11), (133, 11), (134, 11), (135, 11), (136, 11), (137, 11), (4, 11), (121, 11), (7, 12), (129, 12), (130, 12), (131, 12), (132, 12), (133, 12), (134, 12), (135, 12), (136, 12), (137, 12), (4, 12), (121, 12), (7, 13), (129, 13), (130, 13), (131, 13), (132, 13), (133, 13), (134, 13), (135, 13), (136, 13), (137, 13), (4, 13), (121, 13), (7, 14), (129, 14), (130, 14), (131, 14), (132, 14), (133, 14), (134, 14), (135, 14), (136, 14), (137, 14), (4, 14), (121, 14), (1, 0), (104, 0), (105, 0), (106, 0), (107, 0), (108, 0), (1, 1), (104, 1), (105, 1), (106, 1), (107, 1), (108, 1), (6, 0), (2, 0), (1, 2), (104, 2), (105, 2), (106, 2), (107, 2), (108, 2), (10, 0), (159, 0), (160, 0), (161, 0), (162, 0), (163, 0), (165, 0), (166, 0), (9, 0), (3, 0), (117, 0), (118, 0), (0, 0), (101, 0), (182, 0), (12, 0), (187, 0), (188, 0), (190, 0), (191, 0), (193, 0), (200, 0), (205, 0), (207, 0), (208, 0), (210, 0), (211, 0), (212, 0), (213, 0), (25, 0)]
def fOffT : List Nat := [100, 104, 114, 116, 121, 124, 127, 129, 148, 156, 158, 169, 186]
def tg (c j : Nat) : Nat := fOffT.getD c 0 + j
def fKT : List (List (Nat × Nat × Nat)) := [[(3, 8, 0), (2, 101, 0), (0, 0, 0), (0, 0, 0)], [(2, 104, 0), (2, 105, 0), (2, 106, 0), (2, 107, 0), (2, 108, 0), (0, 0, 0), (0, 0, 0), (0, 0, 0), (1, 0, 0), (0, 0, 0)], [(3, 8, 0), (3, 1, 2)], [(3, 1, 0), (2, 117, 0), (2, 118, 0), (0, 0, 0), (0, 0, 0)], [(2, 121, 0), (0, 0, 0), (0, 0, 0)], [(3, 26, 0), (0, 0, 0), (0, 0, 0)], [(3, 8, 0), (3, 7, 1)], [(2, 129, 0), (2, 130, 0), (2, 131, 0), (2, 132, 0), (2, 133, 0), (2, 134, 0), (2, 135, 0), (2, 136, 0), (2, 137, 0), (2, 4, 0), (0, 0, 0), (0, 0, 0), (0, 0, 0), (0, 0, 0), (0, 0, 0), (0, 0, 0), (0, 0, 0), (0, 0, 0), (0, 0, 0)], [(2, 148, 0), (0, 0, 0), (0, 0, 0), (0, 0, 0), (0, 0, 0), (0, 0, 0), (0, 0, 0), (0, 0, 0)], [(3, 1, 0), (3, 10, 0)], [(3, 1, 0), (2, 159, 0), (2, 160, 0), (2, 161, 0), (2, 162, 0), (2, 163, 0), (0, 0, 0), (2, 165, 0), (2, 166, 0), (0, 0, 0), (0, 0, 0)], [(3, 8, 0), (3, 7, 0), (3, 7, 1), (3, 7, 2), (3, 5, 0), (3, 1, 0), (3, 1, 1), (3, 6, 0), (3, 2, 0), (3, 10, 0), (3, 9, 0), (3, 3, 0), (3, 0, 0), (2, 182, 0), (0, 0, 0), (0, 0, 0), (1, 0, 0)], [(0, 0, 0), (2, 187, 0), (2, 188, 0), (1, 0, 0), (2, 190, 0), (2, 191, 0), (0, 0, 0), (2, 193, 0), (0, 0, 0), (0, 0, 0), (0, 0, 0), (0, 0, 0), (0, 0, 0), (0, 0, 0), (2, 200, 0), (1, 0, 0), (0, 0, 0), (1, 0, 0), (1, 0, 0), (2, 205, 0), (0, 0, 0), (2, 207, 0), (2, 208, 0), (0, 0, 0), (2, 210, 0), (2, 211, 0), (2, 212, 0), (2, 213, 0)]]
def fK (c j : Nat) : Nat × Nat × Nat := (fKT.getD c []).getD j (9, 0, 0)
