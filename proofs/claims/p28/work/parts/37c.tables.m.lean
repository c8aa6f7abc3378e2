/-! 37c.tables, 38.names, 39.names2, 40.names3, 41.names4, 42.names5, 43.names6 -/
section
/-! The program's own tables: classes, fields, methods, types. -/
def z_F0 : List (String × String × String × Bool) := [("StarTales", "sky", "LStarTales$Sky;", true), ("StarTales", "keptSky", "LStarTales$Sky;", true), ("StarTales", "ahead", "LStarTales$Sky;", true), ("StarTales", "sea", "LStarTales$Sea;", true), ("StarTales", "keptSea", "LStarTales$Sea;", true), ("StarTales", "isKept", "Z", false), ("StarTales", "tape", "LStarTales$Tape;", true), ("StarTales", "ruling", "LStarTales$Law;", false), ("StarTales", "spareLaw", "LStarTales$Law;", false), ("StarTales", "lawReader", "LStarTales$LawReader;", true), ("StarTales", "telling", "LStarTales$Tale;", false), ("StarTales", "spareTale", "LStarTales$Tale;", false), ("StarTales", "view", "LStarTales$View;", true), ("StarTales", "otherView", "LStarTales$View;", true), ("StarTales", "matcher", "LStarTales$Matcher;", true), ("StarTales", "pilot", "LStarTales$Pilot;", true), ("StarTales", "patches", "LStarTales$Patches;", true), ("StarTales", "chooser", "LStarTales$Chooser;", true), ("StarTales", "spots", "[I", true)]
def z_F1 : List (String × String × String × Bool) := [("StarTales$Sky", "told", "I", false), ("StarTales$Sky", "column", "[I", true), ("StarTales$Sky", "row", "[I", true), ("StarTales$Sky", "bright", "[I", true), ("StarTales$Sky", "walkColumns", "[I", true), ("StarTales$Sky", "walkRows", "[I", true), ("StarTales$Sky", "hour", "I", false), ("StarTales$Sky", "night", "I", false), ("StarTales$Sky", "clouds", "I", false), ("StarTales$Sky", "sightColumns", "I", false), ("StarTales$Sky", "sightRows", "I", false), ("StarTales$Sky", "chance", "I", false)]
def z_F2 : List (String × String × String × Bool) := [("StarTales$Sea", "landRow", "[I", true), ("StarTales$Sea", "shipsTold", "I", false), ("StarTales$Sea", "shipPlace", "[I", true)]
def z_F3 : List (String × String × String × Bool) := [("StarTales$Tape", "bytes", "[I", true), ("StarTales$Tape", "size", "I", false)]
def z_F4 : List (String × String × String × Bool) := [("StarTales$Law", "kinds", "[I", true), ("StarTales$Law", "values", "[I", true), ("StarTales$Law", "steps", "I", false), ("StarTales$Law", "clauseKind", "[I", true), ("StarTales$Law", "amountFrom", "[I", true), ("StarTales$Law", "conditionFrom", "[I", true), ("StarTales$Law", "conditionEnd", "[I", true), ("StarTales$Law", "clauses", "I", false), ("StarTales$Law", "tellsSeen", "Z", false), ("StarTales$Law", "tellsLines", "Z", false), ("StarTales$Law", "seenByPlace", "Z", false), ("StarTales$Law", "linesByPlace", "Z", false), ("StarTales$Law", "letters", "[I", true), ("StarTales$Law", "stack", "[I", true), ("StarTales$Law", "answer", "I", false)]
def z_F5 : List (String × String × String × Bool) := [("StarTales$LawReader", "text", "[I", true), ("StarTales$LawReader", "length", "I", false), ("StarTales$LawReader", "at", "I", false), ("StarTales$LawReader", "fault", "I", false), ("StarTales$LawReader", "law", "LStarTales$Law;", false)]
def z_F6 : List (String × String × String × Bool) := [("StarTales$Tale", "lines", "I", false), ("StarTales$Tale", "names", "I", false), ("StarTales$Tale", "near", "[I", true)]
def z_F7 : List (String × String × String × Bool) := [("StarTales$View", "sky", "LStarTales$Sky;", false), ("StarTales$View", "law", "LStarTales$Law;", false), ("StarTales$View", "x", "I", false), ("StarTales$View", "y", "I", false), ("StarTales$View", "shown", "I", false), ("StarTales$View", "joined", "[I", true), ("StarTales$View", "starsAsked", "I", false), ("StarTales$View", "starsHold", "I", false), ("StarTales$View", "pairsAsked", "[I", true), ("StarTales$View", "pairsHold", "[I", true)]
def z_F8 : List (String × String × String × Bool) := [("StarTales$Matcher", "may", "[I", true), ("StarTales$Matcher", "twins", "[I", true), ("StarTales$Matcher", "starOf", "[I", true), ("StarTales$Matcher", "tale", "LStarTales$Tale;", false), ("StarTales$Matcher", "joined", "[I", false), ("StarTales$Matcher", "fewest", "I", false), ("StarTales$Matcher", "deadEnds", "I", false)]
def z_F9 : List (String × String × String × Bool) := [("StarTales$Pilot", "hoursTaken", "I", false), ("StarTales$Pilot", "firstStar", "I", false), ("StarTales$Pilot", "turn", "I", false), ("StarTales$Pilot", "secondStar", "I", false), ("StarTales$Pilot", "brought", "[I", true), ("StarTales$Pilot", "legStar", "[I", true), ("StarTales$Pilot", "legHours", "[I", true), ("StarTales$Pilot", "legEnd", "[I", true), ("StarTales$Pilot", "legNow", "[I", true), ("StarTales$Pilot", "legs", "I", false), ("StarTales$Pilot", "best", "I", false), ("StarTales$Pilot", "stepped", "[I", true), ("StarTales$Pilot", "hoursFromOne", "[I", true), ("StarTales$Pilot", "hoursFromOther", "[I", true), ("StarTales$Pilot", "queue", "[I", true)]
def z_F10 : List (String × String × String × Bool) := [("StarTales$Patches", "shownAt", "[I", true), ("StarTales$Patches", "markAt", "[J", true), ("StarTales$Patches", "told", "[I", true), ("StarTales$Patches", "toldParts", "I", false), ("StarTales$Patches", "someParts", "[I", true), ("StarTales$Patches", "otherParts", "[I", true), ("StarTales$Patches", "sky", "LStarTales$Sky;", true)]
def z_F11 : List (String × String × String × Bool) := [("StarTales$Chooser", "shown", "[I", true), ("StarTales$Chooser", "parts", "[I", true), ("StarTales$Chooser", "partsUpTo", "[I", true), ("StarTales$Chooser", "worth", "[I", true), ("StarTales$Chooser", "weight", "[I", true), ("StarTales$Chooser", "bestWorth", "[I", true), ("StarTales$Chooser", "bestBits", "[I", true)]
def z_F12 : List (String × String × String × Bool) := [("StarTalesModel", "now", "[I", true), ("StarTalesModel", "aside", "[I", true), ("StarTalesModel", "kept", "[I", true), ("StarTalesModel", "tape", "[B", true), ("StarTalesModel", "taped", "I", false), ("StarTalesModel", "place0", "I", false), ("StarTalesModel", "length0", "I", false), ("StarTalesModel", "fault", "I", false), ("StarTalesModel", "open", "I", false), ("StarTalesModel", "codeMany", "I", false), ("StarTalesModel", "waiting", "I", false), ("StarTalesModel", "saidMany", "I", false), ("StarTalesModel", "number0", "I", false), ("StarTalesModel", "clauses", "I", false), ("StarTalesModel", "said", "[I", true), ("StarTalesModel", "waits", "[I", true), ("StarTalesModel", "saidLetter", "[I", true), ("StarTalesModel", "saidFrom", "[I", true), ("StarTalesModel", "saidHalf", "[I", true), ("StarTalesModel", "saidTo", "[I", true), ("StarTalesModel", "codes", "[I", true), ("StarTalesModel", "clauseOf", "[I", true), ("StarTalesModel", "codeFrom", "[I", true), ("StarTalesModel", "codeHalf", "[I", true), ("StarTalesModel", "codeTo", "[I", true), ("StarTalesModel", "stack", "[I", true), ("StarTalesModel", "facts", "[I", true), ("StarTalesModel", "seen0", "I", false), ("StarTalesModel", "linesOf", "[I", true), ("StarTalesModel", "figures", "I", false), ("StarTalesModel", "largest", "I", false), ("StarTalesModel", "taleLines", "I", false), ("StarTalesModel", "newLines", "I", false), ("StarTalesModel", "namesIn", "I", false), ("StarTalesModel", "fromName", "[I", true), ("StarTalesModel", "toName", "[I", true), ("StarTalesModel", "newFrom", "[I", true), ("StarTalesModel", "newTo", "[I", true), ("StarTalesModel", "nameAt", "[I", true), ("StarTalesModel", "starFor", "[I", true), ("StarTalesModel", "firstFor", "[I", true), ("StarTalesModel", "nameMany", "I", false), ("StarTalesModel", "partsOf", "[I", true), ("StarTalesModel", "partMany", "[I", true), ("StarTalesModel", "parts", "[I", true), ("StarTalesModel", "toldParts", "[I", true), ("StarTalesModel", "namedAt", "[I", true), ("StarTalesModel", "unlike", "[I", true), ("StarTalesModel", "unlikeMany", "I", false), ("StarTalesModel", "worthOf", "[I", true), ("StarTalesModel", "heavyOf", "[I", true), ("StarTalesModel", "mostBy", "[I", true), ("StarTalesModel", "farA", "[I", true), ("StarTalesModel", "farB", "[I", true), ("StarTalesModel", "queue", "[I", true), ("StarTalesModel", "twoHours", "I", false), ("StarTalesModel", "twoFirst", "I", false), ("StarTalesModel", "twoFor", "I", false), ("StarTalesModel", "twoSecond", "I", false), ("StarTalesModel", "otherLines", "[I", true), ("StarTalesModel", "logTold", "[I", true), ("StarTalesModel", "logHow", "[I", true), ("StarTalesModel", "whereAt", "[I", true), ("StarTalesModel", "isKept", "Z", false)]
def z_cl : List vw_C := [("StarTales", (fun k => z_F0.getD k ("", "", "", false)), 19), ("StarTales$Sky", (fun k => z_F1.getD k ("", "", "", false)), 12), ("StarTales$Sea", (fun k => z_F2.getD k ("", "", "", false)), 3), ("StarTales$Tape", (fun k => z_F3.getD k ("", "", "", false)), 2), ("StarTales$Law", (fun k => z_F4.getD k ("", "", "", false)), 15), ("StarTales$LawReader", (fun k => z_F5.getD k ("", "", "", false)), 5), ("StarTales$Tale", (fun k => z_F6.getD k ("", "", "", false)), 3), ("StarTales$View", (fun k => z_F7.getD k ("", "", "", false)), 10), ("StarTales$Matcher", (fun k => z_F8.getD k ("", "", "", false)), 7), ("StarTales$Pilot", (fun k => z_F9.getD k ("", "", "", false)), 15), ("StarTales$Patches", (fun k => z_F10.getD k ("", "", "", false)), 7), ("StarTales$Chooser", (fun k => z_F11.getD k ("", "", "", false)), 7), ("StarTalesModel", (fun k => z_F12.getD k ("", "", "", false)), 64)]
def z_FTL : List (List FieldType) := [[.object "StarTales$Sky", .object "StarTales$Sky", .object "StarTales$Sky", .object "StarTales$Sea", .object "StarTales$Sea", .boolean, .object "StarTales$Tape", .object "StarTales$Law", .object "StarTales$Law", .object "StarTales$LawReader", .object "StarTales$Tale", .object "StarTales$Tale", .object "StarTales$View", .object "StarTales$View", .object "StarTales$Matcher", .object "StarTales$Pilot", .object "StarTales$Patches", .object "StarTales$Chooser", .array .int], [.int, .array .int, .array .int, .array .int, .array .int, .array .int, .int, .int, .int, .int, .int, .int], [.array .int, .int, .array .int], [.array .int, .int], [.array .int, .array .int, .int, .array .int, .array .int, .array .int, .array .int, .int, .boolean, .boolean, .boolean, .boolean, .array .int, .array .int, .int], [.array .int, .int, .int, .int, .object "StarTales$Law"], [.int, .int, .array .int], [.object "StarTales$Sky", .object "StarTales$Law", .int, .int, .int, .array .int, .int, .int, .array .int, .array .int], [.array .int, .array .int, .array .int, .object "StarTales$Tale", .array .int, .int, .int], [.int, .int, .int, .int, .array .int, .array .int, .array .int, .array .int, .array .int, .int, .int, .array .int, .array .int, .array .int, .array .int], [.array .int, .array .long, .array .int, .int, .array .int, .array .int, .object "StarTales$Sky"], [.array .int, .array .int, .array .int, .array .int, .array .int, .array .int, .array .int], [.array .int, .array .int, .array .int, .array .byte, .int, .int, .int, .int, .int, .int, .int, .int, .int, .int, .array .int, .array .int, .array .int, .array .int, .array .int, .array .int, .array .int, .array .int, .array .int, .array .int, .array .int, .array .int, .array .int, .int, .array .int, .int, .int, .int, .int, .int, .array .int, .array .int, .array .int, .array .int, .array .int, .array .int, .array .int, .int, .array .int, .array .int, .array .int, .array .int, .array .int, .array .int, .int, .array .int, .array .int, .array .int, .array .int, .array .int, .array .int, .int, .int, .int, .int, .array .int, .array .int, .array .int, .array .int, .boolean]]
def z_FT (ci k : Nat) : FieldType := (z_FTL.getD ci []).getD k .int
def zxm0 : zM := (⟨"StarTales", "<init>", "()V"⟩, prog_1_method_1_code, 1, none, 0, 0)
def zxm1 : zM := (⟨"StarTales$Sky", "<init>", "()V"⟩, prog_9_method_1_code, 1, none, 0, 1)
def zxm2 : zM := (⟨"StarTales$Sea", "<init>", "()V"⟩, prog_8_method_1_code, 1, none, 0, 2)
def zxm3 : zM := (⟨"StarTales$Tape", "<init>", "()V"⟩, prog_11_method_1_code, 1, none, 0, 3)
def zxm4 : zM := (⟨"StarTales$Law", "<init>", "()V"⟩, prog_3_method_1_code, 1, none, 0, 4)
def zxm5 : zM := (⟨"java/lang/String", "length", "()I"⟩, prog_18_method_54_code, 1, some .int, 0, 0)
def zxm6 : zM := (⟨"java/lang/String", "coder", "()B"⟩, prog_18_method_152_code, 1, some .byte, 0, 0)
def zxm7 : zM := (⟨"StarTales$LawReader", "<init>", "([ILStarTales$Law;)V"⟩, prog_4_method_1_code, 3, none, 2, 5)
def zxm8 : zM := (⟨"StarTales$Tale", "<init>", "()V"⟩, prog_10_method_1_code, 1, none, 0, 6)
def zxm9 : zM := (⟨"StarTales$View", "<init>", "(LStarTales$Sky;LStarTales$Law;)V"⟩, prog_12_method_1_code, 3, none, 2, 7)
def zxm10 : zM := (⟨"StarTales$Matcher", "<init>", "(LStarTales$Tale;[I)V"⟩, prog_5_method_1_code, 3, none, 2, 8)
def zxm11 : zM := (⟨"StarTales$Pilot", "<init>", "()V"⟩, prog_7_method_1_code, 1, none, 0, 9)
def zxm12 : zM := (⟨"StarTales$Patches", "<init>", "(LStarTales$Sky;)V"⟩, prog_6_method_1_code, 2, none, 1, 10)
def zxm13 : zM := (⟨"StarTales$Chooser", "<init>", "()V"⟩, prog_2_method_1_code, 1, none, 0, 11)
def zxm14 : zM := (⟨"StarTales", "star", "(IIII)Z"⟩, prog_1_method_2_code, 5, some .boolean, 4, 0)
def zxm15 : zM := (⟨"StarTales", "isWithin", "(III)Z"⟩, prog_1_method_41_code, 3, some .boolean, 3, 0)
def zxm16 : zM := (⟨"StarTales", "isPlace", "(II)Z"⟩, prog_1_method_42_code, 2, some .boolean, 2, 0)
def zxm17 : zM := (⟨"StarTales", "walk", "(III)Z"⟩, prog_1_method_3_code, 4, some .boolean, 3, 0)
def zxm18 : zM := (⟨"StarTales$Sky", "hasStar", "(I)Z"⟩, prog_9_method_2_code, 2, some .boolean, 1, 1)
def zxm19 : zM := (⟨"StarTales", "gone", "(I)Z"⟩, prog_1_method_4_code, 2, some .boolean, 1, 0)
def zxm20 : zM := (⟨"StarTales", "hour", "(I)Z"⟩, prog_1_method_5_code, 2, some .boolean, 1, 0)
def zxm21 : zM := (⟨"StarTales", "clouds", "(I)Z"⟩, prog_1_method_6_code, 2, some .boolean, 1, 0)
def zxm22 : zM := (⟨"StarTales", "sight", "(II)Z"⟩, prog_1_method_7_code, 3, some .boolean, 2, 0)
def zxm23 : zM := (⟨"StarTales", "land", "(IIZ)Z"⟩, prog_1_method_8_code, 4, some .boolean, 3, 0)
def zxm24 : zM := (⟨"StarTales", "placeOf", "(II)I"⟩, prog_1_method_43_code, 2, some .int, 2, 0)
def zxm25 : zM := (⟨"StarTales$Sea", "hasShipAt", "(I)Z"⟩, prog_8_method_6_code, 3, some .boolean, 1, 2)
def zxm26 : zM := (⟨"StarTales$Sea", "hasShip", "(I)Z"⟩, prog_8_method_5_code, 2, some .boolean, 1, 2)
def zxm27 : zM := (⟨"StarTales$Sea", "setLand", "(IIZ)V"⟩, prog_8_method_3_code, 4, none, 3, 2)
def zxm28 : zM := (⟨"StarTales", "ship", "(III)Z"⟩, prog_1_method_9_code, 4, some .boolean, 3, 0)
def zxm29 : zM := (⟨"StarTales$Sea", "isLand", "(I)Z"⟩, prog_8_method_2_code, 2, some .boolean, 1, 2)
def zxm30 : zM := (⟨"StarTales", "rowOf", "(I)I"⟩, prog_1_method_45_code, 1, some .int, 1, 0)
def zxm31 : zM := (⟨"StarTales", "columnOf", "(I)I"⟩, prog_1_method_44_code, 1, some .int, 1, 0)
def zxm32 : zM := (⟨"StarTales", "feed", "(IIIII)I"⟩, prog_1_method_10_code, 6, some .int, 5, 0)
def zxm33 : zM := (⟨"StarTales$Tape", "addNumber", "(I)V"⟩, prog_11_method_2_code, 3, none, 1, 3)
def zxm34 : zM := (⟨"StarTales", "law", "(I)I"⟩, prog_1_method_11_code, 4, some .int, 1, 0)
def zxm35 : zM := (⟨"StarTales$Tape", "take", "(I)Z"⟩, prog_11_method_3_code, 2, some .boolean, 1, 3)
def zxm36 : zM := (⟨"StarTales$LawReader", "read", "(ILStarTales$Law;)I"⟩, prog_4_method_2_code, 4, some .int, 2, 5)
def zxm37 : zM := (⟨"java/lang/Math", "min", "(II)I"⟩, prog_17_method_69_code, 2, some .int, 2, 0)
def zxm38 : zM := (⟨"StarTales$Law", "clear", "()V"⟩, prog_3_method_2_code, 1, none, 0, 4)
def zxm39 : zM := (⟨"StarTales$LawReader", "readClause", "()V"⟩, prog_4_method_6_code, 5, none, 0, 5)
def zxm40 : zM := (⟨"StarTales$LawReader", "peek", "()I"⟩, prog_4_method_3_code, 1, some .int, 0, 5)
def zxm41 : zM := (⟨"StarTales$LawReader", "fail", "(I)V"⟩, prog_4_method_4_code, 2, none, 1, 5)
def zxm42 : zM := (⟨"StarTales", "faultAt", "(II)I"⟩, prog_1_method_48_code, 2, some .int, 2, 0)
def zxm43 : zM := (⟨"StarTales$LawReader", "readSum", "(I)V"⟩, prog_4_method_11_code, 3, none, 1, 5)
def zxm44 : zM := (⟨"StarTales$LawReader", "readTerm", "(I)V"⟩, prog_4_method_12_code, 3, none, 1, 5)
def zxm45 : zM := (⟨"StarTales$LawReader", "readFactor", "(I)V"⟩, prog_4_method_13_code, 4, none, 1, 5)
def zxm46 : zM := (⟨"StarTales$LawReader", "skip", "(I)V"⟩, prog_4_method_5_code, 2, none, 1, 5)
def zxm47 : zM := (⟨"StarTales$LawReader", "isDigit", "(I)Z"⟩, prog_4_method_15_code, 1, some .boolean, 1, 5)
def zxm48 : zM := (⟨"StarTales$LawReader", "readNumber", "()V"⟩, prog_4_method_14_code, 3, none, 0, 5)
def zxm49 : zM := (⟨"StarTales$Law", "addStep", "(II)I"⟩, prog_3_method_3_code, 3, some .int, 2, 4)
def zxm50 : zM := (⟨"java/lang/String", "indexOf", "(I)I"⟩, prog_18_method_79_code, 2, some .int, 1, 0)
def zxm51 : zM := (⟨"java/lang/String", "indexOf", "(II)I"⟩, prog_18_method_80_code, 3, some .int, 2, 0)
def zxm52 : zM := (⟨"java/lang/String", "isLatin1", "()Z"⟩, prog_18_method_154_code, 1, some .boolean, 0, 0)
def zxm53 : zM := (⟨"java/lang/StringLatin1", "indexOf", "([BIII)I"⟩, prog_19_method_22_code, 4, some .int, 4, 0)
def zxm54 : zM := (⟨"java/lang/StringLatin1", "canEncode", "(I)Z"⟩, prog_19_method_4_code, 1, some .boolean, 1, 0)
def zxm55 : zM := (⟨"java/lang/Math", "max", "(II)I"⟩, prog_17_method_65_code, 2, some .int, 2, 0)
def zxm56 : zM := (⟨"java/lang/StringLatin1", "indexOfChar", "([BIII)I"⟩, prog_19_method_23_code, 6, some .int, 4, 0)
def zxm57 : zM := (⟨"java/lang/StringUTF16", "indexOf", "([BIII)I"⟩, prog_20_method_40_code, 4, some .int, 4, 0)
def zxm58 : zM := (⟨"java/lang/StringUTF16", "indexOfChar", "([BIII)I"⟩, prog_20_method_47_code, 4, some .int, 4, 0)
def zxm59 : zM := (⟨"java/lang/StringUTF16", "checkBoundsBeginEnd", "(II[B)V"⟩, prog_20_method_93_code, 3, none, 3, 0)
def zxm60 : zM := (⟨"java/lang/StringUTF16", "length", "([B)I"⟩, prog_20_method_6_code, 1, some .int, 1, 0)
def zxm61 : zM := (⟨"java/lang/String", "checkBoundsBeginEnd", "(III)V"⟩, prog_18_method_158_code, 3, none, 3, 0)
def zxm62 : zM := (⟨"jdk/internal/util/Preconditions", "checkFromToIndex", "(IIILjava/util/function/BiFunction;)I"⟩, prog_23_method_12_code, 4, some .int, 4, 0)
def zxm63 : zM := (⟨"java/lang/StringUTF16", "indexOfCharUnsafe", "([BIII)I"⟩, prog_20_method_48_code, 5, some .int, 4, 0)
def zxm64 : zM := (⟨"java/lang/StringUTF16", "getChar", "([BI)C"⟩, prog_20_method_5_code, 2, some .char, 2, 0)
def zxm65 : zM := (⟨"java/lang/StringUTF16", "indexOfSupplementary", "([BIII)I"⟩, prog_20_method_49_code, 7, some .int, 4, 0)
def zxm66 : zM := (⟨"java/lang/Character", "isValidCodePoint", "(I)Z"⟩, prog_15_method_11_code, 2, some .boolean, 1, 0)
def zxm67 : zM := (⟨"java/lang/Character", "highSurrogate", "(I)C"⟩, prog_15_method_28_code, 1, some .char, 1, 0)
def zxm68 : zM := (⟨"java/lang/Character", "lowSurrogate", "(I)C"⟩, prog_15_method_29_code, 1, some .char, 1, 0)
def zxm69 : zM := (⟨"StarTales$LawReader", "readCondition", "(I)V"⟩, prog_4_method_7_code, 3, none, 1, 5)
def zxm70 : zM := (⟨"StarTales$LawReader", "readPart", "(I)V"⟩, prog_4_method_8_code, 3, none, 1, 5)
def zxm71 : zM := (⟨"StarTales$LawReader", "readPiece", "(I)V"⟩, prog_4_method_9_code, 3, none, 1, 5)
def zxm72 : zM := (⟨"StarTales$LawReader", "readComparison", "(I)V"⟩, prog_4_method_10_code, 3, none, 1, 5)
def zxm73 : zM := (⟨"StarTales$Law", "landJump", "(I)V"⟩, prog_3_method_4_code, 2, none, 1, 4)
def zxm74 : zM := (⟨"StarTales$Law", "addClause", "(III)V"⟩, prog_3_method_5_code, 4, none, 3, 4)
def zxm75 : zM := (⟨"StarTales$Law", "hasLetter", "(II)Z"⟩, prog_3_method_6_code, 4, some .boolean, 2, 4)
def zxm76 : zM := (⟨"StarTales", "tale", "(I)I"⟩, prog_1_method_12_code, 4, some .int, 1, 0)
def zxm77 : zM := (⟨"StarTales$Tale", "read", "([II)I"⟩, prog_10_method_2_code, 6, some .int, 2, 6)
def zxm78 : zM := (⟨"java/util/Arrays", "fill", "([II)V"⟩, prog_22_method_103_code, 4, none, 2, 0)
def zxm79 : zM := (⟨"StarTales$Tale", "nameAt", "([III)I"⟩, prog_10_method_3_code, 4, some .int, 3, 6)
def zxm80 : zM := (⟨"StarTales$Tale", "addLine", "(II)V"⟩, prog_10_method_4_code, 3, none, 2, 6)
def zxm81 : zM := (⟨"StarTales", "starIs", "(II)I"⟩, prog_1_method_13_code, 3, some .int, 2, 0)
def zxm82 : zM := (⟨"StarTales$Sky", "standing", "(I)I"⟩, prog_9_method_3_code, 2, some .int, 1, 1)
def zxm83 : zM := (⟨"StarTales", "seen", "(II)I"⟩, prog_1_method_14_code, 3, some .int, 2, 0)
def zxm84 : zM := (⟨"StarTales$View", "open", "(LStarTales$Sky;LStarTales$Law;)V"⟩, prog_12_method_2_code, 3, none, 2, 7)
def zxm85 : zM := (⟨"StarTales$View", "look", "(II)V"⟩, prog_12_method_4_code, 4, none, 2, 7)
def zxm86 : zM := (⟨"StarTales$View", "goTo", "(II)V"⟩, prog_12_method_3_code, 3, none, 2, 7)
def zxm87 : zM := (⟨"StarTales$Law", "forgetLetters", "()V"⟩, prog_3_method_7_code, 1, none, 0, 4)
def zxm88 : zM := (⟨"StarTales$Law", "setTime", "(LStarTales$Sky;)V"⟩, prog_3_method_8_code, 2, none, 1, 4)
def zxm89 : zM := (⟨"StarTales$View", "sees", "(I)Z"⟩, prog_12_method_5_code, 6, some .boolean, 1, 7)
def zxm90 : zM := (⟨"StarTales", "columnsBetween", "(II)I"⟩, prog_1_method_46_code, 3, some .int, 2, 0)
def zxm91 : zM := (⟨"java/lang/Math", "abs", "(I)I"⟩, prog_17_method_59_code, 1, some .int, 1, 0)
def zxm92 : zM := (⟨"StarTales$Law", "setStar", "(LStarTales$Sky;I)V"⟩, prog_3_method_9_code, 3, none, 2, 4)
def zxm93 : zM := (⟨"StarTales$Law", "anyHolds", "(I)Z"⟩, prog_3_method_11_code, 3, some .boolean, 1, 4)
def zxm94 : zM := (⟨"StarTales$Law", "run", "(II)Z"⟩, prog_3_method_13_code, 8, some .boolean, 2, 4)
def zxm95 : zM := (⟨"StarTales", "line", "(IIII)I"⟩, prog_1_method_15_code, 5, some .int, 4, 0)
def zxm96 : zM := (⟨"StarTales", "lookAndDraw", "(LStarTales$View;II)V"⟩, prog_1_method_49_code, 4, none, 3, 0)
def zxm97 : zM := (⟨"StarTales$View", "draw", "()V"⟩, prog_12_method_6_code, 3, none, 0, 7)
def zxm98 : zM := (⟨"StarTales$View", "isDrawn", "(II)Z"⟩, prog_12_method_7_code, 3, some .boolean, 2, 7)
def zxm99 : zM := (⟨"StarTales$Law", "setOther", "(LStarTales$Sky;I)V"⟩, prog_3_method_10_code, 3, none, 2, 4)
def zxm100 : zM := (⟨"StarTales", "sky", "(III)I"⟩, prog_1_method_16_code, 5, some .int, 3, 0)
def zxm101 : zM := (⟨"StarTales$View", "countLines", "()I"⟩, prog_12_method_10_code, 3, some .int, 0, 7)
def zxm102 : zM := (⟨"java/lang/Integer", "bitCount", "(I)I"⟩, prog_16_method_49_code, 1, some .int, 1, 0)
def zxm103 : zM := (⟨"StarTales$View", "countFigures", "()I"⟩, prog_12_method_12_code, 4, some .int, 0, 7)
def zxm104 : zM := (⟨"StarTales$View", "reach", "(III)I"⟩, prog_12_method_11_code, 9, some .int, 3, 7)
def zxm105 : zM := (⟨"StarTales", "lowestOf", "(I)I"⟩, prog_1_method_47_code, 1, some .int, 1, 0)
def zxm106 : zM := (⟨"StarTales$View", "largestFigure", "()I"⟩, prog_12_method_13_code, 5, some .int, 0, 7)
def zxm107 : zM := (⟨"StarTales$View", "countHolding", "()I"⟩, prog_12_method_14_code, 4, some .int, 0, 7)
def zxm108 : zM := (⟨"StarTales$View", "mostLegged", "()I"⟩, prog_12_method_15_code, 3, some .int, 0, 7)
def zxm109 : zM := (⟨"StarTales$View", "legsOf", "(I)I"⟩, prog_12_method_16_code, 2, some .int, 1, 7)
def zxm110 : zM := (⟨"StarTales", "figure", "(III)I"⟩, prog_1_method_17_code, 4, some .int, 3, 0)
def zxm111 : zM := (⟨"StarTales", "matched", "(III)I"⟩, prog_1_method_18_code, 4, some .int, 3, 0)
def zxm112 : zM := (⟨"StarTales$Matcher", "countWays", "(LStarTales$Tale;I[II)I"⟩, prog_5_method_2_code, 5, some .int, 4, 8)
def zxm113 : zM := (⟨"StarTales$Matcher", "begin", "(LStarTales$Tale;I[I)V"⟩, prog_5_method_5_code, 8, none, 3, 8)
def zxm114 : zM := (⟨"StarTales$Matcher", "withLegs", "(II)I"⟩, prog_5_method_6_code, 5, some .int, 2, 8)
def zxm115 : zM := (⟨"StarTales$Matcher", "search", "(III)I"⟩, prog_5_method_7_code, 10, some .int, 3, 8)
def zxm116 : zM := (⟨"StarTales$Matcher", "tightest", "(II)I"⟩, prog_5_method_8_code, 8, some .int, 2, 8)
def zxm117 : zM := (⟨"StarTales$Matcher", "narrow", "(IIII)Z"⟩, prog_5_method_9_code, 9, some .boolean, 4, 8)
def zxm118 : zM := (⟨"StarTales$Matcher", "agree", "(II)Z"⟩, prog_5_method_10_code, 10, some .boolean, 2, 8)
def zxm119 : zM := (⟨"StarTales$Matcher", "besides", "(I)I"⟩, prog_5_method_11_code, 4, some .int, 1, 8)
def zxm120 : zM := (⟨"StarTales$Matcher", "findFirst", "(LStarTales$Tale;I[I)Z"⟩, prog_5_method_3_code, 5, some .boolean, 3, 8)
def zxm121 : zM := (⟨"StarTales$Matcher", "settleLowest", "(I)Z"⟩, prog_5_method_4_code, 4, some .boolean, 1, 8)
def zxm122 : zM := (⟨"StarTales", "where", "(I)I"⟩, prog_1_method_19_code, 4, some .int, 1, 0)
def zxm123 : zM := (⟨"StarTales", "canBeTold", "(I)Z"⟩, prog_1_method_50_code, 2, some .boolean, 1, 0)
def zxm124 : zM := (⟨"StarTales", "when", "(II)I"⟩, prog_1_method_20_code, 5, some .int, 2, 0)
def zxm125 : zM := (⟨"StarTales$Sky", "copyFrom", "(LStarTales$Sky;)V"⟩, prog_9_method_9_code, 2, none, 1, 1)
def zxm126 : zM := (⟨"StarTales", "alike", "(I)I"⟩, prog_1_method_21_code, 3, some .int, 1, 0)
def zxm127 : zM := (⟨"StarTales$Patches", "lookEverywhere", "(LStarTales$View;)V"⟩, prog_6_method_2_code, 5, none, 1, 10)
def zxm128 : zM := (⟨"StarTales$Patches", "fillParts", "(II[I)I"⟩, prog_6_method_3_code, 8, some .int, 3, 10)
def zxm129 : zM := (⟨"java/lang/Math", "floorMod", "(II)I"⟩, prog_17_method_50_code, 3, some .int, 2, 0)
def zxm130 : zM := (⟨"StarTales$Patches", "partOf", "(III)I"⟩, prog_6_method_4_code, 3, some .int, 3, 10)
def zxm131 : zM := (⟨"StarTales$Patches", "countAlike", "()I"⟩, prog_6_method_6_code, 3, some .int, 0, 10)
def zxm132 : zM := (⟨"StarTales$Patches", "alikeTo", "(II)I"⟩, prog_6_method_8_code, 4, some .int, 2, 10)
def zxm133 : zM := (⟨"StarTales$Patches", "isSame", "(II)Z"⟩, prog_6_method_9_code, 5, some .boolean, 2, 10)
def zxm134 : zM := (⟨"StarTales$Patches", "hasAll", "([II[II)Z"⟩, prog_6_method_5_code, 7, some .boolean, 4, 10)
def zxm135 : zM := (⟨"StarTales$Patches", "firstAlike", "()I"⟩, prog_6_method_7_code, 2, some .int, 0, 10)
def zxm136 : zM := (⟨"StarTales", "known", "(II)I"⟩, prog_1_method_22_code, 5, some .int, 2, 0)
def zxm137 : zM := (⟨"StarTales$Patches", "takeParts", "(LStarTales$Tape;I)V"⟩, prog_6_method_10_code, 4, none, 2, 10)
def zxm138 : zM := (⟨"StarTales$Tape", "byteAt", "(I)I"⟩, prog_11_method_4_code, 2, some .int, 1, 3)
def zxm139 : zM := (⟨"StarTales$Patches", "isKnown", "(LStarTales$View;Z)Z"⟩, prog_6_method_11_code, 4, some .boolean, 2, 10)
def zxm140 : zM := (⟨"StarTales", "named", "(II)I"⟩, prog_1_method_23_code, 6, some .int, 2, 0)
def zxm141 : zM := (⟨"StarTales$Chooser", "fewestNamed", "(I)I"⟩, prog_2_method_2_code, 7, some .int, 1, 11)
def zxm142 : zM := (⟨"StarTales$Chooser", "pairsApart", "(II)I"⟩, prog_2_method_3_code, 7, some .int, 2, 11)
def zxm143 : zM := (⟨"StarTales$Chooser", "leastCover", "(III)I"⟩, prog_2_method_4_code, 7, some .int, 3, 11)
def zxm144 : zM := (⟨"StarTales", "sold", "(II)I"⟩, prog_1_method_24_code, 4, some .int, 2, 0)
def zxm145 : zM := (⟨"StarTales$Chooser", "weighStars", "(LStarTales$Sky;LStarTales$Law;)V"⟩, prog_2_method_5_code, 4, none, 2, 11)
def zxm146 : zM := (⟨"StarTales$Law", "amount", "(II)I"⟩, prog_3_method_12_code, 4, some .int, 2, 4)
def zxm147 : zM := (⟨"StarTales$Chooser", "bestSold", "(II)I"⟩, prog_2_method_6_code, 4, some .int, 2, 11)
def zxm148 : zM := (⟨"StarTales$Chooser", "offer", "(II)V"⟩, prog_2_method_7_code, 5, none, 2, 11)
def zxm149 : zM := (⟨"StarTales$Chooser", "worthOf", "(I)I"⟩, prog_2_method_8_code, 4, some .int, 1, 11)
def zxm150 : zM := (⟨"StarTales$Chooser", "weightOf", "(I)I"⟩, prog_2_method_9_code, 4, some .int, 1, 11)
def zxm151 : zM := (⟨"StarTales", "steered", "(IIIZ)I"⟩, prog_1_method_25_code, 7, some .int, 4, 0)
def zxm152 : zM := (⟨"StarTales$Sky", "drawClouds", "(LStarTales$Law;)V"⟩, prog_9_method_8_code, 4, none, 1, 1)
def zxm153 : zM := (⟨"StarTales$Pilot", "step", "(LStarTales$View;LStarTales$Sea;II)I"⟩, prog_7_method_2_code, 12, some .int, 4, 9)
def zxm154 : zM := (⟨"StarTales$Sea", "goFrom", "(II)I"⟩, prog_8_method_7_code, 5, some .int, 2, 2)
def zxm155 : zM := (⟨"StarTales$Sky", "passHour", "()V"⟩, prog_9_method_7_code, 1, none, 0, 1)
def zxm156 : zM := (⟨"StarTales$Sky", "beginNight", "()V"⟩, prog_9_method_6_code, 2, none, 0, 1)
def zxm157 : zM := (⟨"StarTales$Sky", "columnNextNight", "(I)I"⟩, prog_9_method_4_code, 2, some .int, 1, 1)
def zxm158 : zM := (⟨"StarTales$Sky", "rowNextNight", "(I)I"⟩, prog_9_method_5_code, 2, some .int, 1, 1)
def zxm159 : zM := (⟨"StarTales", "hours", "(I)I"⟩, prog_1_method_26_code, 3, some .int, 1, 0)
def zxm160 : zM := (⟨"StarTales", "found", "()I"⟩, prog_1_method_27_code, 5, some .int, 0, 0)
def zxm161 : zM := (⟨"StarTales", "meeting", "(III)I"⟩, prog_1_method_28_code, 5, some .int, 3, 0)
def zxm162 : zM := (⟨"StarTales$Pilot", "meetingPlace", "(LStarTales$Sea;II)I"⟩, prog_7_method_10_code, 7, some .int, 3, 9)
def zxm163 : zM := (⟨"StarTales$Pilot", "spread", "(LStarTales$Sea;I[I)V"⟩, prog_7_method_12_code, 9, none, 3, 9)
def zxm164 : zM := (⟨"StarTales$Pilot", "hoursTo", "(I)I"⟩, prog_7_method_11_code, 2, some .int, 1, 9)
def zxm165 : zM := (⟨"StarTales", "fastest", "(IIIII)I"⟩, prog_1_method_29_code, 6, some .int, 5, 0)
def zxm166 : zM := (⟨"StarTales", "canAskVoyage", "(III)Z"⟩, prog_1_method_51_code, 4, some .boolean, 3, 0)
def zxm167 : zM := (⟨"StarTales$Pilot", "findFastest", "(LStarTales$View;LStarTales$Sea;III)Z"⟩, prog_7_method_3_code, 9, some .boolean, 5, 9)
def zxm168 : zM := (⟨"StarTales$Pilot", "stepFirstLegs", "(LStarTales$View;LStarTales$Sea;)V"⟩, prog_7_method_6_code, 4, none, 2, 9)
def zxm169 : zM := (⟨"StarTales$Pilot", "turnOnward", "(LStarTales$View;)V"⟩, prog_7_method_5_code, 2, none, 1, 9)
def zxm170 : zM := (⟨"StarTales", "byTwo", "(IIIII)I"⟩, prog_1_method_30_code, 6, some .int, 5, 0)
def zxm171 : zM := (⟨"StarTales$Pilot", "findByTwo", "(LStarTales$View;LStarTales$Sea;LStarTales$Sky;III)Z"⟩, prog_7_method_4_code, 8, some .boolean, 6, 9)
def zxm172 : zM := (⟨"StarTales$Pilot", "endFirstLegs", "(LStarTales$Sky;I)V"⟩, prog_7_method_7_code, 4, none, 2, 9)
def zxm173 : zM := (⟨"StarTales$Pilot", "isBroughtByLower", "(LStarTales$Sky;I)Z"⟩, prog_7_method_8_code, 4, some .boolean, 2, 9)
def zxm174 : zM := (⟨"StarTales$Pilot", "followSecond", "(LStarTales$View;LStarTales$Sea;III)V"⟩, prog_7_method_9_code, 10, none, 5, 9)
def zxm175 : zM := (⟨"StarTales", "both", "(III)I"⟩, prog_1_method_31_code, 5, some .int, 3, 0)
def zxm176 : zM := (⟨"StarTales$View", "keepShared", "(LStarTales$View;)V"⟩, prog_12_method_8_code, 3, none, 1, 7)
def zxm177 : zM := (⟨"StarTales", "hidden", "(III)I"⟩, prog_1_method_32_code, 5, some .int, 3, 0)
def zxm178 : zM := (⟨"StarTales$Matcher", "fewestColumns", "(LStarTales$Tale;LStarTales$View;)I"⟩, prog_5_method_12_code, 4, some .int, 2, 8)
def zxm179 : zM := (⟨"StarTales$Matcher", "hide", "(LStarTales$Tale;LStarTales$View;II)V"⟩, prog_5_method_13_code, 8, none, 4, 8)
def zxm180 : zM := (⟨"StarTales$Matcher", "notIn", "(LStarTales$View;I)I"⟩, prog_5_method_14_code, 4, some .int, 2, 8)
def zxm181 : zM := (⟨"StarTales$Matcher", "columnsOfWay", "(LStarTales$Tale;LStarTales$Sky;)I"⟩, prog_5_method_15_code, 5, some .int, 2, 8)
def zxm182 : zM := (⟨"StarTales", "log", "(II)I"⟩, prog_1_method_33_code, 7, some .int, 2, 0)
def zxm183 : zM := (⟨"StarTales", "isLogBytes", "(I)Z"⟩, prog_1_method_52_code, 3, some .boolean, 1, 0)
def zxm184 : zM := (⟨"StarTales", "moveSpots", "(I)V"⟩, prog_1_method_53_code, 3, none, 1, 0)
def zxm185 : zM := (⟨"StarTales", "countSpots", "()I"⟩, prog_1_method_54_code, 3, some .int, 0, 0)
def zxm186 : zM := (⟨"StarTales", "firstSpot", "()I"⟩, prog_1_method_55_code, 2, some .int, 0, 0)
def zxm187 : zM := (⟨"StarTales", "over", "(II)I"⟩, prog_1_method_34_code, 5, some .int, 2, 0)
def zxm188 : zM := (⟨"StarTales", "home", "(II)I"⟩, prog_1_method_35_code, 4, some .int, 2, 0)
def zxm189 : zM := (⟨"StarTales$View", "hasLinesOf", "(LStarTales$View;)Z"⟩, prog_12_method_9_code, 3, some .boolean, 1, 7)
def zxm190 : zM := (⟨"StarTales", "seed", "(I)Z"⟩, prog_1_method_36_code, 2, some .boolean, 1, 0)
def zxm191 : zM := (⟨"StarTales", "keep", "()I"⟩, prog_1_method_37_code, 1, some .int, 0, 0)
def zxm192 : zM := (⟨"StarTales$Sea", "copyFrom", "(LStarTales$Sea;)V"⟩, prog_8_method_8_code, 2, none, 1, 2)
def zxm193 : zM := (⟨"StarTales", "undo", "()Z"⟩, prog_1_method_38_code, 1, some .boolean, 0, 0)
def zxm194 : zM := (⟨"StarTales", "check", "(I)I"⟩, prog_1_method_39_code, 4, some .int, 1, 0)
def zxm195 : zM := (⟨"StarTales$Tape", "numberAt", "(I)I"⟩, prog_11_method_5_code, 2, some .int, 1, 3)
def zxm196 : zM := (⟨"StarTales", "count", "(I)I"⟩, prog_1_method_40_code, 2, some .int, 1, 0)
def zxm197 : zM := (⟨"StarTales$Sea", "countLand", "()I"⟩, prog_8_method_4_code, 3, some .int, 0, 2)
def zxm198 : zM := (⟨"StarTalesModel", "<init>", "()V"⟩, prog_14_method_1_code, 1, none, 0, 12)
def zxm199 : zM := (⟨"StarTalesModel", "star", "(IIII)Z"⟩, prog_14_method_17_code, 5, some .boolean, 4, 12)
def zxm200 : zM := (⟨"StarTalesModel", "in", "(III)Z"⟩, prog_14_method_2_code, 3, some .boolean, 3, 12)
def zxm201 : zM := (⟨"StarTalesModel", "isPlace", "(II)Z"⟩, prog_14_method_10_code, 2, some .boolean, 2, 12)
def zxm202 : zM := (⟨"StarTalesModel", "walk", "(III)Z"⟩, prog_14_method_18_code, 4, some .boolean, 3, 12)
def zxm203 : zM := (⟨"StarTalesModel", "isTold", "(I)Z"⟩, prog_14_method_11_code, 2, some .boolean, 1, 12)
def zxm204 : zM := (⟨"StarTalesModel", "has", "(II)Z"⟩, prog_14_method_5_code, 2, some .boolean, 2, 12)
def zxm205 : zM := (⟨"StarTalesModel", "gone", "(I)Z"⟩, prog_14_method_19_code, 2, some .boolean, 1, 12)
def zxm206 : zM := (⟨"StarTalesModel", "hour", "(I)Z"⟩, prog_14_method_20_code, 2, some .boolean, 1, 12)
def zxm207 : zM := (⟨"StarTalesModel", "clouds", "(I)Z"⟩, prog_14_method_21_code, 2, some .boolean, 1, 12)
def zxm208 : zM := (⟨"StarTalesModel", "sight", "(II)Z"⟩, prog_14_method_22_code, 3, some .boolean, 2, 12)
def zxm209 : zM := (⟨"StarTalesModel", "land", "(IIZ)Z"⟩, prog_14_method_23_code, 5, some .boolean, 3, 12)
def zxm210 : zM := (⟨"StarTalesModel", "isShip", "(I)Z"⟩, prog_14_method_12_code, 2, some .boolean, 1, 12)
def zxm211 : zM := (⟨"StarTalesModel", "ship", "(III)Z"⟩, prog_14_method_24_code, 4, some .boolean, 3, 12)
def zxm212 : zM := (⟨"StarTalesModel", "isLand", "(I)Z"⟩, prog_14_method_13_code, 2, some .boolean, 1, 12)
def zxm213 : zM := (⟨"StarTalesModel", "feed", "(IIIII)I"⟩, prog_14_method_26_code, 6, some .int, 5, 12)
def zxm214 : zM := (⟨"StarTalesModel", "types", "(I)V"⟩, prog_14_method_25_code, 3, none, 1, 12)
def zxm215 : zM := (⟨"StarTalesModel", "law", "(I)I"⟩, prog_14_method_48_code, 4, some .int, 1, 12)
def zxm216 : zM := (⟨"StarTalesModel", "readsClause", "()Z"⟩, prog_14_method_47_code, 2, some .boolean, 0, 12)
def zxm217 : zM := (⟨"StarTalesModel", "here", "()I"⟩, prog_14_method_27_code, 1, some .int, 0, 12)
def zxm218 : zM := (⟨"StarTalesModel", "isClause", "(I)Z"⟩, prog_14_method_46_code, 1, some .boolean, 1, 12)
def zxm219 : zM := (⟨"StarTalesModel", "wrongAt", "(II)Z"⟩, prog_14_method_29_code, 3, some .boolean, 2, 12)
def zxm220 : zM := (⟨"StarTalesModel", "readsSum", "()Z"⟩, prog_14_method_40_code, 3, some .boolean, 0, 12)
def zxm221 : zM := (⟨"StarTalesModel", "readsFactor", "()Z"⟩, prog_14_method_38_code, 2, some .boolean, 0, 12)
def zxm222 : zM := (⟨"StarTalesModel", "opens", "(I)Z"⟩, prog_14_method_33_code, 2, some .boolean, 1, 12)
def zxm223 : zM := (⟨"StarTalesModel", "isDigit", "()Z"⟩, prog_14_method_28_code, 1, some .boolean, 0, 12)
def zxm224 : zM := (⟨"StarTalesModel", "readsNumber", "()Z"⟩, prog_14_method_31_code, 2, some .boolean, 0, 12)
def zxm225 : zM := (⟨"StarTalesModel", "notes", "(II)V"⟩, prog_14_method_32_code, 3, none, 2, 12)
def zxm226 : zM := (⟨"StarTalesModel", "factOf", "(I)I"⟩, prog_14_method_35_code, 1, some .int, 1, 12)
def zxm227 : zM := (⟨"StarTalesModel", "sumSign", "(I)I"⟩, prog_14_method_36_code, 1, some .int, 1, 12)
def zxm228 : zM := (⟨"StarTalesModel", "closesSums", "(Z)V"⟩, prog_14_method_37_code, 2, none, 1, 12)
def zxm229 : zM := (⟨"StarTalesModel", "waitTop", "()I"⟩, prog_14_method_34_code, 1, some .int, 0, 12)
def zxm230 : zM := (⟨"StarTalesModel", "hasOpenSum", "(I)Z"⟩, prog_14_method_39_code, 3, some .boolean, 1, 12)
def zxm231 : zM := (⟨"StarTalesModel", "readsCondition", "()Z"⟩, prog_14_method_45_code, 1, some .boolean, 0, 12)
def zxm232 : zM := (⟨"StarTalesModel", "readsCompared", "()Z"⟩, prog_14_method_44_code, 2, some .boolean, 0, 12)
def zxm233 : zM := (⟨"StarTalesModel", "endsPiece", "()V"⟩, prog_14_method_41_code, 1, none, 0, 12)
def zxm234 : zM := (⟨"StarTalesModel", "lands", "(Z)V"⟩, prog_14_method_42_code, 3, none, 1, 12)
def zxm235 : zM := (⟨"StarTalesModel", "jumps", "(I)V"⟩, prog_14_method_43_code, 2, none, 1, 12)
def zxm236 : zM := (⟨"StarTalesModel", "takes", "(I)Z"⟩, prog_14_method_30_code, 2, some .boolean, 1, 12)
def zxm237 : zM := (⟨"StarTalesModel", "starIs", "(II)I"⟩, prog_14_method_60_code, 3, some .int, 2, 12)
def zxm238 : zM := (⟨"StarTalesModel", "standsAt", "(I)I"⟩, prog_14_method_16_code, 2, some .int, 1, 12)
def zxm239 : zM := (⟨"StarTalesModel", "seen", "(II)I"⟩, prog_14_method_61_code, 3, some .int, 2, 12)
def zxm240 : zM := (⟨"StarTalesModel", "seenFrom", "(I)I"⟩, prog_14_method_57_code, 4, some .int, 1, 12)
def zxm241 : zM := (⟨"StarTalesModel", "isSeen", "(II)Z"⟩, prog_14_method_56_code, 6, some .boolean, 2, 12)
def zxm242 : zM := (⟨"StarTalesModel", "toRight", "(II)I"⟩, prog_14_method_14_code, 3, some .int, 2, 12)
def zxm243 : zM := (⟨"StarTalesModel", "size", "(I)I"⟩, prog_14_method_4_code, 1, some .int, 1, 12)
def zxm244 : zM := (⟨"StarTalesModel", "hasClause", "(I)Z"⟩, prog_14_method_52_code, 3, some .boolean, 1, 12)
def zxm245 : zM := (⟨"StarTalesModel", "feelsStar", "(I)V"⟩, prog_14_method_55_code, 2, none, 1, 12)
def zxm246 : zM := (⟨"StarTalesModel", "feels", "()V"⟩, prog_14_method_54_code, 2, none, 0, 12)
def zxm247 : zM := (⟨"StarTalesModel", "way", "(IIII)I"⟩, prog_14_method_15_code, 4, some .int, 4, 12)
def zxm248 : zM := (⟨"StarTalesModel", "anyOf", "(I)Z"⟩, prog_14_method_53_code, 3, some .boolean, 1, 12)
def zxm249 : zM := (⟨"StarTalesModel", "comesTo", "(II)I"⟩, prog_14_method_50_code, 8, some .int, 2, 12)
def zxm250 : zM := (⟨"StarTalesModel", "reckon", "(III)I"⟩, prog_14_method_49_code, 3, some .int, 3, 12)
def zxm251 : zM := (⟨"StarTalesModel", "line", "(IIII)I"⟩, prog_14_method_62_code, 5, some .int, 4, 12)
def zxm252 : zM := (⟨"StarTalesModel", "looks", "(I)V"⟩, prog_14_method_59_code, 4, none, 1, 12)
def zxm253 : zM := (⟨"StarTalesModel", "isDrawn", "(III)Z"⟩, prog_14_method_58_code, 4, some .boolean, 3, 12)
def zxm254 : zM := (⟨"StarTalesModel", "sky", "(III)I"⟩, prog_14_method_68_code, 5, some .int, 3, 12)
def zxm255 : zM := (⟨"StarTalesModel", "laysFigures", "()V"⟩, prog_14_method_64_code, 4, none, 0, 12)
def zxm256 : zM := (⟨"StarTalesModel", "figureOf", "(I)I"⟩, prog_14_method_63_code, 5, some .int, 1, 12)
def zxm257 : zM := (⟨"StarTalesModel", "bits", "(I)I"⟩, prog_14_method_6_code, 3, some .int, 1, 12)
def zxm258 : zM := (⟨"StarTalesModel", "max", "(II)I"⟩, prog_14_method_3_code, 2, some .int, 2, 12)
def zxm259 : zM := (⟨"StarTalesModel", "mostLegs", "()I"⟩, prog_14_method_67_code, 3, some .int, 0, 12)
def zxm260 : zM := (⟨"StarTalesModel", "lineMany", "()I"⟩, prog_14_method_65_code, 3, some .int, 0, 12)
def zxm261 : zM := (⟨"StarTalesModel", "holding", "()I"⟩, prog_14_method_66_code, 4, some .int, 0, 12)
def zxm262 : zM := (⟨"StarTalesModel", "figure", "(III)I"⟩, prog_14_method_69_code, 4, some .int, 3, 12)
def zxm263 : zM := (⟨"StarTalesModel", "tale", "(I)I"⟩, prog_14_method_73_code, 4, some .int, 1, 12)
def zxm264 : zM := (⟨"StarTalesModel", "readsTaleLine", "()Z"⟩, prog_14_method_72_code, 4, some .boolean, 0, 12)
def zxm265 : zM := (⟨"StarTalesModel", "isName", "()Z"⟩, prog_14_method_70_code, 1, some .boolean, 0, 12)
def zxm266 : zM := (⟨"StarTalesModel", "isTwice", "(II)Z"⟩, prog_14_method_71_code, 4, some .boolean, 2, 12)
def zxm267 : zM := (⟨"StarTalesModel", "matched", "(III)I"⟩, prog_14_method_78_code, 4, some .int, 3, 12)
def zxm268 : zM := (⟨"StarTalesModel", "ways", "(I)I"⟩, prog_14_method_76_code, 6, some .int, 1, 12)
def zxm269 : zM := (⟨"StarTalesModel", "laysNames", "()V"⟩, prog_14_method_74_code, 2, none, 0, 12)
def zxm270 : zM := (⟨"StarTalesModel", "canBe", "(II)Z"⟩, prog_14_method_75_code, 6, some .boolean, 2, 12)
def zxm271 : zM := (⟨"StarTalesModel", "where", "(I)I"⟩, prog_14_method_79_code, 5, some .int, 1, 12)
def zxm272 : zM := (⟨"StarTalesModel", "canBeTold", "(I)Z"⟩, prog_14_method_77_code, 2, some .boolean, 1, 12)
def zxm273 : zM := (⟨"StarTalesModel", "when", "(II)I"⟩, prog_14_method_80_code, 6, some .int, 2, 12)
def zxm274 : zM := (⟨"StarTalesModel", "alike", "(I)I"⟩, prog_14_method_87_code, 5, some .int, 1, 12)
def zxm275 : zM := (⟨"StarTalesModel", "laysPatches", "()V"⟩, prog_14_method_84_code, 2, none, 0, 12)
def zxm276 : zM := (⟨"StarTalesModel", "laysPatch", "(I)V"⟩, prog_14_method_83_code, 5, none, 1, 12)
def zxm277 : zM := (⟨"StarTalesModel", "partOf", "(II)I"⟩, prog_14_method_81_code, 3, some .int, 2, 12)
def zxm278 : zM := (⟨"StarTalesModel", "puts", "([III)V"⟩, prog_14_method_82_code, 4, none, 3, 12)
def zxm279 : zM := (⟨"StarTalesModel", "alikeFrom", "(II)I"⟩, prog_14_method_86_code, 4, some .int, 2, 12)
def zxm280 : zM := (⟨"StarTalesModel", "areAlike", "(II)Z"⟩, prog_14_method_85_code, 4, some .boolean, 2, 12)
def zxm281 : zM := (⟨"StarTalesModel", "known", "(II)I"⟩, prog_14_method_89_code, 7, some .int, 2, 12)
def zxm282 : zM := (⟨"StarTalesModel", "hasParts", "(II)Z"⟩, prog_14_method_88_code, 5, some .boolean, 2, 12)
def zxm283 : zM := (⟨"StarTalesModel", "named", "(II)I"⟩, prog_14_method_93_code, 5, some .int, 2, 12)
def zxm284 : zM := (⟨"StarTalesModel", "takesPlaces", "(I)Z"⟩, prog_14_method_90_code, 6, some .boolean, 1, 12)
def zxm285 : zM := (⟨"StarTalesModel", "leastOf", "(I)I"⟩, prog_14_method_92_code, 5, some .int, 1, 12)
def zxm286 : zM := (⟨"StarTalesModel", "tellsApart", "(I)Z"⟩, prog_14_method_91_code, 3, some .boolean, 1, 12)
def zxm287 : zM := (⟨"StarTalesModel", "sold", "(II)I"⟩, prog_14_method_94_code, 6, some .int, 2, 12)
def zxm288 : zM := (⟨"StarTalesModel", "byLaw", "(II)I"⟩, prog_14_method_51_code, 5, some .int, 2, 12)
def zxm289 : zM := (⟨"StarTalesModel", "steered", "(IIIZ)I"⟩, prog_14_method_102_code, 6, some .int, 4, 12)
def zxm290 : zM := (⟨"StarTalesModel", "steers", "(IIZ)V"⟩, prog_14_method_101_code, 4, none, 3, 12)
def zxm291 : zM := (⟨"StarTalesModel", "drawsClouds", "()V"⟩, prog_14_method_98_code, 2, none, 0, 12)
def zxm292 : zM := (⟨"StarTalesModel", "steersFrom", "(II)I"⟩, prog_14_method_100_code, 6, some .int, 2, 12)
def zxm293 : zM := (⟨"StarTalesModel", "sign", "(I)I"⟩, prog_14_method_99_code, 1, some .int, 1, 12)
def zxm294 : zM := (⟨"StarTalesModel", "passes", "()V"⟩, prog_14_method_97_code, 1, none, 0, 12)
def zxm295 : zM := (⟨"StarTalesModel", "walks", "()V"⟩, prog_14_method_96_code, 2, none, 0, 12)
def zxm296 : zM := (⟨"StarTalesModel", "held", "(II)I"⟩, prog_14_method_95_code, 2, some .int, 2, 12)
def zxm297 : zM := (⟨"StarTalesModel", "hours", "(I)I"⟩, prog_14_method_103_code, 3, some .int, 1, 12)
def zxm298 : zM := (⟨"StarTalesModel", "found", "()I"⟩, prog_14_method_104_code, 4, some .int, 0, 12)
def zxm299 : zM := (⟨"StarTalesModel", "begins", "()V"⟩, prog_14_method_8_code, 1, none, 0, 12)
def zxm300 : zM := (⟨"StarTalesModel", "copies", "([I[I)V"⟩, prog_14_method_7_code, 3, none, 2, 12)
def zxm301 : zM := (⟨"StarTalesModel", "again", "()V"⟩, prog_14_method_9_code, 1, none, 0, 12)
def zxm302 : zM := (⟨"StarTalesModel", "meeting", "(III)I"⟩, prog_14_method_107_code, 6, some .int, 3, 12)
def zxm303 : zM := (⟨"StarTalesModel", "sails", "(I[I)V"⟩, prog_14_method_106_code, 7, none, 2, 12)
def zxm304 : zM := (⟨"StarTalesModel", "goesTo", "(II)I"⟩, prog_14_method_105_code, 4, some .int, 2, 12)
def zxm305 : zM := (⟨"StarTalesModel", "fastest", "(IIIII)I"⟩, prog_14_method_109_code, 11, some .int, 5, 12)
def zxm306 : zM := (⟨"StarTalesModel", "comesBy", "(IIII)I"⟩, prog_14_method_108_code, 6, some .int, 4, 12)
def zxm307 : zM := (⟨"StarTalesModel", "byTwo", "(IIIII)I"⟩, prog_14_method_112_code, 7, some .int, 5, 12)
def zxm308 : zM := (⟨"StarTalesModel", "laysTwo", "(III)Z"⟩, prog_14_method_111_code, 8, some .boolean, 3, 12)
def zxm309 : zM := (⟨"StarTalesModel", "comesByTwo", "(IIIIII)Z"⟩, prog_14_method_110_code, 8, some .boolean, 6, 12)
def zxm310 : zM := (⟨"StarTalesModel", "both", "(III)I"⟩, prog_14_method_114_code, 4, some .int, 3, 12)
def zxm311 : zM := (⟨"StarTalesModel", "looksBoth", "(II)V"⟩, prog_14_method_113_code, 5, none, 2, 12)
def zxm312 : zM := (⟨"StarTalesModel", "hidden", "(III)I"⟩, prog_14_method_116_code, 8, some .int, 3, 12)
def zxm313 : zM := (⟨"StarTalesModel", "leastClouds", "(III)I"⟩, prog_14_method_115_code, 8, some .int, 3, 12)
def zxm314 : zM := (⟨"StarTalesModel", "log", "(II)I"⟩, prog_14_method_118_code, 6, some .int, 2, 12)
def zxm315 : zM := (⟨"StarTalesModel", "takesLog", "(I)Z"⟩, prog_14_method_117_code, 3, some .boolean, 1, 12)
def zxm316 : zM := (⟨"StarTalesModel", "over", "(II)I"⟩, prog_14_method_119_code, 5, some .int, 2, 12)
def zxm317 : zM := (⟨"StarTalesModel", "home", "(II)I"⟩, prog_14_method_120_code, 9, some .int, 2, 12)
def zxm318 : zM := (⟨"StarTalesModel", "seed", "(I)Z"⟩, prog_14_method_121_code, 2, some .boolean, 1, 12)
def zxm319 : zM := (⟨"StarTalesModel", "keep", "()I"⟩, prog_14_method_122_code, 1, some .int, 0, 12)
def zxm320 : zM := (⟨"StarTalesModel", "undo", "()Z"⟩, prog_14_method_123_code, 1, some .boolean, 0, 12)
def zxm321 : zM := (⟨"StarTalesModel", "check", "(I)I"⟩, prog_14_method_125_code, 3, some .int, 1, 12)
def zxm322 : zM := (⟨"StarTalesModel", "tapeNumber", "(I)I"⟩, prog_14_method_124_code, 4, some .int, 1, 12)
def zxm323 : zM := (⟨"StarTalesModel", "count", "(I)I"⟩, prog_14_method_127_code, 2, some .int, 1, 12)
def zxm324 : zM := (⟨"StarTalesModel", "landMany", "()I"⟩, prog_14_method_126_code, 3, some .int, 0, 12)
def zxMT0 : List zM := [zxm0, zxm1, zxm2, zxm3, zxm4, zxm5, zxm6, zxm7, zxm8, zxm9, zxm10, zxm11, zxm12, zxm13, zxm14, zxm15, zxm16, zxm17, zxm18, zxm19, zxm20, zxm21, zxm22, zxm23, zxm24, zxm25, zxm26, zxm27, zxm28, zxm29, zxm30, zxm31, zxm32, zxm33, zxm34, zxm35, zxm36, zxm37, zxm38, zxm39, zxm40, zxm41, zxm42, zxm43, zxm44, zxm45, zxm46, zxm47, zxm48, zxm49]
def zxMT1 : List zM := [zxm50, zxm51, zxm52, zxm53, zxm54, zxm55, zxm56, zxm57, zxm58, zxm59, zxm60, zxm61, zxm62, zxm63, zxm64, zxm65, zxm66, zxm67, zxm68, zxm69, zxm70, zxm71, zxm72, zxm73, zxm74, zxm75, zxm76, zxm77, zxm78, zxm79, zxm80, zxm81, zxm82, zxm83, zxm84, zxm85, zxm86, zxm87, zxm88, zxm89, zxm90, zxm91, zxm92, zxm93, zxm94, zxm95, zxm96, zxm97, zxm98, zxm99]
def zxMT2 : List zM := [zxm100, zxm101, zxm102, zxm103, zxm104, zxm105, zxm106, zxm107, zxm108, zxm109, zxm110, zxm111, zxm112, zxm113, zxm114, zxm115, zxm116, zxm117, zxm118, zxm119, zxm120, zxm121, zxm122, zxm123, zxm124, zxm125, zxm126, zxm127, zxm128, zxm129, zxm130, zxm131, zxm132, zxm133, zxm134, zxm135, zxm136, zxm137, zxm138, zxm139, zxm140, zxm141, zxm142, zxm143, zxm144, zxm145, zxm146, zxm147, zxm148, zxm149]
def zxMT3 : List zM := [zxm150, zxm151, zxm152, zxm153, zxm154, zxm155, zxm156, zxm157, zxm158, zxm159, zxm160, zxm161, zxm162, zxm163, zxm164, zxm165, zxm166, zxm167, zxm168, zxm169, zxm170, zxm171, zxm172, zxm173, zxm174, zxm175, zxm176, zxm177, zxm178, zxm179, zxm180, zxm181, zxm182, zxm183, zxm184, zxm185, zxm186, zxm187, zxm188, zxm189, zxm190, zxm191, zxm192, zxm193, zxm194, zxm195, zxm196, zxm197, zxm198, zxm199]
def zxMT4 : List zM := [zxm200, zxm201, zxm202, zxm203, zxm204, zxm205, zxm206, zxm207, zxm208, zxm209, zxm210, zxm211, zxm212, zxm213, zxm214, zxm215, zxm216, zxm217, zxm218, zxm219, zxm220, zxm221, zxm222, zxm223, zxm224, zxm225, zxm226, zxm227, zxm228, zxm229, zxm230, zxm231, zxm232, zxm233, zxm234, zxm235, zxm236, zxm237, zxm238, zxm239, zxm240, zxm241, zxm242, zxm243, zxm244, zxm245, zxm246, zxm247, zxm248, zxm249]
def zxMT5 : List zM := [zxm250, zxm251, zxm252, zxm253, zxm254, zxm255, zxm256, zxm257, zxm258, zxm259, zxm260, zxm261, zxm262, zxm263, zxm264, zxm265, zxm266, zxm267, zxm268, zxm269, zxm270, zxm271, zxm272, zxm273, zxm274, zxm275, zxm276, zxm277, zxm278, zxm279, zxm280, zxm281, zxm282, zxm283, zxm284, zxm285, zxm286, zxm287, zxm288, zxm289, zxm290, zxm291, zxm292, zxm293, zxm294, zxm295, zxm296, zxm297, zxm298, zxm299]
def zxMT6 : List zM := [zxm300, zxm301, zxm302, zxm303, zxm304, zxm305, zxm306, zxm307, zxm308, zxm309, zxm310, zxm311, zxm312, zxm313, zxm314, zxm315, zxm316, zxm317, zxm318, zxm319, zxm320, zxm321, zxm322, zxm323, zxm324]
def z_MT : List zM := (zxMT0 ++ (zxMT1 ++ (zxMT2 ++ (zxMT3 ++ (zxMT4 ++ (zxMT5 ++ zxMT6))))))
abbrev z_TB : List Cond := lw_tbl.filter z_gw
theorem zxin1 : ∀ v ∈ tables_1_1, v ∈ lw_tbl := fun v h => List.mem_append_right _ (show v ∈ (tables_1_1 ++ (tables_1_2 ++ (tables_1_3 ++ (tables_1_4 ++ (tables_1_5 ++ (tables_1_6 ++ (tables_1_7 ++ (tables_1_8 ++ tables_1_9)))))))) from List.mem_append_left _ h)
theorem zxin2 : ∀ v ∈ tables_1_2, v ∈ lw_tbl := fun v h => List.mem_append_right _ (show v ∈ (tables_1_1 ++ (tables_1_2 ++ (tables_1_3 ++ (tables_1_4 ++ (tables_1_5 ++ (tables_1_6 ++ (tables_1_7 ++ (tables_1_8 ++ tables_1_9)))))))) from List.mem_append_right _ (List.mem_append_left _ h))
theorem zxin3 : ∀ v ∈ tables_1_3, v ∈ lw_tbl := fun v h => List.mem_append_right _ (show v ∈ (tables_1_1 ++ (tables_1_2 ++ (tables_1_3 ++ (tables_1_4 ++ (tables_1_5 ++ (tables_1_6 ++ (tables_1_7 ++ (tables_1_8 ++ tables_1_9)))))))) from List.mem_append_right _ (List.mem_append_right _ (List.mem_append_left _ h)))
theorem zxin4 : ∀ v ∈ tables_1_4, v ∈ lw_tbl := fun v h => List.mem_append_right _ (show v ∈ (tables_1_1 ++ (tables_1_2 ++ (tables_1_3 ++ (tables_1_4 ++ (tables_1_5 ++ (tables_1_6 ++ (tables_1_7 ++ (tables_1_8 ++ tables_1_9)))))))) from List.mem_append_right _ (List.mem_append_right _ (List.mem_append_right _ (List.mem_append_left _ h))))
theorem zxin5 : ∀ v ∈ tables_1_5, v ∈ lw_tbl := fun v h => List.mem_append_right _ (show v ∈ (tables_1_1 ++ (tables_1_2 ++ (tables_1_3 ++ (tables_1_4 ++ (tables_1_5 ++ (tables_1_6 ++ (tables_1_7 ++ (tables_1_8 ++ tables_1_9)))))))) from List.mem_append_right _ (List.mem_append_right _ (List.mem_append_right _ (List.mem_append_right _ (List.mem_append_left _ h)))))
theorem zxin6 : ∀ v ∈ tables_1_6, v ∈ lw_tbl := fun v h => List.mem_append_right _ (show v ∈ (tables_1_1 ++ (tables_1_2 ++ (tables_1_3 ++ (tables_1_4 ++ (tables_1_5 ++ (tables_1_6 ++ (tables_1_7 ++ (tables_1_8 ++ tables_1_9)))))))) from List.mem_append_right _ (List.mem_append_right _ (List.mem_append_right _ (List.mem_append_right _ (List.mem_append_right _ (List.mem_append_left _ h))))))
theorem zxin7 : ∀ v ∈ tables_1_7, v ∈ lw_tbl := fun v h => List.mem_append_right _ (show v ∈ (tables_1_1 ++ (tables_1_2 ++ (tables_1_3 ++ (tables_1_4 ++ (tables_1_5 ++ (tables_1_6 ++ (tables_1_7 ++ (tables_1_8 ++ tables_1_9)))))))) from List.mem_append_right _ (List.mem_append_right _ (List.mem_append_right _ (List.mem_append_right _ (List.mem_append_right _ (List.mem_append_right _ (List.mem_append_left _ h)))))))
theorem zxin8 : ∀ v ∈ tables_1_8, v ∈ lw_tbl := fun v h => List.mem_append_right _ (show v ∈ (tables_1_1 ++ (tables_1_2 ++ (tables_1_3 ++ (tables_1_4 ++ (tables_1_5 ++ (tables_1_6 ++ (tables_1_7 ++ (tables_1_8 ++ tables_1_9)))))))) from List.mem_append_right _ (List.mem_append_right _ (List.mem_append_right _ (List.mem_append_right _ (List.mem_append_right _ (List.mem_append_right _ (List.mem_append_right _ (List.mem_append_left _ h))))))))
theorem zxin9 : ∀ v ∈ tables_1_9, v ∈ lw_tbl := fun v h => List.mem_append_right _ (show v ∈ (tables_1_1 ++ (tables_1_2 ++ (tables_1_3 ++ (tables_1_4 ++ (tables_1_5 ++ (tables_1_6 ++ (tables_1_7 ++ (tables_1_8 ++ tables_1_9)))))))) from List.mem_append_right _ (List.mem_append_right _ (List.mem_append_right _ (List.mem_append_right _ (List.mem_append_right _ (List.mem_append_right _ (List.mem_append_right _ (List.mem_append_right _ (h)))))))))
theorem zxp0 : plainFor zxm0.1 = true := by decide +kernel
set_option maxRecDepth 20000 in
theorem zxt0 : z_MT[0]? = some zxm0 := rfl
set_option maxRecDepth 20000 in
theorem zxci_0 : Cond.initialized "StarTales" ∈ lw_tbl.filter z_gw := List.mem_filter.mpr ⟨List.mem_of_getElem? (i := 115) (by decide +kernel), rfl⟩
theorem zxcn_0 : ("StarTales" : String) ≠ "java/lang/invoke/MethodHandle" ∧ ("StarTales" : String) ≠ "java/lang/invoke/VarHandle" := by decide +kernel
theorem zxcd_0 : (parseMethodDescriptor "()V").map (fun d => d.parameters.length) = some 0 := by decide +kernel
set_option maxRecDepth 20000 in
theorem zxh0 : zk_ok1 lw_tbl zxm0 := ⟨List.mem_filter.mpr ⟨zxin1 _ (List.mem_of_getElem? (i := 27) rfl), rfl⟩, zxci_0, zxcn_0, zxcd_0⟩
theorem zxp1 : plainFor zxm1.1 = true := by decide +kernel
set_option maxRecDepth 20000 in
theorem zxt1 : z_MT[1]? = some zxm1 := rfl
set_option maxRecDepth 20000 in
theorem zxci_1 : Cond.initialized "StarTales$Sky" ∈ lw_tbl.filter z_gw := List.mem_filter.mpr ⟨List.mem_of_getElem? (i := 116) (by decide +kernel), rfl⟩
theorem zxcn_1 : ("StarTales$Sky" : String) ≠ "java/lang/invoke/MethodHandle" ∧ ("StarTales$Sky" : String) ≠ "java/lang/invoke/VarHandle" := by decide +kernel
set_option maxRecDepth 20000 in
theorem zxh1 : zk_ok1 lw_tbl zxm1 := ⟨List.mem_filter.mpr ⟨zxin1 _ (List.mem_of_getElem? (i := 35) rfl), rfl⟩, zxci_1, zxcn_1, zxcd_0⟩
theorem zxp2 : plainFor zxm2.1 = true := by decide +kernel
set_option maxRecDepth 20000 in
theorem zxt2 : z_MT[2]? = some zxm2 := rfl
set_option maxRecDepth 20000 in
theorem zxci_2 : Cond.initialized "StarTales$Sea" ∈ lw_tbl.filter z_gw := List.mem_filter.mpr ⟨List.mem_of_getElem? (i := 117) (by decide +kernel), rfl⟩
theorem zxcn_2 : ("StarTales$Sea" : String) ≠ "java/lang/invoke/MethodHandle" ∧ ("StarTales$Sea" : String) ≠ "java/lang/invoke/VarHandle" := by decide +kernel
set_option maxRecDepth 20000 in
theorem zxh2 : zk_ok1 lw_tbl zxm2 := ⟨List.mem_filter.mpr ⟨zxin1 _ (List.mem_of_getElem? (i := 104) rfl), rfl⟩, zxci_2, zxcn_2, zxcd_0⟩
theorem zxp3 : plainFor zxm3.1 = true := by decide +kernel
set_option maxRecDepth 20000 in
theorem zxt3 : z_MT[3]? = some zxm3 := rfl
set_option maxRecDepth 20000 in
theorem zxci_3 : Cond.initialized "StarTales$Tape" ∈ lw_tbl.filter z_gw := List.mem_filter.mpr ⟨List.mem_of_getElem? (i := 118) (by decide +kernel), rfl⟩
theorem zxcn_3 : ("StarTales$Tape" : String) ≠ "java/lang/invoke/MethodHandle" ∧ ("StarTales$Tape" : String) ≠ "java/lang/invoke/VarHandle" := by decide +kernel
set_option maxRecDepth 20000 in
theorem zxh3 : zk_ok1 lw_tbl zxm3 := ⟨List.mem_filter.mpr ⟨zxin1 _ (List.mem_of_getElem? (i := 122) rfl), rfl⟩, zxci_3, zxcn_3, zxcd_0⟩
theorem zxp4 : plainFor zxm4.1 = true := by decide +kernel
set_option maxRecDepth 20000 in
theorem zxt4 : z_MT[4]? = some zxm4 := rfl
set_option maxRecDepth 20000 in
theorem zxci_4 : Cond.initialized "StarTales$Law" ∈ lw_tbl.filter z_gw := List.mem_filter.mpr ⟨List.mem_of_getElem? (i := 119) (by decide +kernel), rfl⟩
theorem zxcn_4 : ("StarTales$Law" : String) ≠ "java/lang/invoke/MethodHandle" ∧ ("StarTales$Law" : String) ≠ "java/lang/invoke/VarHandle" := by decide +kernel
set_option maxRecDepth 20000 in
theorem zxh4 : zk_ok1 lw_tbl zxm4 := ⟨List.mem_filter.mpr ⟨zxin1 _ (List.mem_of_getElem? (i := 137) rfl), rfl⟩, zxci_4, zxcn_4, zxcd_0⟩
theorem zxp5 : plainFor zxm5.1 = true := by decide +kernel
set_option maxRecDepth 20000 in
theorem zxt5 : z_MT[5]? = some zxm5 := rfl
set_option maxRecDepth 20000 in
theorem zxci_5 : Cond.initialized "java/lang/String" ∈ lw_tbl.filter z_gw := List.mem_filter.mpr ⟨List.mem_of_getElem? (i := 120) (by decide +kernel), rfl⟩
theorem zxcn_5 : ("java/lang/String" : String) ≠ "java/lang/invoke/MethodHandle" ∧ ("java/lang/String" : String) ≠ "java/lang/invoke/VarHandle" := by decide +kernel
theorem zxcd_1 : (parseMethodDescriptor "()I").map (fun d => d.parameters.length) = some 0 := by decide +kernel
set_option maxRecDepth 20000 in
theorem zxh5 : zk_ok1 lw_tbl zxm5 := ⟨List.mem_filter.mpr ⟨zxin1 _ (List.mem_of_getElem? (i := 143) rfl), rfl⟩, zxci_5, zxcn_5, zxcd_1⟩
theorem zxp6 : plainFor zxm6.1 = true := by decide +kernel
set_option maxRecDepth 20000 in
theorem zxt6 : z_MT[6]? = some zxm6 := rfl
theorem zxcd_2 : (parseMethodDescriptor "()B").map (fun d => d.parameters.length) = some 0 := by decide +kernel
set_option maxRecDepth 20000 in
theorem zxh6 : zk_ok1 lw_tbl zxm6 := ⟨List.mem_filter.mpr ⟨zxin1 _ (List.mem_of_getElem? (i := 147) rfl), rfl⟩, zxci_5, zxcn_5, zxcd_2⟩
theorem zxp7 : plainFor zxm7.1 = true := by decide +kernel
set_option maxRecDepth 20000 in
theorem zxt7 : z_MT[7]? = some zxm7 := rfl
set_option maxRecDepth 20000 in
theorem zxci_6 : Cond.initialized "StarTales$LawReader" ∈ lw_tbl.filter z_gw := List.mem_filter.mpr ⟨List.mem_of_getElem? (i := 121) (by decide +kernel), rfl⟩
theorem zxcn_6 : ("StarTales$LawReader" : String) ≠ "java/lang/invoke/MethodHandle" ∧ ("StarTales$LawReader" : String) ≠ "java/lang/invoke/VarHandle" := by decide +kernel
theorem zxcd_3 : (parseMethodDescriptor "([ILStarTales$Law;)V").map (fun d => d.parameters.length) = some 2 := by decide +kernel
set_option maxRecDepth 20000 in
theorem zxh7 : zk_ok1 lw_tbl zxm7 := ⟨List.mem_filter.mpr ⟨zxin1 _ (List.mem_of_getElem? (i := 210) rfl), rfl⟩, zxci_6, zxcn_6, zxcd_3⟩
theorem zxp8 : plainFor zxm8.1 = true := by decide +kernel
set_option maxRecDepth 20000 in
theorem zxt8 : z_MT[8]? = some zxm8 := rfl
set_option maxRecDepth 20000 in
theorem zxci_7 : Cond.initialized "StarTales$Tale" ∈ lw_tbl.filter z_gw := List.mem_filter.mpr ⟨List.mem_of_getElem? (i := 122) (by decide +kernel), rfl⟩
theorem zxcn_7 : ("StarTales$Tale" : String) ≠ "java/lang/invoke/MethodHandle" ∧ ("StarTales$Tale" : String) ≠ "java/lang/invoke/VarHandle" := by decide +kernel
set_option maxRecDepth 20000 in
theorem zxh8 : zk_ok1 lw_tbl zxm8 := ⟨List.mem_filter.mpr ⟨zxin1 _ (List.mem_of_getElem? (i := 232) rfl), rfl⟩, zxci_7, zxcn_7, zxcd_0⟩
theorem zxp9 : plainFor zxm9.1 = true := by decide +kernel
set_option maxRecDepth 20000 in
theorem zxt9 : z_MT[9]? = some zxm9 := rfl
set_option maxRecDepth 20000 in
theorem zxci_8 : Cond.initialized "StarTales$View" ∈ lw_tbl.filter z_gw := List.mem_filter.mpr ⟨List.mem_of_getElem? (i := 123) (by decide +kernel), rfl⟩
theorem zxcn_8 : ("StarTales$View" : String) ≠ "java/lang/invoke/MethodHandle" ∧ ("StarTales$View" : String) ≠ "java/lang/invoke/VarHandle" := by decide +kernel
theorem zxcd_4 : (parseMethodDescriptor "(LStarTales$Sky;LStarTales$Law;)V").map (fun d => d.parameters.length) = some 2 := by decide +kernel
set_option maxRecDepth 20000 in
theorem zxh9 : zk_ok1 lw_tbl zxm9 := ⟨List.mem_filter.mpr ⟨zxin2 _ (List.mem_of_getElem? (i := 12) rfl), rfl⟩, zxci_8, zxcn_8, zxcd_4⟩
theorem zxp10 : plainFor zxm10.1 = true := by decide +kernel
set_option maxRecDepth 20000 in
theorem zxt10 : z_MT[10]? = some zxm10 := rfl
set_option maxRecDepth 20000 in
theorem zxci_9 : Cond.initialized "StarTales$Matcher" ∈ lw_tbl.filter z_gw := List.mem_filter.mpr ⟨List.mem_of_getElem? (i := 124) (by decide +kernel), rfl⟩
theorem zxcn_9 : ("StarTales$Matcher" : String) ≠ "java/lang/invoke/MethodHandle" ∧ ("StarTales$Matcher" : String) ≠ "java/lang/invoke/VarHandle" := by decide +kernel
theorem zxcd_5 : (parseMethodDescriptor "(LStarTales$Tale;[I)V").map (fun d => d.parameters.length) = some 2 := by decide +kernel
set_option maxRecDepth 20000 in
theorem zxh10 : zk_ok1 lw_tbl zxm10 := ⟨List.mem_filter.mpr ⟨zxin2 _ (List.mem_of_getElem? (i := 59) rfl), rfl⟩, zxci_9, zxcn_9, zxcd_5⟩
theorem zxp11 : plainFor zxm11.1 = true := by decide +kernel
set_option maxRecDepth 20000 in
theorem zxt11 : z_MT[11]? = some zxm11 := rfl
set_option maxRecDepth 20000 in
theorem zxci_10 : Cond.initialized "StarTales$Pilot" ∈ lw_tbl.filter z_gw := List.mem_filter.mpr ⟨List.mem_of_getElem? (i := 125) (by decide +kernel), rfl⟩
theorem zxcn_10 : ("StarTales$Pilot" : String) ≠ "java/lang/invoke/MethodHandle" ∧ ("StarTales$Pilot" : String) ≠ "java/lang/invoke/VarHandle" := by decide +kernel
set_option maxRecDepth 20000 in
theorem zxh11 : zk_ok1 lw_tbl zxm11 := ⟨List.mem_filter.mpr ⟨zxin2 _ (List.mem_of_getElem? (i := 88) rfl), rfl⟩, zxci_10, zxcn_10, zxcd_0⟩
theorem zxp12 : plainFor zxm12.1 = true := by decide +kernel
set_option maxRecDepth 20000 in
theorem zxt12 : z_MT[12]? = some zxm12 := rfl
set_option maxRecDepth 20000 in
theorem zxci_11 : Cond.initialized "StarTales$Patches" ∈ lw_tbl.filter z_gw := List.mem_filter.mpr ⟨List.mem_of_getElem? (i := 126) (by decide +kernel), rfl⟩
theorem zxcn_11 : ("StarTales$Patches" : String) ≠ "java/lang/invoke/MethodHandle" ∧ ("StarTales$Patches" : String) ≠ "java/lang/invoke/VarHandle" := by decide +kernel
theorem zxcd_6 : (parseMethodDescriptor "(LStarTales$Sky;)V").map (fun d => d.parameters.length) = some 1 := by decide +kernel
set_option maxRecDepth 20000 in
theorem zxh12 : zk_ok1 lw_tbl zxm12 := ⟨List.mem_filter.mpr ⟨zxin2 _ (List.mem_of_getElem? (i := 144) rfl), rfl⟩, zxci_11, zxcn_11, zxcd_6⟩
theorem zxp13 : plainFor zxm13.1 = true := by decide +kernel
set_option maxRecDepth 20000 in
theorem zxt13 : z_MT[13]? = some zxm13 := rfl
set_option maxRecDepth 20000 in
theorem zxci_12 : Cond.initialized "StarTales$Chooser" ∈ lw_tbl.filter z_gw := List.mem_filter.mpr ⟨List.mem_of_getElem? (i := 127) (by decide +kernel), rfl⟩
theorem zxcn_12 : ("StarTales$Chooser" : String) ≠ "java/lang/invoke/MethodHandle" ∧ ("StarTales$Chooser" : String) ≠ "java/lang/invoke/VarHandle" := by decide +kernel
set_option maxRecDepth 20000 in
theorem zxh13 : zk_ok1 lw_tbl zxm13 := ⟨List.mem_filter.mpr ⟨zxin2 _ (List.mem_of_getElem? (i := 173) rfl), rfl⟩, zxci_12, zxcn_12, zxcd_0⟩
theorem zxp14 : plainFor zxm14.1 = true := by decide +kernel
set_option maxRecDepth 20000 in
theorem zxt14 : z_MT[14]? = some zxm14 := rfl
theorem zxcd_7 : (parseMethodDescriptor "(IIII)Z").map (fun d => d.parameters.length) = some 4 := by decide +kernel
set_option maxRecDepth 20000 in
theorem zxh14 : zk_ok1 lw_tbl zxm14 := ⟨List.mem_filter.mpr ⟨zxin3 _ (List.mem_of_getElem? (i := 19) rfl), rfl⟩, zxci_0, zxcn_0, zxcd_7⟩
theorem zxp15 : plainFor zxm15.1 = true := by decide +kernel
set_option maxRecDepth 20000 in
theorem zxt15 : z_MT[15]? = some zxm15 := rfl
theorem zxcd_8 : (parseMethodDescriptor "(III)Z").map (fun d => d.parameters.length) = some 3 := by decide +kernel
set_option maxRecDepth 20000 in
theorem zxh15 : zk_ok1 lw_tbl zxm15 := ⟨List.mem_filter.mpr ⟨zxin3 _ (List.mem_of_getElem? (i := 22) rfl), rfl⟩, zxci_0, zxcn_0, zxcd_8⟩
theorem zxp16 : plainFor zxm16.1 = true := by decide +kernel
set_option maxRecDepth 20000 in
theorem zxt16 : z_MT[16]? = some zxm16 := rfl
theorem zxcd_9 : (parseMethodDescriptor "(II)Z").map (fun d => d.parameters.length) = some 2 := by decide +kernel
set_option maxRecDepth 20000 in
theorem zxh16 : zk_ok1 lw_tbl zxm16 := ⟨List.mem_filter.mpr ⟨zxin3 _ (List.mem_of_getElem? (i := 25) rfl), rfl⟩, zxci_0, zxcn_0, zxcd_9⟩
theorem zxp17 : plainFor zxm17.1 = true := by decide +kernel
set_option maxRecDepth 20000 in
theorem zxt17 : z_MT[17]? = some zxm17 := rfl
set_option maxRecDepth 20000 in
theorem zxh17 : zk_ok1 lw_tbl zxm17 := ⟨List.mem_filter.mpr ⟨zxin3 _ (List.mem_of_getElem? (i := 29) rfl), rfl⟩, zxci_0, zxcn_0, zxcd_8⟩
theorem zxp18 : plainFor zxm18.1 = true := by decide +kernel
set_option maxRecDepth 20000 in
theorem zxt18 : z_MT[18]? = some zxm18 := rfl
theorem zxcd_10 : (parseMethodDescriptor "(I)Z").map (fun d => d.parameters.length) = some 1 := by decide +kernel
set_option maxRecDepth 20000 in
theorem zxh18 : zk_ok1 lw_tbl zxm18 := ⟨List.mem_filter.mpr ⟨zxin3 _ (List.mem_of_getElem? (i := 33) rfl), rfl⟩, zxci_1, zxcn_1, zxcd_10⟩
theorem zxp19 : plainFor zxm19.1 = true := by decide +kernel
set_option maxRecDepth 20000 in
theorem zxt19 : z_MT[19]? = some zxm19 := rfl
set_option maxRecDepth 20000 in
theorem zxh19 : zk_ok1 lw_tbl zxm19 := ⟨List.mem_filter.mpr ⟨zxin3 _ (List.mem_of_getElem? (i := 37) rfl), rfl⟩, zxci_0, zxcn_0, zxcd_10⟩
theorem zxp20 : plainFor zxm20.1 = true := by decide +kernel
set_option maxRecDepth 20000 in
theorem zxt20 : z_MT[20]? = some zxm20 := rfl
set_option maxRecDepth 20000 in
theorem zxh20 : zk_ok1 lw_tbl zxm20 := ⟨List.mem_filter.mpr ⟨zxin3 _ (List.mem_of_getElem? (i := 41) rfl), rfl⟩, zxci_0, zxcn_0, zxcd_10⟩
theorem zxp21 : plainFor zxm21.1 = true := by decide +kernel
set_option maxRecDepth 20000 in
theorem zxt21 : z_MT[21]? = some zxm21 := rfl
set_option maxRecDepth 20000 in
theorem zxh21 : zk_ok1 lw_tbl zxm21 := ⟨List.mem_filter.mpr ⟨zxin3 _ (List.mem_of_getElem? (i := 45) rfl), rfl⟩, zxci_0, zxcn_0, zxcd_10⟩
theorem zxp22 : plainFor zxm22.1 = true := by decide +kernel
set_option maxRecDepth 20000 in
theorem zxt22 : z_MT[22]? = some zxm22 := rfl
set_option maxRecDepth 20000 in
theorem zxh22 : zk_ok1 lw_tbl zxm22 := ⟨List.mem_filter.mpr ⟨zxin3 _ (List.mem_of_getElem? (i := 50) rfl), rfl⟩, zxci_0, zxcn_0, zxcd_9⟩
theorem zxp23 : plainFor zxm23.1 = true := by decide +kernel
set_option maxRecDepth 20000 in
theorem zxt23 : z_MT[23]? = some zxm23 := rfl
theorem zxcd_11 : (parseMethodDescriptor "(IIZ)Z").map (fun d => d.parameters.length) = some 3 := by decide +kernel
set_option maxRecDepth 20000 in
theorem zxh23 : zk_ok1 lw_tbl zxm23 := ⟨List.mem_filter.mpr ⟨zxin3 _ (List.mem_of_getElem? (i := 54) rfl), rfl⟩, zxci_0, zxcn_0, zxcd_11⟩
theorem zxp24 : plainFor zxm24.1 = true := by decide +kernel
set_option maxRecDepth 20000 in
theorem zxt24 : z_MT[24]? = some zxm24 := rfl
theorem zxcd_12 : (parseMethodDescriptor "(II)I").map (fun d => d.parameters.length) = some 2 := by decide +kernel
set_option maxRecDepth 20000 in
theorem zxh24 : zk_ok1 lw_tbl zxm24 := ⟨List.mem_filter.mpr ⟨zxin3 _ (List.mem_of_getElem? (i := 57) rfl), rfl⟩, zxci_0, zxcn_0, zxcd_12⟩
theorem zxp25 : plainFor zxm25.1 = true := by decide +kernel
set_option maxRecDepth 20000 in
theorem zxt25 : z_MT[25]? = some zxm25 := rfl
set_option maxRecDepth 20000 in
theorem zxh25 : zk_ok1 lw_tbl zxm25 := ⟨List.mem_filter.mpr ⟨zxin3 _ (List.mem_of_getElem? (i := 61) rfl), rfl⟩, zxci_2, zxcn_2, zxcd_10⟩
theorem zxp26 : plainFor zxm26.1 = true := by decide +kernel
set_option maxRecDepth 20000 in
theorem zxt26 : z_MT[26]? = some zxm26 := rfl
set_option maxRecDepth 20000 in
theorem zxh26 : zk_ok1 lw_tbl zxm26 := ⟨List.mem_filter.mpr ⟨zxin3 _ (List.mem_of_getElem? (i := 65) rfl), rfl⟩, zxci_2, zxcn_2, zxcd_10⟩
theorem zxp27 : plainFor zxm27.1 = true := by decide +kernel
set_option maxRecDepth 20000 in
theorem zxt27 : z_MT[27]? = some zxm27 := rfl
theorem zxcd_13 : (parseMethodDescriptor "(IIZ)V").map (fun d => d.parameters.length) = some 3 := by decide +kernel
set_option maxRecDepth 20000 in
theorem zxh27 : zk_ok1 lw_tbl zxm27 := ⟨List.mem_filter.mpr ⟨zxin3 _ (List.mem_of_getElem? (i := 69) rfl), rfl⟩, zxci_2, zxcn_2, zxcd_13⟩
theorem zxp28 : plainFor zxm28.1 = true := by decide +kernel
set_option maxRecDepth 20000 in
theorem zxt28 : z_MT[28]? = some zxm28 := rfl
set_option maxRecDepth 20000 in
theorem zxh28 : zk_ok1 lw_tbl zxm28 := ⟨List.mem_filter.mpr ⟨zxin3 _ (List.mem_of_getElem? (i := 73) rfl), rfl⟩, zxci_0, zxcn_0, zxcd_8⟩
theorem zxp29 : plainFor zxm29.1 = true := by decide +kernel
set_option maxRecDepth 20000 in
theorem zxt29 : z_MT[29]? = some zxm29 := rfl
set_option maxRecDepth 20000 in
theorem zxh29 : zk_ok1 lw_tbl zxm29 := ⟨List.mem_filter.mpr ⟨zxin3 _ (List.mem_of_getElem? (i := 77) rfl), rfl⟩, zxci_2, zxcn_2, zxcd_10⟩
theorem zxp30 : plainFor zxm30.1 = true := by decide +kernel
set_option maxRecDepth 20000 in
theorem zxt30 : z_MT[30]? = some zxm30 := rfl
theorem zxcd_14 : (parseMethodDescriptor "(I)I").map (fun d => d.parameters.length) = some 1 := by decide +kernel
set_option maxRecDepth 20000 in
theorem zxh30 : zk_ok1 lw_tbl zxm30 := ⟨List.mem_filter.mpr ⟨zxin3 _ (List.mem_of_getElem? (i := 80) rfl), rfl⟩, zxci_0, zxcn_0, zxcd_14⟩
theorem zxp31 : plainFor zxm31.1 = true := by decide +kernel
set_option maxRecDepth 20000 in
theorem zxt31 : z_MT[31]? = some zxm31 := rfl
set_option maxRecDepth 20000 in
theorem zxh31 : zk_ok1 lw_tbl zxm31 := ⟨List.mem_filter.mpr ⟨zxin3 _ (List.mem_of_getElem? (i := 83) rfl), rfl⟩, zxci_0, zxcn_0, zxcd_14⟩
theorem zxp32 : plainFor zxm32.1 = true := by decide +kernel
set_option maxRecDepth 20000 in
theorem zxt32 : z_MT[32]? = some zxm32 := rfl
theorem zxcd_15 : (parseMethodDescriptor "(IIIII)I").map (fun d => d.parameters.length) = some 5 := by decide +kernel
set_option maxRecDepth 20000 in
theorem zxh32 : zk_ok1 lw_tbl zxm32 := ⟨List.mem_filter.mpr ⟨zxin3 _ (List.mem_of_getElem? (i := 87) rfl), rfl⟩, zxci_0, zxcn_0, zxcd_15⟩
theorem zxp33 : plainFor zxm33.1 = true := by decide +kernel
set_option maxRecDepth 20000 in
theorem zxt33 : z_MT[33]? = some zxm33 := rfl
theorem zxcd_16 : (parseMethodDescriptor "(I)V").map (fun d => d.parameters.length) = some 1 := by decide +kernel
set_option maxRecDepth 20000 in
theorem zxh33 : zk_ok1 lw_tbl zxm33 := ⟨List.mem_filter.mpr ⟨zxin3 _ (List.mem_of_getElem? (i := 91) rfl), rfl⟩, zxci_3, zxcn_3, zxcd_16⟩
theorem zxp34 : plainFor zxm34.1 = true := by decide +kernel
set_option maxRecDepth 20000 in
theorem zxt34 : z_MT[34]? = some zxm34 := rfl
set_option maxRecDepth 20000 in
theorem zxh34 : zk_ok1 lw_tbl zxm34 := ⟨List.mem_filter.mpr ⟨zxin3 _ (List.mem_of_getElem? (i := 95) rfl), rfl⟩, zxci_0, zxcn_0, zxcd_14⟩
theorem zxp35 : plainFor zxm35.1 = true := by decide +kernel
set_option maxRecDepth 20000 in
theorem zxt35 : z_MT[35]? = some zxm35 := rfl
set_option maxRecDepth 20000 in
theorem zxh35 : zk_ok1 lw_tbl zxm35 := ⟨List.mem_filter.mpr ⟨zxin3 _ (List.mem_of_getElem? (i := 99) rfl), rfl⟩, zxci_3, zxcn_3, zxcd_10⟩
theorem zxp36 : plainFor zxm36.1 = true := by decide +kernel
set_option maxRecDepth 20000 in
theorem zxt36 : z_MT[36]? = some zxm36 := rfl
theorem zxcd_17 : (parseMethodDescriptor "(ILStarTales$Law;)I").map (fun d => d.parameters.length) = some 2 := by decide +kernel
set_option maxRecDepth 20000 in
theorem zxh36 : zk_ok1 lw_tbl zxm36 := ⟨List.mem_filter.mpr ⟨zxin3 _ (List.mem_of_getElem? (i := 103) rfl), rfl⟩, zxci_6, zxcn_6, zxcd_17⟩
theorem zxp37 : plainFor zxm37.1 = true := by decide +kernel
set_option maxRecDepth 20000 in
theorem zxt37 : z_MT[37]? = some zxm37 := rfl
set_option maxRecDepth 20000 in
theorem zxci_13 : Cond.initialized "java/lang/Math" ∈ lw_tbl.filter z_gw := List.mem_filter.mpr ⟨List.mem_of_getElem? (i := 129) (by decide +kernel), rfl⟩
theorem zxcn_13 : ("java/lang/Math" : String) ≠ "java/lang/invoke/MethodHandle" ∧ ("java/lang/Math" : String) ≠ "java/lang/invoke/VarHandle" := by decide +kernel
set_option maxRecDepth 20000 in
theorem zxh37 : zk_ok1 lw_tbl zxm37 := ⟨List.mem_filter.mpr ⟨zxin3 _ (List.mem_of_getElem? (i := 106) rfl), rfl⟩, zxci_13, zxcn_13, zxcd_12⟩
theorem zxp38 : plainFor zxm38.1 = true := by decide +kernel
set_option maxRecDepth 20000 in
theorem zxt38 : z_MT[38]? = some zxm38 := rfl
set_option maxRecDepth 20000 in
theorem zxh38 : zk_ok1 lw_tbl zxm38 := ⟨List.mem_filter.mpr ⟨zxin3 _ (List.mem_of_getElem? (i := 110) rfl), rfl⟩, zxci_4, zxcn_4, zxcd_0⟩
theorem zxp39 : plainFor zxm39.1 = true := by decide +kernel
set_option maxRecDepth 20000 in
theorem zxt39 : z_MT[39]? = some zxm39 := rfl
set_option maxRecDepth 20000 in
theorem zxh39 : zk_ok1 lw_tbl zxm39 := ⟨List.mem_filter.mpr ⟨zxin3 _ (List.mem_of_getElem? (i := 114) rfl), rfl⟩, zxci_6, zxcn_6, zxcd_0⟩
theorem zxp40 : plainFor zxm40.1 = true := by decide +kernel
set_option maxRecDepth 20000 in
theorem zxt40 : z_MT[40]? = some zxm40 := rfl
set_option maxRecDepth 20000 in
theorem zxh40 : zk_ok1 lw_tbl zxm40 := ⟨List.mem_filter.mpr ⟨zxin3 _ (List.mem_of_getElem? (i := 118) rfl), rfl⟩, zxci_6, zxcn_6, zxcd_1⟩
theorem zxp41 : plainFor zxm41.1 = true := by decide +kernel
set_option maxRecDepth 20000 in
theorem zxt41 : z_MT[41]? = some zxm41 := rfl
set_option maxRecDepth 20000 in
theorem zxh41 : zk_ok1 lw_tbl zxm41 := ⟨List.mem_filter.mpr ⟨zxin3 _ (List.mem_of_getElem? (i := 122) rfl), rfl⟩, zxci_6, zxcn_6, zxcd_16⟩
theorem zxp42 : plainFor zxm42.1 = true := by decide +kernel
set_option maxRecDepth 20000 in
theorem zxt42 : z_MT[42]? = some zxm42 := rfl
set_option maxRecDepth 20000 in
theorem zxh42 : zk_ok1 lw_tbl zxm42 := ⟨List.mem_filter.mpr ⟨zxin3 _ (List.mem_of_getElem? (i := 125) rfl), rfl⟩, zxci_0, zxcn_0, zxcd_12⟩
theorem zxp43 : plainFor zxm43.1 = true := by decide +kernel
set_option maxRecDepth 20000 in
theorem zxt43 : z_MT[43]? = some zxm43 := rfl
set_option maxRecDepth 20000 in
theorem zxh43 : zk_ok1 lw_tbl zxm43 := ⟨List.mem_filter.mpr ⟨zxin3 _ (List.mem_of_getElem? (i := 129) rfl), rfl⟩, zxci_6, zxcn_6, zxcd_16⟩
theorem zxp44 : plainFor zxm44.1 = true := by decide +kernel
set_option maxRecDepth 20000 in
theorem zxt44 : z_MT[44]? = some zxm44 := rfl
set_option maxRecDepth 20000 in
theorem zxh44 : zk_ok1 lw_tbl zxm44 := ⟨List.mem_filter.mpr ⟨zxin3 _ (List.mem_of_getElem? (i := 133) rfl), rfl⟩, zxci_6, zxcn_6, zxcd_16⟩
theorem zxp45 : plainFor zxm45.1 = true := by decide +kernel
set_option maxRecDepth 20000 in
theorem zxt45 : z_MT[45]? = some zxm45 := rfl
set_option maxRecDepth 20000 in
theorem zxh45 : zk_ok1 lw_tbl zxm45 := ⟨List.mem_filter.mpr ⟨zxin3 _ (List.mem_of_getElem? (i := 137) rfl), rfl⟩, zxci_6, zxcn_6, zxcd_16⟩
theorem zxp46 : plainFor zxm46.1 = true := by decide +kernel
set_option maxRecDepth 20000 in
theorem zxt46 : z_MT[46]? = some zxm46 := rfl
set_option maxRecDepth 20000 in
theorem zxh46 : zk_ok1 lw_tbl zxm46 := ⟨List.mem_filter.mpr ⟨zxin3 _ (List.mem_of_getElem? (i := 141) rfl), rfl⟩, zxci_6, zxcn_6, zxcd_16⟩
theorem zxp47 : plainFor zxm47.1 = true := by decide +kernel
set_option maxRecDepth 20000 in
theorem zxt47 : z_MT[47]? = some zxm47 := rfl
set_option maxRecDepth 20000 in
theorem zxh47 : zk_ok1 lw_tbl zxm47 := ⟨List.mem_filter.mpr ⟨zxin3 _ (List.mem_of_getElem? (i := 144) rfl), rfl⟩, zxci_6, zxcn_6, zxcd_10⟩
theorem zxp48 : plainFor zxm48.1 = true := by decide +kernel
set_option maxRecDepth 20000 in
theorem zxt48 : z_MT[48]? = some zxm48 := rfl
set_option maxRecDepth 20000 in
theorem zxh48 : zk_ok1 lw_tbl zxm48 := ⟨List.mem_filter.mpr ⟨zxin3 _ (List.mem_of_getElem? (i := 148) rfl), rfl⟩, zxci_6, zxcn_6, zxcd_0⟩
theorem zxp49 : plainFor zxm49.1 = true := by decide +kernel
set_option maxRecDepth 20000 in
theorem zxt49 : z_MT[49]? = some zxm49 := rfl
set_option maxRecDepth 20000 in
theorem zxh49 : zk_ok1 lw_tbl zxm49 := ⟨List.mem_filter.mpr ⟨zxin3 _ (List.mem_of_getElem? (i := 152) rfl), rfl⟩, zxci_4, zxcn_4, zxcd_12⟩
theorem zxp50 : plainFor zxm50.1 = true := by decide +kernel
set_option maxRecDepth 20000 in
theorem zxt50 : z_MT[50]? = some zxm50 := rfl
set_option maxRecDepth 20000 in
theorem zxh50 : zk_ok1 lw_tbl zxm50 := ⟨List.mem_filter.mpr ⟨zxin3 _ (List.mem_of_getElem? (i := 157) rfl), rfl⟩, zxci_5, zxcn_5, zxcd_14⟩
theorem zxp51 : plainFor zxm51.1 = true := by decide +kernel
set_option maxRecDepth 20000 in
theorem zxt51 : z_MT[51]? = some zxm51 := rfl
set_option maxRecDepth 20000 in
theorem zxh51 : zk_ok1 lw_tbl zxm51 := ⟨List.mem_filter.mpr ⟨zxin3 _ (List.mem_of_getElem? (i := 161) rfl), rfl⟩, zxci_5, zxcn_5, zxcd_12⟩
theorem zxp52 : plainFor zxm52.1 = true := by decide +kernel
set_option maxRecDepth 20000 in
theorem zxt52 : z_MT[52]? = some zxm52 := rfl
theorem zxcd_18 : (parseMethodDescriptor "()Z").map (fun d => d.parameters.length) = some 0 := by decide +kernel
set_option maxRecDepth 20000 in
theorem zxh52 : zk_ok1 lw_tbl zxm52 := ⟨List.mem_filter.mpr ⟨zxin3 _ (List.mem_of_getElem? (i := 165) rfl), rfl⟩, zxci_5, zxcn_5, zxcd_18⟩
theorem zxp53 : plainFor zxm53.1 = true := by decide +kernel
set_option maxRecDepth 20000 in
theorem zxt53 : z_MT[53]? = some zxm53 := rfl
set_option maxRecDepth 20000 in
theorem zxci_14 : Cond.initialized "java/lang/StringLatin1" ∈ lw_tbl.filter z_gw := List.mem_filter.mpr ⟨List.mem_of_getElem? (i := 130) (by decide +kernel), rfl⟩
theorem zxcn_14 : ("java/lang/StringLatin1" : String) ≠ "java/lang/invoke/MethodHandle" ∧ ("java/lang/StringLatin1" : String) ≠ "java/lang/invoke/VarHandle" := by decide +kernel
theorem zxcd_19 : (parseMethodDescriptor "([BIII)I").map (fun d => d.parameters.length) = some 4 := by decide +kernel
set_option maxRecDepth 20000 in
theorem zxh53 : zk_ok1 lw_tbl zxm53 := ⟨List.mem_filter.mpr ⟨zxin3 _ (List.mem_of_getElem? (i := 169) rfl), rfl⟩, zxci_14, zxcn_14, zxcd_19⟩
theorem zxp54 : plainFor zxm54.1 = true := by decide +kernel
set_option maxRecDepth 20000 in
theorem zxt54 : z_MT[54]? = some zxm54 := rfl
set_option maxRecDepth 20000 in
theorem zxh54 : zk_ok1 lw_tbl zxm54 := ⟨List.mem_filter.mpr ⟨zxin3 _ (List.mem_of_getElem? (i := 172) rfl), rfl⟩, zxci_14, zxcn_14, zxcd_10⟩
theorem zxp55 : plainFor zxm55.1 = true := by decide +kernel
set_option maxRecDepth 20000 in
theorem zxt55 : z_MT[55]? = some zxm55 := rfl
set_option maxRecDepth 20000 in
theorem zxh55 : zk_ok1 lw_tbl zxm55 := ⟨List.mem_filter.mpr ⟨zxin3 _ (List.mem_of_getElem? (i := 175) rfl), rfl⟩, zxci_13, zxcn_13, zxcd_12⟩
theorem zxp56 : plainFor zxm56.1 = true := by decide +kernel
set_option maxRecDepth 20000 in
theorem zxt56 : z_MT[56]? = some zxm56 := rfl
set_option maxRecDepth 20000 in
theorem zxh56 : zk_ok1 lw_tbl zxm56 := ⟨List.mem_filter.mpr ⟨zxin3 _ (List.mem_of_getElem? (i := 179) rfl), rfl⟩, zxci_14, zxcn_14, zxcd_19⟩
theorem zxp57 : plainFor zxm57.1 = true := by decide +kernel
set_option maxRecDepth 20000 in
theorem zxt57 : z_MT[57]? = some zxm57 := rfl
set_option maxRecDepth 20000 in
theorem zxci_15 : Cond.initialized "java/lang/StringUTF16" ∈ lw_tbl.filter z_gw := List.mem_filter.mpr ⟨List.mem_of_getElem? (i := 131) (by decide +kernel), rfl⟩
theorem zxcn_15 : ("java/lang/StringUTF16" : String) ≠ "java/lang/invoke/MethodHandle" ∧ ("java/lang/StringUTF16" : String) ≠ "java/lang/invoke/VarHandle" := by decide +kernel
set_option maxRecDepth 20000 in
theorem zxh57 : zk_ok1 lw_tbl zxm57 := ⟨List.mem_filter.mpr ⟨zxin3 _ (List.mem_of_getElem? (i := 182) rfl), rfl⟩, zxci_15, zxcn_15, zxcd_19⟩
theorem zxp58 : plainFor zxm58.1 = true := by decide +kernel
set_option maxRecDepth 20000 in
theorem zxt58 : z_MT[58]? = some zxm58 := rfl
set_option maxRecDepth 20000 in
theorem zxh58 : zk_ok1 lw_tbl zxm58 := ⟨List.mem_filter.mpr ⟨zxin3 _ (List.mem_of_getElem? (i := 188) rfl), rfl⟩, zxci_15, zxcn_15, zxcd_19⟩
theorem zxp59 : plainFor zxm59.1 = true := by decide +kernel
set_option maxRecDepth 20000 in
theorem zxt59 : z_MT[59]? = some zxm59 := rfl
theorem zxcd_20 : (parseMethodDescriptor "(II[B)V").map (fun d => d.parameters.length) = some 3 := by decide +kernel
set_option maxRecDepth 20000 in
theorem zxh59 : zk_ok1 lw_tbl zxm59 := ⟨List.mem_filter.mpr ⟨zxin3 _ (List.mem_of_getElem? (i := 191) rfl), rfl⟩, zxci_15, zxcn_15, zxcd_20⟩
theorem zxp60 : plainFor zxm60.1 = true := by decide +kernel
set_option maxRecDepth 20000 in
theorem zxt60 : z_MT[60]? = some zxm60 := rfl
theorem zxcd_21 : (parseMethodDescriptor "([B)I").map (fun d => d.parameters.length) = some 1 := by decide +kernel
set_option maxRecDepth 20000 in
theorem zxh60 : zk_ok1 lw_tbl zxm60 := ⟨List.mem_filter.mpr ⟨zxin3 _ (List.mem_of_getElem? (i := 194) rfl), rfl⟩, zxci_15, zxcn_15, zxcd_21⟩
theorem zxp61 : plainFor zxm61.1 = true := by decide +kernel
set_option maxRecDepth 20000 in
theorem zxt61 : z_MT[61]? = some zxm61 := rfl
theorem zxcd_22 : (parseMethodDescriptor "(III)V").map (fun d => d.parameters.length) = some 3 := by decide +kernel
set_option maxRecDepth 20000 in
theorem zxh61 : zk_ok1 lw_tbl zxm61 := ⟨List.mem_filter.mpr ⟨zxin3 _ (List.mem_of_getElem? (i := 197) rfl), rfl⟩, zxci_5, zxcn_5, zxcd_22⟩
theorem zxp62 : plainFor zxm62.1 = true := by decide +kernel
set_option maxRecDepth 20000 in
theorem zxt62 : z_MT[62]? = some zxm62 := rfl
set_option maxRecDepth 20000 in
theorem zxci_16 : Cond.initialized "jdk/internal/util/Preconditions" ∈ lw_tbl.filter z_gw := List.mem_filter.mpr ⟨List.mem_of_getElem? (i := 132) (by decide +kernel), rfl⟩
theorem zxcn_16 : ("jdk/internal/util/Preconditions" : String) ≠ "java/lang/invoke/MethodHandle" ∧ ("jdk/internal/util/Preconditions" : String) ≠ "java/lang/invoke/VarHandle" := by decide +kernel
theorem zxcd_23 : (parseMethodDescriptor "(IIILjava/util/function/BiFunction;)I").map (fun d => d.parameters.length) = some 4 := by decide +kernel
set_option maxRecDepth 20000 in
theorem zxh62 : zk_ok1 lw_tbl zxm62 := ⟨List.mem_filter.mpr ⟨zxin3 _ (List.mem_of_getElem? (i := 202) rfl), rfl⟩, zxci_16, zxcn_16, zxcd_23⟩
theorem zxp63 : plainFor zxm63.1 = true := by decide +kernel
set_option maxRecDepth 20000 in
theorem zxt63 : z_MT[63]? = some zxm63 := rfl
set_option maxRecDepth 20000 in
theorem zxh63 : zk_ok1 lw_tbl zxm63 := ⟨List.mem_filter.mpr ⟨zxin3 _ (List.mem_of_getElem? (i := 205) rfl), rfl⟩, zxci_15, zxcn_15, zxcd_19⟩
theorem zxp64 : plainFor zxm64.1 = true := by decide +kernel
set_option maxRecDepth 20000 in
theorem zxt64 : z_MT[64]? = some zxm64 := rfl
theorem zxcd_24 : (parseMethodDescriptor "([BI)C").map (fun d => d.parameters.length) = some 2 := by decide +kernel
set_option maxRecDepth 20000 in
theorem zxh64 : zk_ok1 lw_tbl zxm64 := ⟨List.mem_filter.mpr ⟨zxin3 _ (List.mem_of_getElem? (i := 208) rfl), rfl⟩, zxci_15, zxcn_15, zxcd_24⟩
theorem zxp65 : plainFor zxm65.1 = true := by decide +kernel
set_option maxRecDepth 20000 in
theorem zxt65 : z_MT[65]? = some zxm65 := rfl
set_option maxRecDepth 20000 in
theorem zxh65 : zk_ok1 lw_tbl zxm65 := ⟨List.mem_filter.mpr ⟨zxin3 _ (List.mem_of_getElem? (i := 217) rfl), rfl⟩, zxci_15, zxcn_15, zxcd_19⟩
theorem zxp66 : plainFor zxm66.1 = true := by decide +kernel
set_option maxRecDepth 20000 in
theorem zxt66 : z_MT[66]? = some zxm66 := rfl
set_option maxRecDepth 20000 in
theorem zxci_17 : Cond.initialized "java/lang/Character" ∈ lw_tbl.filter z_gw := List.mem_filter.mpr ⟨List.mem_of_getElem? (i := 133) (by decide +kernel), rfl⟩
theorem zxcn_17 : ("java/lang/Character" : String) ≠ "java/lang/invoke/MethodHandle" ∧ ("java/lang/Character" : String) ≠ "java/lang/invoke/VarHandle" := by decide +kernel
set_option maxRecDepth 20000 in
theorem zxh66 : zk_ok1 lw_tbl zxm66 := ⟨List.mem_filter.mpr ⟨zxin3 _ (List.mem_of_getElem? (i := 220) rfl), rfl⟩, zxci_17, zxcn_17, zxcd_10⟩
theorem zxp67 : plainFor zxm67.1 = true := by decide +kernel
set_option maxRecDepth 20000 in
theorem zxt67 : z_MT[67]? = some zxm67 := rfl
theorem zxcd_25 : (parseMethodDescriptor "(I)C").map (fun d => d.parameters.length) = some 1 := by decide +kernel
set_option maxRecDepth 20000 in
theorem zxh67 : zk_ok1 lw_tbl zxm67 := ⟨List.mem_filter.mpr ⟨zxin3 _ (List.mem_of_getElem? (i := 223) rfl), rfl⟩, zxci_17, zxcn_17, zxcd_25⟩
theorem zxp68 : plainFor zxm68.1 = true := by decide +kernel
set_option maxRecDepth 20000 in
theorem zxt68 : z_MT[68]? = some zxm68 := rfl
set_option maxRecDepth 20000 in
theorem zxh68 : zk_ok1 lw_tbl zxm68 := ⟨List.mem_filter.mpr ⟨zxin3 _ (List.mem_of_getElem? (i := 227) rfl), rfl⟩, zxci_17, zxcn_17, zxcd_25⟩
theorem zxp69 : plainFor zxm69.1 = true := by decide +kernel
set_option maxRecDepth 20000 in
theorem zxt69 : z_MT[69]? = some zxm69 := rfl
set_option maxRecDepth 20000 in
theorem zxh69 : zk_ok1 lw_tbl zxm69 := ⟨List.mem_filter.mpr ⟨zxin3 _ (List.mem_of_getElem? (i := 232) rfl), rfl⟩, zxci_6, zxcn_6, zxcd_16⟩
theorem zxp70 : plainFor zxm70.1 = true := by decide +kernel
set_option maxRecDepth 20000 in
theorem zxt70 : z_MT[70]? = some zxm70 := rfl
set_option maxRecDepth 20000 in
theorem zxh70 : zk_ok1 lw_tbl zxm70 := ⟨List.mem_filter.mpr ⟨zxin3 _ (List.mem_of_getElem? (i := 236) rfl), rfl⟩, zxci_6, zxcn_6, zxcd_16⟩
theorem zxp71 : plainFor zxm71.1 = true := by decide +kernel
set_option maxRecDepth 20000 in
theorem zxt71 : z_MT[71]? = some zxm71 := rfl
set_option maxRecDepth 20000 in
theorem zxh71 : zk_ok1 lw_tbl zxm71 := ⟨List.mem_filter.mpr ⟨zxin4 _ (List.mem_of_getElem? (i := 0) rfl), rfl⟩, zxci_6, zxcn_6, zxcd_16⟩
theorem zxp72 : plainFor zxm72.1 = true := by decide +kernel
set_option maxRecDepth 20000 in
theorem zxt72 : z_MT[72]? = some zxm72 := rfl
set_option maxRecDepth 20000 in
theorem zxh72 : zk_ok1 lw_tbl zxm72 := ⟨List.mem_filter.mpr ⟨zxin4 _ (List.mem_of_getElem? (i := 4) rfl), rfl⟩, zxci_6, zxcn_6, zxcd_16⟩
theorem zxp73 : plainFor zxm73.1 = true := by decide +kernel
set_option maxRecDepth 20000 in
theorem zxt73 : z_MT[73]? = some zxm73 := rfl
set_option maxRecDepth 20000 in
theorem zxh73 : zk_ok1 lw_tbl zxm73 := ⟨List.mem_filter.mpr ⟨zxin4 _ (List.mem_of_getElem? (i := 8) rfl), rfl⟩, zxci_4, zxcn_4, zxcd_16⟩
theorem zxp74 : plainFor zxm74.1 = true := by decide +kernel
set_option maxRecDepth 20000 in
theorem zxt74 : z_MT[74]? = some zxm74 := rfl
set_option maxRecDepth 20000 in
theorem zxh74 : zk_ok1 lw_tbl zxm74 := ⟨List.mem_filter.mpr ⟨zxin4 _ (List.mem_of_getElem? (i := 12) rfl), rfl⟩, zxci_4, zxcn_4, zxcd_22⟩
theorem zxp75 : plainFor zxm75.1 = true := by decide +kernel
set_option maxRecDepth 20000 in
theorem zxt75 : z_MT[75]? = some zxm75 := rfl
set_option maxRecDepth 20000 in
theorem zxh75 : zk_ok1 lw_tbl zxm75 := ⟨List.mem_filter.mpr ⟨zxin4 _ (List.mem_of_getElem? (i := 16) rfl), rfl⟩, zxci_4, zxcn_4, zxcd_9⟩
theorem zxp76 : plainFor zxm76.1 = true := by decide +kernel
set_option maxRecDepth 20000 in
theorem zxt76 : z_MT[76]? = some zxm76 := rfl
set_option maxRecDepth 20000 in
theorem zxh76 : zk_ok1 lw_tbl zxm76 := ⟨List.mem_filter.mpr ⟨zxin4 _ (List.mem_of_getElem? (i := 20) rfl), rfl⟩, zxci_0, zxcn_0, zxcd_14⟩
theorem zxp77 : plainFor zxm77.1 = true := by decide +kernel
set_option maxRecDepth 20000 in
theorem zxt77 : z_MT[77]? = some zxm77 := rfl
theorem zxcd_26 : (parseMethodDescriptor "([II)I").map (fun d => d.parameters.length) = some 2 := by decide +kernel
set_option maxRecDepth 20000 in
theorem zxh77 : zk_ok1 lw_tbl zxm77 := ⟨List.mem_filter.mpr ⟨zxin4 _ (List.mem_of_getElem? (i := 24) rfl), rfl⟩, zxci_7, zxcn_7, zxcd_26⟩
theorem zxp78 : plainFor zxm78.1 = true := by decide +kernel
set_option maxRecDepth 20000 in
theorem zxt78 : z_MT[78]? = some zxm78 := rfl
set_option maxRecDepth 20000 in
theorem zxci_18 : Cond.initialized "java/util/Arrays" ∈ lw_tbl.filter z_gw := List.mem_filter.mpr ⟨List.mem_of_getElem? (i := 134) (by decide +kernel), rfl⟩
theorem zxcn_18 : ("java/util/Arrays" : String) ≠ "java/lang/invoke/MethodHandle" ∧ ("java/util/Arrays" : String) ≠ "java/lang/invoke/VarHandle" := by decide +kernel
theorem zxcd_27 : (parseMethodDescriptor "([II)V").map (fun d => d.parameters.length) = some 2 := by decide +kernel
set_option maxRecDepth 20000 in
theorem zxh78 : zk_ok1 lw_tbl zxm78 := ⟨List.mem_filter.mpr ⟨zxin4 _ (List.mem_of_getElem? (i := 27) rfl), rfl⟩, zxci_18, zxcn_18, zxcd_27⟩
theorem zxp79 : plainFor zxm79.1 = true := by decide +kernel
set_option maxRecDepth 20000 in
theorem zxt79 : z_MT[79]? = some zxm79 := rfl
theorem zxcd_28 : (parseMethodDescriptor "([III)I").map (fun d => d.parameters.length) = some 3 := by decide +kernel
set_option maxRecDepth 20000 in
theorem zxh79 : zk_ok1 lw_tbl zxm79 := ⟨List.mem_filter.mpr ⟨zxin4 _ (List.mem_of_getElem? (i := 30) rfl), rfl⟩, zxci_7, zxcn_7, zxcd_28⟩
theorem zxp80 : plainFor zxm80.1 = true := by decide +kernel
set_option maxRecDepth 20000 in
theorem zxt80 : z_MT[80]? = some zxm80 := rfl
theorem zxcd_29 : (parseMethodDescriptor "(II)V").map (fun d => d.parameters.length) = some 2 := by decide +kernel
set_option maxRecDepth 20000 in
theorem zxh80 : zk_ok1 lw_tbl zxm80 := ⟨List.mem_filter.mpr ⟨zxin4 _ (List.mem_of_getElem? (i := 35) rfl), rfl⟩, zxci_7, zxcn_7, zxcd_29⟩
theorem zxp81 : plainFor zxm81.1 = true := by decide +kernel
set_option maxRecDepth 20000 in
theorem zxt81 : z_MT[81]? = some zxm81 := rfl
set_option maxRecDepth 20000 in
theorem zxh81 : zk_ok1 lw_tbl zxm81 := ⟨List.mem_filter.mpr ⟨zxin4 _ (List.mem_of_getElem? (i := 39) rfl), rfl⟩, zxci_0, zxcn_0, zxcd_12⟩
theorem zxp82 : plainFor zxm82.1 = true := by decide +kernel
set_option maxRecDepth 20000 in
theorem zxt82 : z_MT[82]? = some zxm82 := rfl
set_option maxRecDepth 20000 in
theorem zxh82 : zk_ok1 lw_tbl zxm82 := ⟨List.mem_filter.mpr ⟨zxin4 _ (List.mem_of_getElem? (i := 43) rfl), rfl⟩, zxci_1, zxcn_1, zxcd_14⟩
theorem zxp83 : plainFor zxm83.1 = true := by decide +kernel
set_option maxRecDepth 20000 in
theorem zxt83 : z_MT[83]? = some zxm83 := rfl
set_option maxRecDepth 20000 in
theorem zxh83 : zk_ok1 lw_tbl zxm83 := ⟨List.mem_filter.mpr ⟨zxin4 _ (List.mem_of_getElem? (i := 47) rfl), rfl⟩, zxci_0, zxcn_0, zxcd_12⟩
theorem zxp84 : plainFor zxm84.1 = true := by decide +kernel
set_option maxRecDepth 20000 in
theorem zxt84 : z_MT[84]? = some zxm84 := rfl
set_option maxRecDepth 20000 in
theorem zxh84 : zk_ok1 lw_tbl zxm84 := ⟨List.mem_filter.mpr ⟨zxin4 _ (List.mem_of_getElem? (i := 51) rfl), rfl⟩, zxci_8, zxcn_8, zxcd_4⟩
theorem zxp85 : plainFor zxm85.1 = true := by decide +kernel
set_option maxRecDepth 20000 in
theorem zxt85 : z_MT[85]? = some zxm85 := rfl
set_option maxRecDepth 20000 in
theorem zxh85 : zk_ok1 lw_tbl zxm85 := ⟨List.mem_filter.mpr ⟨zxin4 _ (List.mem_of_getElem? (i := 56) rfl), rfl⟩, zxci_8, zxcn_8, zxcd_29⟩
theorem zxp86 : plainFor zxm86.1 = true := by decide +kernel
set_option maxRecDepth 20000 in
theorem zxt86 : z_MT[86]? = some zxm86 := rfl
set_option maxRecDepth 20000 in
theorem zxh86 : zk_ok1 lw_tbl zxm86 := ⟨List.mem_filter.mpr ⟨zxin4 _ (List.mem_of_getElem? (i := 60) rfl), rfl⟩, zxci_8, zxcn_8, zxcd_29⟩
theorem zxp87 : plainFor zxm87.1 = true := by decide +kernel
set_option maxRecDepth 20000 in
theorem zxt87 : z_MT[87]? = some zxm87 := rfl
set_option maxRecDepth 20000 in
theorem zxh87 : zk_ok1 lw_tbl zxm87 := ⟨List.mem_filter.mpr ⟨zxin4 _ (List.mem_of_getElem? (i := 64) rfl), rfl⟩, zxci_4, zxcn_4, zxcd_0⟩
theorem zxp88 : plainFor zxm88.1 = true := by decide +kernel
set_option maxRecDepth 20000 in
theorem zxt88 : z_MT[88]? = some zxm88 := rfl
set_option maxRecDepth 20000 in
theorem zxh88 : zk_ok1 lw_tbl zxm88 := ⟨List.mem_filter.mpr ⟨zxin4 _ (List.mem_of_getElem? (i := 69) rfl), rfl⟩, zxci_4, zxcn_4, zxcd_6⟩
theorem zxp89 : plainFor zxm89.1 = true := by decide +kernel
set_option maxRecDepth 20000 in
theorem zxt89 : z_MT[89]? = some zxm89 := rfl
set_option maxRecDepth 20000 in
theorem zxh89 : zk_ok1 lw_tbl zxm89 := ⟨List.mem_filter.mpr ⟨zxin4 _ (List.mem_of_getElem? (i := 73) rfl), rfl⟩, zxci_8, zxcn_8, zxcd_10⟩
theorem zxp90 : plainFor zxm90.1 = true := by decide +kernel
set_option maxRecDepth 20000 in
theorem zxt90 : z_MT[90]? = some zxm90 := rfl
set_option maxRecDepth 20000 in
theorem zxh90 : zk_ok1 lw_tbl zxm90 := ⟨List.mem_filter.mpr ⟨zxin4 _ (List.mem_of_getElem? (i := 78) rfl), rfl⟩, zxci_0, zxcn_0, zxcd_12⟩
theorem zxp91 : plainFor zxm91.1 = true := by decide +kernel
set_option maxRecDepth 20000 in
theorem zxt91 : z_MT[91]? = some zxm91 := rfl
set_option maxRecDepth 20000 in
theorem zxh91 : zk_ok1 lw_tbl zxm91 := ⟨List.mem_filter.mpr ⟨zxin4 _ (List.mem_of_getElem? (i := 81) rfl), rfl⟩, zxci_13, zxcn_13, zxcd_14⟩
theorem zxp92 : plainFor zxm92.1 = true := by decide +kernel
set_option maxRecDepth 20000 in
theorem zxt92 : z_MT[92]? = some zxm92 := rfl
theorem zxcd_30 : (parseMethodDescriptor "(LStarTales$Sky;I)V").map (fun d => d.parameters.length) = some 2 := by decide +kernel
set_option maxRecDepth 20000 in
theorem zxh92 : zk_ok1 lw_tbl zxm92 := ⟨List.mem_filter.mpr ⟨zxin4 _ (List.mem_of_getElem? (i := 87) rfl), rfl⟩, zxci_4, zxcn_4, zxcd_30⟩
theorem zxp93 : plainFor zxm93.1 = true := by decide +kernel
set_option maxRecDepth 20000 in
theorem zxt93 : z_MT[93]? = some zxm93 := rfl
set_option maxRecDepth 20000 in
theorem zxh93 : zk_ok1 lw_tbl zxm93 := ⟨List.mem_filter.mpr ⟨zxin4 _ (List.mem_of_getElem? (i := 92) rfl), rfl⟩, zxci_4, zxcn_4, zxcd_10⟩
theorem zxp94 : plainFor zxm94.1 = true := by decide +kernel
set_option maxRecDepth 20000 in
theorem zxt94 : z_MT[94]? = some zxm94 := rfl
set_option maxRecDepth 20000 in
theorem zxh94 : zk_ok1 lw_tbl zxm94 := ⟨List.mem_filter.mpr ⟨zxin4 _ (List.mem_of_getElem? (i := 96) rfl), rfl⟩, zxci_4, zxcn_4, zxcd_9⟩
theorem zxp95 : plainFor zxm95.1 = true := by decide +kernel
set_option maxRecDepth 20000 in
theorem zxt95 : z_MT[95]? = some zxm95 := rfl
theorem zxcd_31 : (parseMethodDescriptor "(IIII)I").map (fun d => d.parameters.length) = some 4 := by decide +kernel
set_option maxRecDepth 20000 in
theorem zxh95 : zk_ok1 lw_tbl zxm95 := ⟨List.mem_filter.mpr ⟨zxin4 _ (List.mem_of_getElem? (i := 101) rfl), rfl⟩, zxci_0, zxcn_0, zxcd_31⟩
theorem zxp96 : plainFor zxm96.1 = true := by decide +kernel
set_option maxRecDepth 20000 in
theorem zxt96 : z_MT[96]? = some zxm96 := rfl
theorem zxcd_32 : (parseMethodDescriptor "(LStarTales$View;II)V").map (fun d => d.parameters.length) = some 3 := by decide +kernel
set_option maxRecDepth 20000 in
theorem zxh96 : zk_ok1 lw_tbl zxm96 := ⟨List.mem_filter.mpr ⟨zxin4 _ (List.mem_of_getElem? (i := 105) rfl), rfl⟩, zxci_0, zxcn_0, zxcd_32⟩
theorem zxp97 : plainFor zxm97.1 = true := by decide +kernel
set_option maxRecDepth 20000 in
theorem zxt97 : z_MT[97]? = some zxm97 := rfl
set_option maxRecDepth 20000 in
theorem zxh97 : zk_ok1 lw_tbl zxm97 := ⟨List.mem_filter.mpr ⟨zxin4 _ (List.mem_of_getElem? (i := 109) rfl), rfl⟩, zxci_8, zxcn_8, zxcd_0⟩
theorem zxp98 : plainFor zxm98.1 = true := by decide +kernel
set_option maxRecDepth 20000 in
theorem zxt98 : z_MT[98]? = some zxm98 := rfl
set_option maxRecDepth 20000 in
theorem zxh98 : zk_ok1 lw_tbl zxm98 := ⟨List.mem_filter.mpr ⟨zxin4 _ (List.mem_of_getElem? (i := 113) rfl), rfl⟩, zxci_8, zxcn_8, zxcd_9⟩
theorem zxp99 : plainFor zxm99.1 = true := by decide +kernel
set_option maxRecDepth 20000 in
theorem zxt99 : z_MT[99]? = some zxm99 := rfl
set_option maxRecDepth 20000 in
theorem zxh99 : zk_ok1 lw_tbl zxm99 := ⟨List.mem_filter.mpr ⟨zxin4 _ (List.mem_of_getElem? (i := 117) rfl), rfl⟩, zxci_4, zxcn_4, zxcd_30⟩
theorem zxp100 : plainFor zxm100.1 = true := by decide +kernel
set_option maxRecDepth 20000 in
theorem zxt100 : z_MT[100]? = some zxm100 := rfl
theorem zxcd_33 : (parseMethodDescriptor "(III)I").map (fun d => d.parameters.length) = some 3 := by decide +kernel
set_option maxRecDepth 20000 in
theorem zxh100 : zk_ok1 lw_tbl zxm100 := ⟨List.mem_filter.mpr ⟨zxin4 _ (List.mem_of_getElem? (i := 121) rfl), rfl⟩, zxci_0, zxcn_0, zxcd_33⟩
theorem zxp101 : plainFor zxm101.1 = true := by decide +kernel
set_option maxRecDepth 20000 in
theorem zxt101 : z_MT[101]? = some zxm101 := rfl
set_option maxRecDepth 20000 in
theorem zxh101 : zk_ok1 lw_tbl zxm101 := ⟨List.mem_filter.mpr ⟨zxin4 _ (List.mem_of_getElem? (i := 125) rfl), rfl⟩, zxci_8, zxcn_8, zxcd_1⟩
theorem zxp102 : plainFor zxm102.1 = true := by decide +kernel
set_option maxRecDepth 20000 in
theorem zxt102 : z_MT[102]? = some zxm102 := rfl
set_option maxRecDepth 20000 in
theorem zxci_19 : Cond.initialized "java/lang/Integer" ∈ lw_tbl.filter z_gw := List.mem_filter.mpr ⟨List.mem_of_getElem? (i := 135) (by decide +kernel), rfl⟩
theorem zxcn_19 : ("java/lang/Integer" : String) ≠ "java/lang/invoke/MethodHandle" ∧ ("java/lang/Integer" : String) ≠ "java/lang/invoke/VarHandle" := by decide +kernel
set_option maxRecDepth 20000 in
theorem zxh102 : zk_ok1 lw_tbl zxm102 := ⟨List.mem_filter.mpr ⟨zxin4 _ (List.mem_of_getElem? (i := 128) rfl), rfl⟩, zxci_19, zxcn_19, zxcd_14⟩
theorem zxp103 : plainFor zxm103.1 = true := by decide +kernel
set_option maxRecDepth 20000 in
theorem zxt103 : z_MT[103]? = some zxm103 := rfl
set_option maxRecDepth 20000 in
theorem zxh103 : zk_ok1 lw_tbl zxm103 := ⟨List.mem_filter.mpr ⟨zxin4 _ (List.mem_of_getElem? (i := 135) rfl), rfl⟩, zxci_8, zxcn_8, zxcd_1⟩
theorem zxp104 : plainFor zxm104.1 = true := by decide +kernel
set_option maxRecDepth 20000 in
theorem zxt104 : z_MT[104]? = some zxm104 := rfl
set_option maxRecDepth 20000 in
theorem zxh104 : zk_ok1 lw_tbl zxm104 := ⟨List.mem_filter.mpr ⟨zxin4 _ (List.mem_of_getElem? (i := 139) rfl), rfl⟩, zxci_8, zxcn_8, zxcd_33⟩
theorem zxp105 : plainFor zxm105.1 = true := by decide +kernel
set_option maxRecDepth 20000 in
theorem zxt105 : z_MT[105]? = some zxm105 := rfl
set_option maxRecDepth 20000 in
theorem zxh105 : zk_ok1 lw_tbl zxm105 := ⟨List.mem_filter.mpr ⟨zxin4 _ (List.mem_of_getElem? (i := 142) rfl), rfl⟩, zxci_0, zxcn_0, zxcd_14⟩
theorem zxp106 : plainFor zxm106.1 = true := by decide +kernel
set_option maxRecDepth 20000 in
theorem zxt106 : z_MT[106]? = some zxm106 := rfl
set_option maxRecDepth 20000 in
theorem zxh106 : zk_ok1 lw_tbl zxm106 := ⟨List.mem_filter.mpr ⟨zxin4 _ (List.mem_of_getElem? (i := 147) rfl), rfl⟩, zxci_8, zxcn_8, zxcd_1⟩
theorem zxp107 : plainFor zxm107.1 = true := by decide +kernel
set_option maxRecDepth 20000 in
theorem zxt107 : z_MT[107]? = some zxm107 := rfl
set_option maxRecDepth 20000 in
theorem zxh107 : zk_ok1 lw_tbl zxm107 := ⟨List.mem_filter.mpr ⟨zxin4 _ (List.mem_of_getElem? (i := 152) rfl), rfl⟩, zxci_8, zxcn_8, zxcd_1⟩
theorem zxp108 : plainFor zxm108.1 = true := by decide +kernel
set_option maxRecDepth 20000 in
theorem zxt108 : z_MT[108]? = some zxm108 := rfl
set_option maxRecDepth 20000 in
theorem zxh108 : zk_ok1 lw_tbl zxm108 := ⟨List.mem_filter.mpr ⟨zxin4 _ (List.mem_of_getElem? (i := 156) rfl), rfl⟩, zxci_8, zxcn_8, zxcd_1⟩
theorem zxp109 : plainFor zxm109.1 = true := by decide +kernel
set_option maxRecDepth 20000 in
theorem zxt109 : z_MT[109]? = some zxm109 := rfl
set_option maxRecDepth 20000 in
theorem zxh109 : zk_ok1 lw_tbl zxm109 := ⟨List.mem_filter.mpr ⟨zxin4 _ (List.mem_of_getElem? (i := 160) rfl), rfl⟩, zxci_8, zxcn_8, zxcd_14⟩
theorem zxp110 : plainFor zxm110.1 = true := by decide +kernel
set_option maxRecDepth 20000 in
theorem zxt110 : z_MT[110]? = some zxm110 := rfl
set_option maxRecDepth 20000 in
theorem zxh110 : zk_ok1 lw_tbl zxm110 := ⟨List.mem_filter.mpr ⟨zxin4 _ (List.mem_of_getElem? (i := 165) rfl), rfl⟩, zxci_0, zxcn_0, zxcd_33⟩
theorem zxp111 : plainFor zxm111.1 = true := by decide +kernel
set_option maxRecDepth 20000 in
theorem zxt111 : z_MT[111]? = some zxm111 := rfl
set_option maxRecDepth 20000 in
theorem zxh111 : zk_ok1 lw_tbl zxm111 := ⟨List.mem_filter.mpr ⟨zxin4 _ (List.mem_of_getElem? (i := 170) rfl), rfl⟩, zxci_0, zxcn_0, zxcd_33⟩
theorem zxp112 : plainFor zxm112.1 = true := by decide +kernel
set_option maxRecDepth 20000 in
theorem zxt112 : z_MT[112]? = some zxm112 := rfl
theorem zxcd_34 : (parseMethodDescriptor "(LStarTales$Tale;I[II)I").map (fun d => d.parameters.length) = some 4 := by decide +kernel
set_option maxRecDepth 20000 in
theorem zxh112 : zk_ok1 lw_tbl zxm112 := ⟨List.mem_filter.mpr ⟨zxin4 _ (List.mem_of_getElem? (i := 174) rfl), rfl⟩, zxci_9, zxcn_9, zxcd_34⟩
theorem zxp113 : plainFor zxm113.1 = true := by decide +kernel
set_option maxRecDepth 20000 in
theorem zxt113 : z_MT[113]? = some zxm113 := rfl
theorem zxcd_35 : (parseMethodDescriptor "(LStarTales$Tale;I[I)V").map (fun d => d.parameters.length) = some 3 := by decide +kernel
set_option maxRecDepth 20000 in
theorem zxh113 : zk_ok1 lw_tbl zxm113 := ⟨List.mem_filter.mpr ⟨zxin4 _ (List.mem_of_getElem? (i := 178) rfl), rfl⟩, zxci_9, zxcn_9, zxcd_35⟩
theorem zxp114 : plainFor zxm114.1 = true := by decide +kernel
set_option maxRecDepth 20000 in
theorem zxt114 : z_MT[114]? = some zxm114 := rfl
set_option maxRecDepth 20000 in
theorem zxh114 : zk_ok1 lw_tbl zxm114 := ⟨List.mem_filter.mpr ⟨zxin4 _ (List.mem_of_getElem? (i := 183) rfl), rfl⟩, zxci_9, zxcn_9, zxcd_12⟩
theorem zxp115 : plainFor zxm115.1 = true := by decide +kernel
set_option maxRecDepth 20000 in
theorem zxt115 : z_MT[115]? = some zxm115 := rfl
set_option maxRecDepth 20000 in
theorem zxh115 : zk_ok1 lw_tbl zxm115 := ⟨List.mem_filter.mpr ⟨zxin4 _ (List.mem_of_getElem? (i := 187) rfl), rfl⟩, zxci_9, zxcn_9, zxcd_33⟩
theorem zxp116 : plainFor zxm116.1 = true := by decide +kernel
set_option maxRecDepth 20000 in
theorem zxt116 : z_MT[116]? = some zxm116 := rfl
set_option maxRecDepth 20000 in
theorem zxh116 : zk_ok1 lw_tbl zxm116 := ⟨List.mem_filter.mpr ⟨zxin4 _ (List.mem_of_getElem? (i := 191) rfl), rfl⟩, zxci_9, zxcn_9, zxcd_12⟩
theorem zxp117 : plainFor zxm117.1 = true := by decide +kernel
set_option maxRecDepth 20000 in
theorem zxt117 : z_MT[117]? = some zxm117 := rfl
set_option maxRecDepth 20000 in
theorem zxh117 : zk_ok1 lw_tbl zxm117 := ⟨List.mem_filter.mpr ⟨zxin4 _ (List.mem_of_getElem? (i := 195) rfl), rfl⟩, zxci_9, zxcn_9, zxcd_7⟩
theorem zxp118 : plainFor zxm118.1 = true := by decide +kernel
set_option maxRecDepth 20000 in
theorem zxt118 : z_MT[118]? = some zxm118 := rfl
set_option maxRecDepth 20000 in
theorem zxh118 : zk_ok1 lw_tbl zxm118 := ⟨List.mem_filter.mpr ⟨zxin4 _ (List.mem_of_getElem? (i := 199) rfl), rfl⟩, zxci_9, zxcn_9, zxcd_9⟩
theorem zxp119 : plainFor zxm119.1 = true := by decide +kernel
set_option maxRecDepth 20000 in
theorem zxt119 : z_MT[119]? = some zxm119 := rfl
set_option maxRecDepth 20000 in
theorem zxh119 : zk_ok1 lw_tbl zxm119 := ⟨List.mem_filter.mpr ⟨zxin4 _ (List.mem_of_getElem? (i := 203) rfl), rfl⟩, zxci_9, zxcn_9, zxcd_14⟩
theorem zxp120 : plainFor zxm120.1 = true := by decide +kernel
set_option maxRecDepth 20000 in
theorem zxt120 : z_MT[120]? = some zxm120 := rfl
theorem zxcd_36 : (parseMethodDescriptor "(LStarTales$Tale;I[I)Z").map (fun d => d.parameters.length) = some 3 := by decide +kernel
set_option maxRecDepth 20000 in
theorem zxh120 : zk_ok1 lw_tbl zxm120 := ⟨List.mem_filter.mpr ⟨zxin4 _ (List.mem_of_getElem? (i := 208) rfl), rfl⟩, zxci_9, zxcn_9, zxcd_36⟩
theorem zxp121 : plainFor zxm121.1 = true := by decide +kernel
set_option maxRecDepth 20000 in
theorem zxt121 : z_MT[121]? = some zxm121 := rfl
set_option maxRecDepth 20000 in
theorem zxh121 : zk_ok1 lw_tbl zxm121 := ⟨List.mem_filter.mpr ⟨zxin4 _ (List.mem_of_getElem? (i := 212) rfl), rfl⟩, zxci_9, zxcn_9, zxcd_10⟩
theorem zxp122 : plainFor zxm122.1 = true := by decide +kernel
set_option maxRecDepth 20000 in
theorem zxt122 : z_MT[122]? = some zxm122 := rfl
set_option maxRecDepth 20000 in
theorem zxh122 : zk_ok1 lw_tbl zxm122 := ⟨List.mem_filter.mpr ⟨zxin4 _ (List.mem_of_getElem? (i := 216) rfl), rfl⟩, zxci_0, zxcn_0, zxcd_14⟩
theorem zxp123 : plainFor zxm123.1 = true := by decide +kernel
set_option maxRecDepth 20000 in
theorem zxt123 : z_MT[123]? = some zxm123 := rfl
set_option maxRecDepth 20000 in
theorem zxh123 : zk_ok1 lw_tbl zxm123 := ⟨List.mem_filter.mpr ⟨zxin4 _ (List.mem_of_getElem? (i := 220) rfl), rfl⟩, zxci_0, zxcn_0, zxcd_10⟩
theorem zxp124 : plainFor zxm124.1 = true := by decide +kernel
set_option maxRecDepth 20000 in
theorem zxt124 : z_MT[124]? = some zxm124 := rfl
set_option maxRecDepth 20000 in
theorem zxh124 : zk_ok1 lw_tbl zxm124 := ⟨List.mem_filter.mpr ⟨zxin4 _ (List.mem_of_getElem? (i := 226) rfl), rfl⟩, zxci_0, zxcn_0, zxcd_12⟩
theorem zxp125 : plainFor zxm125.1 = true := by decide +kernel
set_option maxRecDepth 20000 in
theorem zxt125 : z_MT[125]? = some zxm125 := rfl
set_option maxRecDepth 20000 in
theorem zxh125 : zk_ok1 lw_tbl zxm125 := ⟨List.mem_filter.mpr ⟨zxin4 _ (List.mem_of_getElem? (i := 230) rfl), rfl⟩, zxci_1, zxcn_1, zxcd_6⟩
theorem zxp126 : plainFor zxm126.1 = true := by decide +kernel
set_option maxRecDepth 20000 in
theorem zxt126 : z_MT[126]? = some zxm126 := rfl
set_option maxRecDepth 20000 in
theorem zxh126 : zk_ok1 lw_tbl zxm126 := ⟨List.mem_filter.mpr ⟨zxin4 _ (List.mem_of_getElem? (i := 237) rfl), rfl⟩, zxci_0, zxcn_0, zxcd_14⟩
theorem zxp127 : plainFor zxm127.1 = true := by decide +kernel
set_option maxRecDepth 20000 in
theorem zxt127 : z_MT[127]? = some zxm127 := rfl
theorem zxcd_37 : (parseMethodDescriptor "(LStarTales$View;)V").map (fun d => d.parameters.length) = some 1 := by decide +kernel
set_option maxRecDepth 20000 in
theorem zxh127 : zk_ok1 lw_tbl zxm127 := ⟨List.mem_filter.mpr ⟨zxin5 _ (List.mem_of_getElem? (i := 1) rfl), rfl⟩, zxci_11, zxcn_11, zxcd_37⟩
theorem zxp128 : plainFor zxm128.1 = true := by decide +kernel
set_option maxRecDepth 20000 in
theorem zxt128 : z_MT[128]? = some zxm128 := rfl
theorem zxcd_38 : (parseMethodDescriptor "(II[I)I").map (fun d => d.parameters.length) = some 3 := by decide +kernel
set_option maxRecDepth 20000 in
theorem zxh128 : zk_ok1 lw_tbl zxm128 := ⟨List.mem_filter.mpr ⟨zxin5 _ (List.mem_of_getElem? (i := 8) rfl), rfl⟩, zxci_11, zxcn_11, zxcd_38⟩
theorem zxp129 : plainFor zxm129.1 = true := by decide +kernel
set_option maxRecDepth 20000 in
theorem zxt129 : z_MT[129]? = some zxm129 := rfl
set_option maxRecDepth 20000 in
theorem zxh129 : zk_ok1 lw_tbl zxm129 := ⟨List.mem_filter.mpr ⟨zxin5 _ (List.mem_of_getElem? (i := 12) rfl), rfl⟩, zxci_13, zxcn_13, zxcd_12⟩
theorem zxp130 : plainFor zxm130.1 = true := by decide +kernel
set_option maxRecDepth 20000 in
theorem zxt130 : z_MT[130]? = some zxm130 := rfl
set_option maxRecDepth 20000 in
theorem zxh130 : zk_ok1 lw_tbl zxm130 := ⟨List.mem_filter.mpr ⟨zxin5 _ (List.mem_of_getElem? (i := 15) rfl), rfl⟩, zxci_11, zxcn_11, zxcd_33⟩
theorem zxp131 : plainFor zxm131.1 = true := by decide +kernel
set_option maxRecDepth 20000 in
theorem zxt131 : z_MT[131]? = some zxm131 := rfl
set_option maxRecDepth 20000 in
theorem zxh131 : zk_ok1 lw_tbl zxm131 := ⟨List.mem_filter.mpr ⟨zxin5 _ (List.mem_of_getElem? (i := 20) rfl), rfl⟩, zxci_11, zxcn_11, zxcd_1⟩
theorem zxp132 : plainFor zxm132.1 = true := by decide +kernel
set_option maxRecDepth 20000 in
theorem zxt132 : z_MT[132]? = some zxm132 := rfl
set_option maxRecDepth 20000 in
theorem zxh132 : zk_ok1 lw_tbl zxm132 := ⟨List.mem_filter.mpr ⟨zxin5 _ (List.mem_of_getElem? (i := 24) rfl), rfl⟩, zxci_11, zxcn_11, zxcd_12⟩
theorem zxp133 : plainFor zxm133.1 = true := by decide +kernel
set_option maxRecDepth 20000 in
theorem zxt133 : z_MT[133]? = some zxm133 := rfl
set_option maxRecDepth 20000 in
theorem zxh133 : zk_ok1 lw_tbl zxm133 := ⟨List.mem_filter.mpr ⟨zxin5 _ (List.mem_of_getElem? (i := 28) rfl), rfl⟩, zxci_11, zxcn_11, zxcd_9⟩
theorem zxp134 : plainFor zxm134.1 = true := by decide +kernel
set_option maxRecDepth 20000 in
theorem zxt134 : z_MT[134]? = some zxm134 := rfl
theorem zxcd_39 : (parseMethodDescriptor "([II[II)Z").map (fun d => d.parameters.length) = some 4 := by decide +kernel
set_option maxRecDepth 20000 in
theorem zxh134 : zk_ok1 lw_tbl zxm134 := ⟨List.mem_filter.mpr ⟨zxin5 _ (List.mem_of_getElem? (i := 31) rfl), rfl⟩, zxci_11, zxcn_11, zxcd_39⟩
theorem zxp135 : plainFor zxm135.1 = true := by decide +kernel
set_option maxRecDepth 20000 in
theorem zxt135 : z_MT[135]? = some zxm135 := rfl
set_option maxRecDepth 20000 in
theorem zxh135 : zk_ok1 lw_tbl zxm135 := ⟨List.mem_filter.mpr ⟨zxin5 _ (List.mem_of_getElem? (i := 35) rfl), rfl⟩, zxci_11, zxcn_11, zxcd_1⟩
theorem zxp136 : plainFor zxm136.1 = true := by decide +kernel
set_option maxRecDepth 20000 in
theorem zxt136 : z_MT[136]? = some zxm136 := rfl
set_option maxRecDepth 20000 in
theorem zxh136 : zk_ok1 lw_tbl zxm136 := ⟨List.mem_filter.mpr ⟨zxin5 _ (List.mem_of_getElem? (i := 40) rfl), rfl⟩, zxci_0, zxcn_0, zxcd_12⟩
theorem zxp137 : plainFor zxm137.1 = true := by decide +kernel
set_option maxRecDepth 20000 in
theorem zxt137 : z_MT[137]? = some zxm137 := rfl
theorem zxcd_40 : (parseMethodDescriptor "(LStarTales$Tape;I)V").map (fun d => d.parameters.length) = some 2 := by decide +kernel
set_option maxRecDepth 20000 in
theorem zxh137 : zk_ok1 lw_tbl zxm137 := ⟨List.mem_filter.mpr ⟨zxin5 _ (List.mem_of_getElem? (i := 44) rfl), rfl⟩, zxci_11, zxcn_11, zxcd_40⟩
theorem zxp138 : plainFor zxm138.1 = true := by decide +kernel
set_option maxRecDepth 20000 in
theorem zxt138 : z_MT[138]? = some zxm138 := rfl
set_option maxRecDepth 20000 in
theorem zxh138 : zk_ok1 lw_tbl zxm138 := ⟨List.mem_filter.mpr ⟨zxin5 _ (List.mem_of_getElem? (i := 49) rfl), rfl⟩, zxci_3, zxcn_3, zxcd_14⟩
theorem zxp139 : plainFor zxm139.1 = true := by decide +kernel
set_option maxRecDepth 20000 in
theorem zxt139 : z_MT[139]? = some zxm139 := rfl
theorem zxcd_41 : (parseMethodDescriptor "(LStarTales$View;Z)Z").map (fun d => d.parameters.length) = some 2 := by decide +kernel
set_option maxRecDepth 20000 in
theorem zxh139 : zk_ok1 lw_tbl zxm139 := ⟨List.mem_filter.mpr ⟨zxin5 _ (List.mem_of_getElem? (i := 53) rfl), rfl⟩, zxci_11, zxcn_11, zxcd_41⟩
theorem zxp140 : plainFor zxm140.1 = true := by decide +kernel
set_option maxRecDepth 20000 in
theorem zxt140 : z_MT[140]? = some zxm140 := rfl
set_option maxRecDepth 20000 in
theorem zxh140 : zk_ok1 lw_tbl zxm140 := ⟨List.mem_filter.mpr ⟨zxin5 _ (List.mem_of_getElem? (i := 58) rfl), rfl⟩, zxci_0, zxcn_0, zxcd_12⟩
theorem zxp141 : plainFor zxm141.1 = true := by decide +kernel
set_option maxRecDepth 20000 in
theorem zxt141 : z_MT[141]? = some zxm141 := rfl
set_option maxRecDepth 20000 in
theorem zxh141 : zk_ok1 lw_tbl zxm141 := ⟨List.mem_filter.mpr ⟨zxin5 _ (List.mem_of_getElem? (i := 63) rfl), rfl⟩, zxci_12, zxcn_12, zxcd_14⟩
theorem zxp142 : plainFor zxm142.1 = true := by decide +kernel
set_option maxRecDepth 20000 in
theorem zxt142 : z_MT[142]? = some zxm142 := rfl
set_option maxRecDepth 20000 in
theorem zxh142 : zk_ok1 lw_tbl zxm142 := ⟨List.mem_filter.mpr ⟨zxin5 _ (List.mem_of_getElem? (i := 68) rfl), rfl⟩, zxci_12, zxcn_12, zxcd_12⟩
theorem zxp143 : plainFor zxm143.1 = true := by decide +kernel
set_option maxRecDepth 20000 in
theorem zxt143 : z_MT[143]? = some zxm143 := rfl
set_option maxRecDepth 20000 in
theorem zxh143 : zk_ok1 lw_tbl zxm143 := ⟨List.mem_filter.mpr ⟨zxin5 _ (List.mem_of_getElem? (i := 73) rfl), rfl⟩, zxci_12, zxcn_12, zxcd_33⟩
theorem zxp144 : plainFor zxm144.1 = true := by decide +kernel
set_option maxRecDepth 20000 in
theorem zxt144 : z_MT[144]? = some zxm144 := rfl
set_option maxRecDepth 20000 in
theorem zxh144 : zk_ok1 lw_tbl zxm144 := ⟨List.mem_filter.mpr ⟨zxin5 _ (List.mem_of_getElem? (i := 77) rfl), rfl⟩, zxci_0, zxcn_0, zxcd_12⟩
theorem zxp145 : plainFor zxm145.1 = true := by decide +kernel
set_option maxRecDepth 20000 in
theorem zxt145 : z_MT[145]? = some zxm145 := rfl
set_option maxRecDepth 20000 in
theorem zxh145 : zk_ok1 lw_tbl zxm145 := ⟨List.mem_filter.mpr ⟨zxin5 _ (List.mem_of_getElem? (i := 81) rfl), rfl⟩, zxci_12, zxcn_12, zxcd_4⟩
theorem zxp146 : plainFor zxm146.1 = true := by decide +kernel
set_option maxRecDepth 20000 in
theorem zxt146 : z_MT[146]? = some zxm146 := rfl
set_option maxRecDepth 20000 in
theorem zxh146 : zk_ok1 lw_tbl zxm146 := ⟨List.mem_filter.mpr ⟨zxin5 _ (List.mem_of_getElem? (i := 89) rfl), rfl⟩, zxci_4, zxcn_4, zxcd_12⟩
theorem zxp147 : plainFor zxm147.1 = true := by decide +kernel
set_option maxRecDepth 20000 in
theorem zxt147 : z_MT[147]? = some zxm147 := rfl
set_option maxRecDepth 20000 in
theorem zxh147 : zk_ok1 lw_tbl zxm147 := ⟨List.mem_filter.mpr ⟨zxin5 _ (List.mem_of_getElem? (i := 94) rfl), rfl⟩, zxci_12, zxcn_12, zxcd_12⟩
theorem zxp148 : plainFor zxm148.1 = true := by decide +kernel
set_option maxRecDepth 20000 in
theorem zxt148 : z_MT[148]? = some zxm148 := rfl
set_option maxRecDepth 20000 in
theorem zxh148 : zk_ok1 lw_tbl zxm148 := ⟨List.mem_filter.mpr ⟨zxin5 _ (List.mem_of_getElem? (i := 99) rfl), rfl⟩, zxci_12, zxcn_12, zxcd_29⟩
theorem zxp149 : plainFor zxm149.1 = true := by decide +kernel
set_option maxRecDepth 20000 in
theorem zxt149 : z_MT[149]? = some zxm149 := rfl
set_option maxRecDepth 20000 in
theorem zxh149 : zk_ok1 lw_tbl zxm149 := ⟨List.mem_filter.mpr ⟨zxin5 _ (List.mem_of_getElem? (i := 103) rfl), rfl⟩, zxci_12, zxcn_12, zxcd_14⟩
theorem zxp150 : plainFor zxm150.1 = true := by decide +kernel
set_option maxRecDepth 20000 in
theorem zxt150 : z_MT[150]? = some zxm150 := rfl
set_option maxRecDepth 20000 in
theorem zxh150 : zk_ok1 lw_tbl zxm150 := ⟨List.mem_filter.mpr ⟨zxin5 _ (List.mem_of_getElem? (i := 107) rfl), rfl⟩, zxci_12, zxcn_12, zxcd_14⟩
theorem zxp151 : plainFor zxm151.1 = true := by decide +kernel
set_option maxRecDepth 20000 in
theorem zxt151 : z_MT[151]? = some zxm151 := rfl
theorem zxcd_42 : (parseMethodDescriptor "(IIIZ)I").map (fun d => d.parameters.length) = some 4 := by decide +kernel
set_option maxRecDepth 20000 in
theorem zxh151 : zk_ok1 lw_tbl zxm151 := ⟨List.mem_filter.mpr ⟨zxin5 _ (List.mem_of_getElem? (i := 111) rfl), rfl⟩, zxci_0, zxcn_0, zxcd_42⟩
theorem zxp152 : plainFor zxm152.1 = true := by decide +kernel
set_option maxRecDepth 20000 in
theorem zxt152 : z_MT[152]? = some zxm152 := rfl
theorem zxcd_43 : (parseMethodDescriptor "(LStarTales$Law;)V").map (fun d => d.parameters.length) = some 1 := by decide +kernel
set_option maxRecDepth 20000 in
theorem zxh152 : zk_ok1 lw_tbl zxm152 := ⟨List.mem_filter.mpr ⟨zxin5 _ (List.mem_of_getElem? (i := 116) rfl), rfl⟩, zxci_1, zxcn_1, zxcd_43⟩
theorem zxp153 : plainFor zxm153.1 = true := by decide +kernel
set_option maxRecDepth 20000 in
theorem zxt153 : z_MT[153]? = some zxm153 := rfl
theorem zxcd_44 : (parseMethodDescriptor "(LStarTales$View;LStarTales$Sea;II)I").map (fun d => d.parameters.length) = some 4 := by decide +kernel
set_option maxRecDepth 20000 in
theorem zxh153 : zk_ok1 lw_tbl zxm153 := ⟨List.mem_filter.mpr ⟨zxin5 _ (List.mem_of_getElem? (i := 124) rfl), rfl⟩, zxci_10, zxcn_10, zxcd_44⟩
theorem zxp154 : plainFor zxm154.1 = true := by decide +kernel
set_option maxRecDepth 20000 in
theorem zxt154 : z_MT[154]? = some zxm154 := rfl
set_option maxRecDepth 20000 in
theorem zxh154 : zk_ok1 lw_tbl zxm154 := ⟨List.mem_filter.mpr ⟨zxin5 _ (List.mem_of_getElem? (i := 136) rfl), rfl⟩, zxci_2, zxcn_2, zxcd_12⟩
theorem zxp155 : plainFor zxm155.1 = true := by decide +kernel
set_option maxRecDepth 20000 in
theorem zxt155 : z_MT[155]? = some zxm155 := rfl
set_option maxRecDepth 20000 in
theorem zxh155 : zk_ok1 lw_tbl zxm155 := ⟨List.mem_filter.mpr ⟨zxin5 _ (List.mem_of_getElem? (i := 143) rfl), rfl⟩, zxci_1, zxcn_1, zxcd_0⟩
theorem zxp156 : plainFor zxm156.1 = true := by decide +kernel
set_option maxRecDepth 20000 in
theorem zxt156 : z_MT[156]? = some zxm156 := rfl
set_option maxRecDepth 20000 in
theorem zxh156 : zk_ok1 lw_tbl zxm156 := ⟨List.mem_filter.mpr ⟨zxin5 _ (List.mem_of_getElem? (i := 147) rfl), rfl⟩, zxci_1, zxcn_1, zxcd_0⟩
theorem zxp157 : plainFor zxm157.1 = true := by decide +kernel
set_option maxRecDepth 20000 in
theorem zxt157 : z_MT[157]? = some zxm157 := rfl
set_option maxRecDepth 20000 in
theorem zxh157 : zk_ok1 lw_tbl zxm157 := ⟨List.mem_filter.mpr ⟨zxin5 _ (List.mem_of_getElem? (i := 151) rfl), rfl⟩, zxci_1, zxcn_1, zxcd_14⟩
theorem zxp158 : plainFor zxm158.1 = true := by decide +kernel
set_option maxRecDepth 20000 in
theorem zxt158 : z_MT[158]? = some zxm158 := rfl
set_option maxRecDepth 20000 in
theorem zxh158 : zk_ok1 lw_tbl zxm158 := ⟨List.mem_filter.mpr ⟨zxin5 _ (List.mem_of_getElem? (i := 156) rfl), rfl⟩, zxci_1, zxcn_1, zxcd_14⟩
theorem zxp159 : plainFor zxm159.1 = true := by decide +kernel
set_option maxRecDepth 20000 in
theorem zxt159 : z_MT[159]? = some zxm159 := rfl
set_option maxRecDepth 20000 in
theorem zxh159 : zk_ok1 lw_tbl zxm159 := ⟨List.mem_filter.mpr ⟨zxin5 _ (List.mem_of_getElem? (i := 162) rfl), rfl⟩, zxci_0, zxcn_0, zxcd_14⟩
theorem zxp160 : plainFor zxm160.1 = true := by decide +kernel
set_option maxRecDepth 20000 in
theorem zxt160 : z_MT[160]? = some zxm160 := rfl
set_option maxRecDepth 20000 in
theorem zxh160 : zk_ok1 lw_tbl zxm160 := ⟨List.mem_filter.mpr ⟨zxin5 _ (List.mem_of_getElem? (i := 166) rfl), rfl⟩, zxci_0, zxcn_0, zxcd_1⟩
theorem zxp161 : plainFor zxm161.1 = true := by decide +kernel
set_option maxRecDepth 20000 in
theorem zxt161 : z_MT[161]? = some zxm161 := rfl
set_option maxRecDepth 20000 in
theorem zxh161 : zk_ok1 lw_tbl zxm161 := ⟨List.mem_filter.mpr ⟨zxin5 _ (List.mem_of_getElem? (i := 172) rfl), rfl⟩, zxci_0, zxcn_0, zxcd_33⟩
theorem zxp162 : plainFor zxm162.1 = true := by decide +kernel
set_option maxRecDepth 20000 in
theorem zxt162 : z_MT[162]? = some zxm162 := rfl
theorem zxcd_45 : (parseMethodDescriptor "(LStarTales$Sea;II)I").map (fun d => d.parameters.length) = some 3 := by decide +kernel
set_option maxRecDepth 20000 in
theorem zxh162 : zk_ok1 lw_tbl zxm162 := ⟨List.mem_filter.mpr ⟨zxin5 _ (List.mem_of_getElem? (i := 176) rfl), rfl⟩, zxci_10, zxcn_10, zxcd_45⟩
theorem zxp163 : plainFor zxm163.1 = true := by decide +kernel
set_option maxRecDepth 20000 in
theorem zxt163 : z_MT[163]? = some zxm163 := rfl
theorem zxcd_46 : (parseMethodDescriptor "(LStarTales$Sea;I[I)V").map (fun d => d.parameters.length) = some 3 := by decide +kernel
set_option maxRecDepth 20000 in
theorem zxh163 : zk_ok1 lw_tbl zxm163 := ⟨List.mem_filter.mpr ⟨zxin5 _ (List.mem_of_getElem? (i := 180) rfl), rfl⟩, zxci_10, zxcn_10, zxcd_46⟩
theorem zxp164 : plainFor zxm164.1 = true := by decide +kernel
set_option maxRecDepth 20000 in
theorem zxt164 : z_MT[164]? = some zxm164 := rfl
set_option maxRecDepth 20000 in
theorem zxh164 : zk_ok1 lw_tbl zxm164 := ⟨List.mem_filter.mpr ⟨zxin5 _ (List.mem_of_getElem? (i := 185) rfl), rfl⟩, zxci_10, zxcn_10, zxcd_14⟩
theorem zxp165 : plainFor zxm165.1 = true := by decide +kernel
set_option maxRecDepth 20000 in
theorem zxt165 : z_MT[165]? = some zxm165 := rfl
set_option maxRecDepth 20000 in
theorem zxh165 : zk_ok1 lw_tbl zxm165 := ⟨List.mem_filter.mpr ⟨zxin5 _ (List.mem_of_getElem? (i := 191) rfl), rfl⟩, zxci_0, zxcn_0, zxcd_15⟩
theorem zxp166 : plainFor zxm166.1 = true := by decide +kernel
set_option maxRecDepth 20000 in
theorem zxt166 : z_MT[166]? = some zxm166 := rfl
set_option maxRecDepth 20000 in
theorem zxh166 : zk_ok1 lw_tbl zxm166 := ⟨List.mem_filter.mpr ⟨zxin5 _ (List.mem_of_getElem? (i := 195) rfl), rfl⟩, zxci_0, zxcn_0, zxcd_8⟩
theorem zxp167 : plainFor zxm167.1 = true := by decide +kernel
set_option maxRecDepth 20000 in
theorem zxt167 : z_MT[167]? = some zxm167 := rfl
theorem zxcd_47 : (parseMethodDescriptor "(LStarTales$View;LStarTales$Sea;III)Z").map (fun d => d.parameters.length) = some 5 := by decide +kernel
set_option maxRecDepth 20000 in
theorem zxh167 : zk_ok1 lw_tbl zxm167 := ⟨List.mem_filter.mpr ⟨zxin5 _ (List.mem_of_getElem? (i := 199) rfl), rfl⟩, zxci_10, zxcn_10, zxcd_47⟩
theorem zxp168 : plainFor zxm168.1 = true := by decide +kernel
set_option maxRecDepth 20000 in
theorem zxt168 : z_MT[168]? = some zxm168 := rfl
theorem zxcd_48 : (parseMethodDescriptor "(LStarTales$View;LStarTales$Sea;)V").map (fun d => d.parameters.length) = some 2 := by decide +kernel
set_option maxRecDepth 20000 in
theorem zxh168 : zk_ok1 lw_tbl zxm168 := ⟨List.mem_filter.mpr ⟨zxin5 _ (List.mem_of_getElem? (i := 204) rfl), rfl⟩, zxci_10, zxcn_10, zxcd_48⟩
theorem zxp169 : plainFor zxm169.1 = true := by decide +kernel
set_option maxRecDepth 20000 in
theorem zxt169 : z_MT[169]? = some zxm169 := rfl
set_option maxRecDepth 20000 in
theorem zxh169 : zk_ok1 lw_tbl zxm169 := ⟨List.mem_filter.mpr ⟨zxin5 _ (List.mem_of_getElem? (i := 210) rfl), rfl⟩, zxci_10, zxcn_10, zxcd_37⟩
theorem zxp170 : plainFor zxm170.1 = true := by decide +kernel
set_option maxRecDepth 20000 in
theorem zxt170 : z_MT[170]? = some zxm170 := rfl
set_option maxRecDepth 20000 in
theorem zxh170 : zk_ok1 lw_tbl zxm170 := ⟨List.mem_filter.mpr ⟨zxin5 _ (List.mem_of_getElem? (i := 216) rfl), rfl⟩, zxci_0, zxcn_0, zxcd_15⟩
theorem zxp171 : plainFor zxm171.1 = true := by decide +kernel
set_option maxRecDepth 20000 in
theorem zxt171 : z_MT[171]? = some zxm171 := rfl
theorem zxcd_49 : (parseMethodDescriptor "(LStarTales$View;LStarTales$Sea;LStarTales$Sky;III)Z").map (fun d => d.parameters.length) = some 6 := by decide +kernel
set_option maxRecDepth 20000 in
theorem zxh171 : zk_ok1 lw_tbl zxm171 := ⟨List.mem_filter.mpr ⟨zxin5 _ (List.mem_of_getElem? (i := 220) rfl), rfl⟩, zxci_10, zxcn_10, zxcd_49⟩
theorem zxp172 : plainFor zxm172.1 = true := by decide +kernel
set_option maxRecDepth 20000 in
theorem zxt172 : z_MT[172]? = some zxm172 := rfl
set_option maxRecDepth 20000 in
theorem zxh172 : zk_ok1 lw_tbl zxm172 := ⟨List.mem_filter.mpr ⟨zxin5 _ (List.mem_of_getElem? (i := 224) rfl), rfl⟩, zxci_10, zxcn_10, zxcd_30⟩
theorem zxp173 : plainFor zxm173.1 = true := by decide +kernel
set_option maxRecDepth 20000 in
theorem zxt173 : z_MT[173]? = some zxm173 := rfl
theorem zxcd_50 : (parseMethodDescriptor "(LStarTales$Sky;I)Z").map (fun d => d.parameters.length) = some 2 := by decide +kernel
set_option maxRecDepth 20000 in
theorem zxh173 : zk_ok1 lw_tbl zxm173 := ⟨List.mem_filter.mpr ⟨zxin5 _ (List.mem_of_getElem? (i := 228) rfl), rfl⟩, zxci_10, zxcn_10, zxcd_50⟩
theorem zxp174 : plainFor zxm174.1 = true := by decide +kernel
set_option maxRecDepth 20000 in
theorem zxt174 : z_MT[174]? = some zxm174 := rfl
theorem zxcd_51 : (parseMethodDescriptor "(LStarTales$View;LStarTales$Sea;III)V").map (fun d => d.parameters.length) = some 5 := by decide +kernel
set_option maxRecDepth 20000 in
theorem zxh174 : zk_ok1 lw_tbl zxm174 := ⟨List.mem_filter.mpr ⟨zxin5 _ (List.mem_of_getElem? (i := 233) rfl), rfl⟩, zxci_10, zxcn_10, zxcd_51⟩
theorem zxp175 : plainFor zxm175.1 = true := by decide +kernel
set_option maxRecDepth 20000 in
theorem zxt175 : z_MT[175]? = some zxm175 := rfl
set_option maxRecDepth 20000 in
theorem zxh175 : zk_ok1 lw_tbl zxm175 := ⟨List.mem_filter.mpr ⟨zxin5 _ (List.mem_of_getElem? (i := 237) rfl), rfl⟩, zxci_0, zxcn_0, zxcd_33⟩
theorem zxp176 : plainFor zxm176.1 = true := by decide +kernel
set_option maxRecDepth 20000 in
theorem zxt176 : z_MT[176]? = some zxm176 := rfl
set_option maxRecDepth 20000 in
theorem zxh176 : zk_ok1 lw_tbl zxm176 := ⟨List.mem_filter.mpr ⟨zxin6 _ (List.mem_of_getElem? (i := 1) rfl), rfl⟩, zxci_8, zxcn_8, zxcd_37⟩
theorem zxp177 : plainFor zxm177.1 = true := by decide +kernel
set_option maxRecDepth 20000 in
theorem zxt177 : z_MT[177]? = some zxm177 := rfl
set_option maxRecDepth 20000 in
theorem zxh177 : zk_ok1 lw_tbl zxm177 := ⟨List.mem_filter.mpr ⟨zxin6 _ (List.mem_of_getElem? (i := 5) rfl), rfl⟩, zxci_0, zxcn_0, zxcd_33⟩
theorem zxp178 : plainFor zxm178.1 = true := by decide +kernel
set_option maxRecDepth 20000 in
theorem zxt178 : z_MT[178]? = some zxm178 := rfl
theorem zxcd_52 : (parseMethodDescriptor "(LStarTales$Tale;LStarTales$View;)I").map (fun d => d.parameters.length) = some 2 := by decide +kernel
set_option maxRecDepth 20000 in
theorem zxh178 : zk_ok1 lw_tbl zxm178 := ⟨List.mem_filter.mpr ⟨zxin6 _ (List.mem_of_getElem? (i := 9) rfl), rfl⟩, zxci_9, zxcn_9, zxcd_52⟩
theorem zxp179 : plainFor zxm179.1 = true := by decide +kernel
set_option maxRecDepth 20000 in
theorem zxt179 : z_MT[179]? = some zxm179 := rfl
theorem zxcd_53 : (parseMethodDescriptor "(LStarTales$Tale;LStarTales$View;II)V").map (fun d => d.parameters.length) = some 4 := by decide +kernel
set_option maxRecDepth 20000 in
theorem zxh179 : zk_ok1 lw_tbl zxm179 := ⟨List.mem_filter.mpr ⟨zxin6 _ (List.mem_of_getElem? (i := 13) rfl), rfl⟩, zxci_9, zxcn_9, zxcd_53⟩
theorem zxp180 : plainFor zxm180.1 = true := by decide +kernel
set_option maxRecDepth 20000 in
theorem zxt180 : z_MT[180]? = some zxm180 := rfl
theorem zxcd_54 : (parseMethodDescriptor "(LStarTales$View;I)I").map (fun d => d.parameters.length) = some 2 := by decide +kernel
set_option maxRecDepth 20000 in
theorem zxh180 : zk_ok1 lw_tbl zxm180 := ⟨List.mem_filter.mpr ⟨zxin6 _ (List.mem_of_getElem? (i := 16) rfl), rfl⟩, zxci_9, zxcn_9, zxcd_54⟩
theorem zxp181 : plainFor zxm181.1 = true := by decide +kernel
set_option maxRecDepth 20000 in
theorem zxt181 : z_MT[181]? = some zxm181 := rfl
theorem zxcd_55 : (parseMethodDescriptor "(LStarTales$Tale;LStarTales$Sky;)I").map (fun d => d.parameters.length) = some 2 := by decide +kernel
set_option maxRecDepth 20000 in
theorem zxh181 : zk_ok1 lw_tbl zxm181 := ⟨List.mem_filter.mpr ⟨zxin6 _ (List.mem_of_getElem? (i := 22) rfl), rfl⟩, zxci_9, zxcn_9, zxcd_55⟩
theorem zxp182 : plainFor zxm182.1 = true := by decide +kernel
set_option maxRecDepth 20000 in
theorem zxt182 : z_MT[182]? = some zxm182 := rfl
set_option maxRecDepth 20000 in
theorem zxh182 : zk_ok1 lw_tbl zxm182 := ⟨List.mem_filter.mpr ⟨zxin6 _ (List.mem_of_getElem? (i := 26) rfl), rfl⟩, zxci_0, zxcn_0, zxcd_12⟩
theorem zxp183 : plainFor zxm183.1 = true := by decide +kernel
set_option maxRecDepth 20000 in
theorem zxt183 : z_MT[183]? = some zxm183 := rfl
set_option maxRecDepth 20000 in
theorem zxh183 : zk_ok1 lw_tbl zxm183 := ⟨List.mem_filter.mpr ⟨zxin6 _ (List.mem_of_getElem? (i := 30) rfl), rfl⟩, zxci_0, zxcn_0, zxcd_10⟩
theorem zxp184 : plainFor zxm184.1 = true := by decide +kernel
set_option maxRecDepth 20000 in
theorem zxt184 : z_MT[184]? = some zxm184 := rfl
set_option maxRecDepth 20000 in
theorem zxh184 : zk_ok1 lw_tbl zxm184 := ⟨List.mem_filter.mpr ⟨zxin6 _ (List.mem_of_getElem? (i := 34) rfl), rfl⟩, zxci_0, zxcn_0, zxcd_16⟩
theorem zxp185 : plainFor zxm185.1 = true := by decide +kernel
set_option maxRecDepth 20000 in
theorem zxt185 : z_MT[185]? = some zxm185 := rfl
set_option maxRecDepth 20000 in
theorem zxh185 : zk_ok1 lw_tbl zxm185 := ⟨List.mem_filter.mpr ⟨zxin6 _ (List.mem_of_getElem? (i := 39) rfl), rfl⟩, zxci_0, zxcn_0, zxcd_1⟩
theorem zxp186 : plainFor zxm186.1 = true := by decide +kernel
set_option maxRecDepth 20000 in
theorem zxt186 : z_MT[186]? = some zxm186 := rfl
set_option maxRecDepth 20000 in
theorem zxh186 : zk_ok1 lw_tbl zxm186 := ⟨List.mem_filter.mpr ⟨zxin6 _ (List.mem_of_getElem? (i := 43) rfl), rfl⟩, zxci_0, zxcn_0, zxcd_1⟩
theorem zxp187 : plainFor zxm187.1 = true := by decide +kernel
set_option maxRecDepth 20000 in
theorem zxt187 : z_MT[187]? = some zxm187 := rfl
set_option maxRecDepth 20000 in
theorem zxh187 : zk_ok1 lw_tbl zxm187 := ⟨List.mem_filter.mpr ⟨zxin6 _ (List.mem_of_getElem? (i := 47) rfl), rfl⟩, zxci_0, zxcn_0, zxcd_12⟩
theorem zxp188 : plainFor zxm188.1 = true := by decide +kernel
set_option maxRecDepth 20000 in
theorem zxt188 : z_MT[188]? = some zxm188 := rfl
set_option maxRecDepth 20000 in
theorem zxh188 : zk_ok1 lw_tbl zxm188 := ⟨List.mem_filter.mpr ⟨zxin6 _ (List.mem_of_getElem? (i := 52) rfl), rfl⟩, zxci_0, zxcn_0, zxcd_12⟩
theorem zxp189 : plainFor zxm189.1 = true := by decide +kernel
set_option maxRecDepth 20000 in
theorem zxt189 : z_MT[189]? = some zxm189 := rfl
theorem zxcd_56 : (parseMethodDescriptor "(LStarTales$View;)Z").map (fun d => d.parameters.length) = some 1 := by decide +kernel
set_option maxRecDepth 20000 in
theorem zxh189 : zk_ok1 lw_tbl zxm189 := ⟨List.mem_filter.mpr ⟨zxin6 _ (List.mem_of_getElem? (i := 57) rfl), rfl⟩, zxci_8, zxcn_8, zxcd_56⟩
theorem zxp190 : plainFor zxm190.1 = true := by decide +kernel
set_option maxRecDepth 20000 in
theorem zxt190 : z_MT[190]? = some zxm190 := rfl
set_option maxRecDepth 20000 in
theorem zxh190 : zk_ok1 lw_tbl zxm190 := ⟨List.mem_filter.mpr ⟨zxin6 _ (List.mem_of_getElem? (i := 61) rfl), rfl⟩, zxci_0, zxcn_0, zxcd_10⟩
theorem zxp191 : plainFor zxm191.1 = true := by decide +kernel
set_option maxRecDepth 20000 in
theorem zxt191 : z_MT[191]? = some zxm191 := rfl
set_option maxRecDepth 20000 in
theorem zxh191 : zk_ok1 lw_tbl zxm191 := ⟨List.mem_filter.mpr ⟨zxin6 _ (List.mem_of_getElem? (i := 66) rfl), rfl⟩, zxci_0, zxcn_0, zxcd_1⟩
theorem zxp192 : plainFor zxm192.1 = true := by decide +kernel
set_option maxRecDepth 20000 in
theorem zxt192 : z_MT[192]? = some zxm192 := rfl
theorem zxcd_57 : (parseMethodDescriptor "(LStarTales$Sea;)V").map (fun d => d.parameters.length) = some 1 := by decide +kernel
set_option maxRecDepth 20000 in
theorem zxh192 : zk_ok1 lw_tbl zxm192 := ⟨List.mem_filter.mpr ⟨zxin6 _ (List.mem_of_getElem? (i := 70) rfl), rfl⟩, zxci_2, zxcn_2, zxcd_57⟩
theorem zxp193 : plainFor zxm193.1 = true := by decide +kernel
set_option maxRecDepth 20000 in
theorem zxt193 : z_MT[193]? = some zxm193 := rfl
set_option maxRecDepth 20000 in
theorem zxh193 : zk_ok1 lw_tbl zxm193 := ⟨List.mem_filter.mpr ⟨zxin6 _ (List.mem_of_getElem? (i := 75) rfl), rfl⟩, zxci_0, zxcn_0, zxcd_18⟩
theorem zxp194 : plainFor zxm194.1 = true := by decide +kernel
set_option maxRecDepth 20000 in
theorem zxt194 : z_MT[194]? = some zxm194 := rfl
set_option maxRecDepth 20000 in
theorem zxh194 : zk_ok1 lw_tbl zxm194 := ⟨List.mem_filter.mpr ⟨zxin6 _ (List.mem_of_getElem? (i := 79) rfl), rfl⟩, zxci_0, zxcn_0, zxcd_14⟩
theorem zxp195 : plainFor zxm195.1 = true := by decide +kernel
set_option maxRecDepth 20000 in
theorem zxt195 : z_MT[195]? = some zxm195 := rfl
set_option maxRecDepth 20000 in
theorem zxh195 : zk_ok1 lw_tbl zxm195 := ⟨List.mem_filter.mpr ⟨zxin6 _ (List.mem_of_getElem? (i := 83) rfl), rfl⟩, zxci_3, zxcn_3, zxcd_14⟩
theorem zxp196 : plainFor zxm196.1 = true := by decide +kernel
set_option maxRecDepth 20000 in
theorem zxt196 : z_MT[196]? = some zxm196 := rfl
set_option maxRecDepth 20000 in
theorem zxh196 : zk_ok1 lw_tbl zxm196 := ⟨List.mem_filter.mpr ⟨zxin6 _ (List.mem_of_getElem? (i := 88) rfl), rfl⟩, zxci_0, zxcn_0, zxcd_14⟩
theorem zxp197 : plainFor zxm197.1 = true := by decide +kernel
set_option maxRecDepth 20000 in
theorem zxt197 : z_MT[197]? = some zxm197 := rfl
set_option maxRecDepth 20000 in
theorem zxh197 : zk_ok1 lw_tbl zxm197 := ⟨List.mem_filter.mpr ⟨zxin6 _ (List.mem_of_getElem? (i := 92) rfl), rfl⟩, zxci_2, zxcn_2, zxcd_1⟩
theorem zxp198 : plainFor zxm198.1 = true := by decide +kernel
set_option maxRecDepth 20000 in
theorem zxt198 : z_MT[198]? = some zxm198 := rfl
set_option maxRecDepth 20000 in
theorem zxci_20 : Cond.initialized "StarTalesModel" ∈ lw_tbl.filter z_gw := List.mem_filter.mpr ⟨List.mem_of_getElem? (i := 128) (by decide +kernel), rfl⟩
theorem zxcn_20 : ("StarTalesModel" : String) ≠ "java/lang/invoke/MethodHandle" ∧ ("StarTalesModel" : String) ≠ "java/lang/invoke/VarHandle" := by decide +kernel
set_option maxRecDepth 20000 in
theorem zxh198 : zk_ok1 lw_tbl zxm198 := ⟨List.mem_filter.mpr ⟨zxin6 _ (List.mem_of_getElem? (i := 98) rfl), rfl⟩, zxci_20, zxcn_20, zxcd_0⟩
theorem zxp199 : plainFor zxm199.1 = true := by decide +kernel
set_option maxRecDepth 20000 in
theorem zxt199 : z_MT[199]? = some zxm199 := rfl
set_option maxRecDepth 20000 in
theorem zxh199 : zk_ok1 lw_tbl zxm199 := ⟨List.mem_filter.mpr ⟨zxin7 _ (List.mem_of_getElem? (i := 56) rfl), rfl⟩, zxci_20, zxcn_20, zxcd_7⟩
theorem zxp200 : plainFor zxm200.1 = true := by decide +kernel
set_option maxRecDepth 20000 in
theorem zxt200 : z_MT[200]? = some zxm200 := rfl
set_option maxRecDepth 20000 in
theorem zxh200 : zk_ok1 lw_tbl zxm200 := ⟨List.mem_filter.mpr ⟨zxin7 _ (List.mem_of_getElem? (i := 59) rfl), rfl⟩, zxci_20, zxcn_20, zxcd_8⟩
theorem zxp201 : plainFor zxm201.1 = true := by decide +kernel
set_option maxRecDepth 20000 in
theorem zxt201 : z_MT[201]? = some zxm201 := rfl
set_option maxRecDepth 20000 in
theorem zxh201 : zk_ok1 lw_tbl zxm201 := ⟨List.mem_filter.mpr ⟨zxin7 _ (List.mem_of_getElem? (i := 62) rfl), rfl⟩, zxci_20, zxcn_20, zxcd_9⟩
theorem zxp202 : plainFor zxm202.1 = true := by decide +kernel
set_option maxRecDepth 20000 in
theorem zxt202 : z_MT[202]? = some zxm202 := rfl
set_option maxRecDepth 20000 in
theorem zxh202 : zk_ok1 lw_tbl zxm202 := ⟨List.mem_filter.mpr ⟨zxin7 _ (List.mem_of_getElem? (i := 66) rfl), rfl⟩, zxci_20, zxcn_20, zxcd_8⟩
theorem zxp203 : plainFor zxm203.1 = true := by decide +kernel
set_option maxRecDepth 20000 in
theorem zxt203 : z_MT[203]? = some zxm203 := rfl
set_option maxRecDepth 20000 in
theorem zxh203 : zk_ok1 lw_tbl zxm203 := ⟨List.mem_filter.mpr ⟨zxin7 _ (List.mem_of_getElem? (i := 70) rfl), rfl⟩, zxci_20, zxcn_20, zxcd_10⟩
theorem zxp204 : plainFor zxm204.1 = true := by decide +kernel
set_option maxRecDepth 20000 in
theorem zxt204 : z_MT[204]? = some zxm204 := rfl
set_option maxRecDepth 20000 in
theorem zxh204 : zk_ok1 lw_tbl zxm204 := ⟨List.mem_filter.mpr ⟨zxin7 _ (List.mem_of_getElem? (i := 73) rfl), rfl⟩, zxci_20, zxcn_20, zxcd_9⟩
theorem zxp205 : plainFor zxm205.1 = true := by decide +kernel
set_option maxRecDepth 20000 in
theorem zxt205 : z_MT[205]? = some zxm205 := rfl
set_option maxRecDepth 20000 in
theorem zxh205 : zk_ok1 lw_tbl zxm205 := ⟨List.mem_filter.mpr ⟨zxin7 _ (List.mem_of_getElem? (i := 77) rfl), rfl⟩, zxci_20, zxcn_20, zxcd_10⟩
theorem zxp206 : plainFor zxm206.1 = true := by decide +kernel
set_option maxRecDepth 20000 in
theorem zxt206 : z_MT[206]? = some zxm206 := rfl
set_option maxRecDepth 20000 in
theorem zxh206 : zk_ok1 lw_tbl zxm206 := ⟨List.mem_filter.mpr ⟨zxin7 _ (List.mem_of_getElem? (i := 81) rfl), rfl⟩, zxci_20, zxcn_20, zxcd_10⟩
theorem zxp207 : plainFor zxm207.1 = true := by decide +kernel
set_option maxRecDepth 20000 in
theorem zxt207 : z_MT[207]? = some zxm207 := rfl
set_option maxRecDepth 20000 in
theorem zxh207 : zk_ok1 lw_tbl zxm207 := ⟨List.mem_filter.mpr ⟨zxin7 _ (List.mem_of_getElem? (i := 85) rfl), rfl⟩, zxci_20, zxcn_20, zxcd_10⟩
theorem zxp208 : plainFor zxm208.1 = true := by decide +kernel
set_option maxRecDepth 20000 in
theorem zxt208 : z_MT[208]? = some zxm208 := rfl
set_option maxRecDepth 20000 in
theorem zxh208 : zk_ok1 lw_tbl zxm208 := ⟨List.mem_filter.mpr ⟨zxin7 _ (List.mem_of_getElem? (i := 90) rfl), rfl⟩, zxci_20, zxcn_20, zxcd_9⟩
theorem zxp209 : plainFor zxm209.1 = true := by decide +kernel
set_option maxRecDepth 20000 in
theorem zxt209 : z_MT[209]? = some zxm209 := rfl
set_option maxRecDepth 20000 in
theorem zxh209 : zk_ok1 lw_tbl zxm209 := ⟨List.mem_filter.mpr ⟨zxin7 _ (List.mem_of_getElem? (i := 94) rfl), rfl⟩, zxci_20, zxcn_20, zxcd_11⟩
theorem zxp210 : plainFor zxm210.1 = true := by decide +kernel
set_option maxRecDepth 20000 in
theorem zxt210 : z_MT[210]? = some zxm210 := rfl
set_option maxRecDepth 20000 in
theorem zxh210 : zk_ok1 lw_tbl zxm210 := ⟨List.mem_filter.mpr ⟨zxin7 _ (List.mem_of_getElem? (i := 98) rfl), rfl⟩, zxci_20, zxcn_20, zxcd_10⟩
theorem zxp211 : plainFor zxm211.1 = true := by decide +kernel
set_option maxRecDepth 20000 in
theorem zxt211 : z_MT[211]? = some zxm211 := rfl
set_option maxRecDepth 20000 in
theorem zxh211 : zk_ok1 lw_tbl zxm211 := ⟨List.mem_filter.mpr ⟨zxin7 _ (List.mem_of_getElem? (i := 102) rfl), rfl⟩, zxci_20, zxcn_20, zxcd_8⟩
theorem zxp212 : plainFor zxm212.1 = true := by decide +kernel
set_option maxRecDepth 20000 in
theorem zxt212 : z_MT[212]? = some zxm212 := rfl
set_option maxRecDepth 20000 in
theorem zxh212 : zk_ok1 lw_tbl zxm212 := ⟨List.mem_filter.mpr ⟨zxin7 _ (List.mem_of_getElem? (i := 106) rfl), rfl⟩, zxci_20, zxcn_20, zxcd_10⟩
theorem zxp213 : plainFor zxm213.1 = true := by decide +kernel
set_option maxRecDepth 20000 in
theorem zxt213 : z_MT[213]? = some zxm213 := rfl
set_option maxRecDepth 20000 in
theorem zxh213 : zk_ok1 lw_tbl zxm213 := ⟨List.mem_filter.mpr ⟨zxin7 _ (List.mem_of_getElem? (i := 110) rfl), rfl⟩, zxci_20, zxcn_20, zxcd_15⟩
theorem zxp214 : plainFor zxm214.1 = true := by decide +kernel
set_option maxRecDepth 20000 in
theorem zxt214 : z_MT[214]? = some zxm214 := rfl
set_option maxRecDepth 20000 in
theorem zxh214 : zk_ok1 lw_tbl zxm214 := ⟨List.mem_filter.mpr ⟨zxin7 _ (List.mem_of_getElem? (i := 114) rfl), rfl⟩, zxci_20, zxcn_20, zxcd_16⟩
theorem zxp215 : plainFor zxm215.1 = true := by decide +kernel
set_option maxRecDepth 20000 in
theorem zxt215 : z_MT[215]? = some zxm215 := rfl
set_option maxRecDepth 20000 in
theorem zxh215 : zk_ok1 lw_tbl zxm215 := ⟨List.mem_filter.mpr ⟨zxin7 _ (List.mem_of_getElem? (i := 118) rfl), rfl⟩, zxci_20, zxcn_20, zxcd_14⟩
theorem zxp216 : plainFor zxm216.1 = true := by decide +kernel
set_option maxRecDepth 20000 in
theorem zxt216 : z_MT[216]? = some zxm216 := rfl
set_option maxRecDepth 20000 in
theorem zxh216 : zk_ok1 lw_tbl zxm216 := ⟨List.mem_filter.mpr ⟨zxin7 _ (List.mem_of_getElem? (i := 122) rfl), rfl⟩, zxci_20, zxcn_20, zxcd_18⟩
theorem zxp217 : plainFor zxm217.1 = true := by decide +kernel
set_option maxRecDepth 20000 in
theorem zxt217 : z_MT[217]? = some zxm217 := rfl
set_option maxRecDepth 20000 in
theorem zxh217 : zk_ok1 lw_tbl zxm217 := ⟨List.mem_filter.mpr ⟨zxin7 _ (List.mem_of_getElem? (i := 126) rfl), rfl⟩, zxci_20, zxcn_20, zxcd_1⟩
theorem zxp218 : plainFor zxm218.1 = true := by decide +kernel
set_option maxRecDepth 20000 in
theorem zxt218 : z_MT[218]? = some zxm218 := rfl
set_option maxRecDepth 20000 in
theorem zxh218 : zk_ok1 lw_tbl zxm218 := ⟨List.mem_filter.mpr ⟨zxin7 _ (List.mem_of_getElem? (i := 129) rfl), rfl⟩, zxci_20, zxcn_20, zxcd_10⟩
theorem zxp219 : plainFor zxm219.1 = true := by decide +kernel
set_option maxRecDepth 20000 in
theorem zxt219 : z_MT[219]? = some zxm219 := rfl
set_option maxRecDepth 20000 in
theorem zxh219 : zk_ok1 lw_tbl zxm219 := ⟨List.mem_filter.mpr ⟨zxin7 _ (List.mem_of_getElem? (i := 133) rfl), rfl⟩, zxci_20, zxcn_20, zxcd_9⟩
theorem zxp220 : plainFor zxm220.1 = true := by decide +kernel
set_option maxRecDepth 20000 in
theorem zxt220 : z_MT[220]? = some zxm220 := rfl
set_option maxRecDepth 20000 in
theorem zxh220 : zk_ok1 lw_tbl zxm220 := ⟨List.mem_filter.mpr ⟨zxin7 _ (List.mem_of_getElem? (i := 137) rfl), rfl⟩, zxci_20, zxcn_20, zxcd_18⟩
theorem zxp221 : plainFor zxm221.1 = true := by decide +kernel
set_option maxRecDepth 20000 in
theorem zxt221 : z_MT[221]? = some zxm221 := rfl
set_option maxRecDepth 20000 in
theorem zxh221 : zk_ok1 lw_tbl zxm221 := ⟨List.mem_filter.mpr ⟨zxin7 _ (List.mem_of_getElem? (i := 141) rfl), rfl⟩, zxci_20, zxcn_20, zxcd_18⟩
theorem zxp222 : plainFor zxm222.1 = true := by decide +kernel
set_option maxRecDepth 20000 in
theorem zxt222 : z_MT[222]? = some zxm222 := rfl
set_option maxRecDepth 20000 in
theorem zxh222 : zk_ok1 lw_tbl zxm222 := ⟨List.mem_filter.mpr ⟨zxin7 _ (List.mem_of_getElem? (i := 145) rfl), rfl⟩, zxci_20, zxcn_20, zxcd_10⟩
theorem zxp223 : plainFor zxm223.1 = true := by decide +kernel
set_option maxRecDepth 20000 in
theorem zxt223 : z_MT[223]? = some zxm223 := rfl
set_option maxRecDepth 20000 in
theorem zxh223 : zk_ok1 lw_tbl zxm223 := ⟨List.mem_filter.mpr ⟨zxin7 _ (List.mem_of_getElem? (i := 150) rfl), rfl⟩, zxci_20, zxcn_20, zxcd_18⟩
theorem zxp224 : plainFor zxm224.1 = true := by decide +kernel
set_option maxRecDepth 20000 in
theorem zxt224 : z_MT[224]? = some zxm224 := rfl
set_option maxRecDepth 20000 in
theorem zxh224 : zk_ok1 lw_tbl zxm224 := ⟨List.mem_filter.mpr ⟨zxin7 _ (List.mem_of_getElem? (i := 154) rfl), rfl⟩, zxci_20, zxcn_20, zxcd_18⟩
theorem zxp225 : plainFor zxm225.1 = true := by decide +kernel
set_option maxRecDepth 20000 in
theorem zxt225 : z_MT[225]? = some zxm225 := rfl
set_option maxRecDepth 20000 in
theorem zxh225 : zk_ok1 lw_tbl zxm225 := ⟨List.mem_filter.mpr ⟨zxin7 _ (List.mem_of_getElem? (i := 158) rfl), rfl⟩, zxci_20, zxcn_20, zxcd_29⟩
theorem zxp226 : plainFor zxm226.1 = true := by decide +kernel
set_option maxRecDepth 20000 in
theorem zxt226 : z_MT[226]? = some zxm226 := rfl
set_option maxRecDepth 20000 in
theorem zxh226 : zk_ok1 lw_tbl zxm226 := ⟨List.mem_filter.mpr ⟨zxin7 _ (List.mem_of_getElem? (i := 161) rfl), rfl⟩, zxci_20, zxcn_20, zxcd_14⟩
theorem zxp227 : plainFor zxm227.1 = true := by decide +kernel
set_option maxRecDepth 20000 in
theorem zxt227 : z_MT[227]? = some zxm227 := rfl
set_option maxRecDepth 20000 in
theorem zxh227 : zk_ok1 lw_tbl zxm227 := ⟨List.mem_filter.mpr ⟨zxin7 _ (List.mem_of_getElem? (i := 164) rfl), rfl⟩, zxci_20, zxcn_20, zxcd_14⟩
theorem zxp228 : plainFor zxm228.1 = true := by decide +kernel
set_option maxRecDepth 20000 in
theorem zxt228 : z_MT[228]? = some zxm228 := rfl
theorem zxcd_58 : (parseMethodDescriptor "(Z)V").map (fun d => d.parameters.length) = some 1 := by decide +kernel
set_option maxRecDepth 20000 in
theorem zxh228 : zk_ok1 lw_tbl zxm228 := ⟨List.mem_filter.mpr ⟨zxin7 _ (List.mem_of_getElem? (i := 168) rfl), rfl⟩, zxci_20, zxcn_20, zxcd_58⟩
theorem zxp229 : plainFor zxm229.1 = true := by decide +kernel
set_option maxRecDepth 20000 in
theorem zxt229 : z_MT[229]? = some zxm229 := rfl
set_option maxRecDepth 20000 in
theorem zxh229 : zk_ok1 lw_tbl zxm229 := ⟨List.mem_filter.mpr ⟨zxin7 _ (List.mem_of_getElem? (i := 172) rfl), rfl⟩, zxci_20, zxcn_20, zxcd_1⟩
theorem zxp230 : plainFor zxm230.1 = true := by decide +kernel
set_option maxRecDepth 20000 in
theorem zxt230 : z_MT[230]? = some zxm230 := rfl
set_option maxRecDepth 20000 in
theorem zxh230 : zk_ok1 lw_tbl zxm230 := ⟨List.mem_filter.mpr ⟨zxin7 _ (List.mem_of_getElem? (i := 176) rfl), rfl⟩, zxci_20, zxcn_20, zxcd_10⟩
theorem zxp231 : plainFor zxm231.1 = true := by decide +kernel
set_option maxRecDepth 20000 in
theorem zxt231 : z_MT[231]? = some zxm231 := rfl
set_option maxRecDepth 20000 in
theorem zxh231 : zk_ok1 lw_tbl zxm231 := ⟨List.mem_filter.mpr ⟨zxin7 _ (List.mem_of_getElem? (i := 180) rfl), rfl⟩, zxci_20, zxcn_20, zxcd_18⟩
theorem zxp232 : plainFor zxm232.1 = true := by decide +kernel
set_option maxRecDepth 20000 in
theorem zxt232 : z_MT[232]? = some zxm232 := rfl
set_option maxRecDepth 20000 in
theorem zxh232 : zk_ok1 lw_tbl zxm232 := ⟨List.mem_filter.mpr ⟨zxin7 _ (List.mem_of_getElem? (i := 184) rfl), rfl⟩, zxci_20, zxcn_20, zxcd_18⟩
theorem zxp233 : plainFor zxm233.1 = true := by decide +kernel
set_option maxRecDepth 20000 in
theorem zxt233 : z_MT[233]? = some zxm233 := rfl
set_option maxRecDepth 20000 in
theorem zxh233 : zk_ok1 lw_tbl zxm233 := ⟨List.mem_filter.mpr ⟨zxin7 _ (List.mem_of_getElem? (i := 188) rfl), rfl⟩, zxci_20, zxcn_20, zxcd_0⟩
theorem zxp234 : plainFor zxm234.1 = true := by decide +kernel
set_option maxRecDepth 20000 in
theorem zxt234 : z_MT[234]? = some zxm234 := rfl
set_option maxRecDepth 20000 in
theorem zxh234 : zk_ok1 lw_tbl zxm234 := ⟨List.mem_filter.mpr ⟨zxin7 _ (List.mem_of_getElem? (i := 192) rfl), rfl⟩, zxci_20, zxcn_20, zxcd_58⟩
theorem zxp235 : plainFor zxm235.1 = true := by decide +kernel
set_option maxRecDepth 20000 in
theorem zxt235 : z_MT[235]? = some zxm235 := rfl
set_option maxRecDepth 20000 in
theorem zxh235 : zk_ok1 lw_tbl zxm235 := ⟨List.mem_filter.mpr ⟨zxin7 _ (List.mem_of_getElem? (i := 196) rfl), rfl⟩, zxci_20, zxcn_20, zxcd_16⟩
theorem zxp236 : plainFor zxm236.1 = true := by decide +kernel
set_option maxRecDepth 20000 in
theorem zxt236 : z_MT[236]? = some zxm236 := rfl
set_option maxRecDepth 20000 in
theorem zxh236 : zk_ok1 lw_tbl zxm236 := ⟨List.mem_filter.mpr ⟨zxin7 _ (List.mem_of_getElem? (i := 200) rfl), rfl⟩, zxci_20, zxcn_20, zxcd_10⟩
theorem zxp237 : plainFor zxm237.1 = true := by decide +kernel
set_option maxRecDepth 20000 in
theorem zxt237 : z_MT[237]? = some zxm237 := rfl
set_option maxRecDepth 20000 in
theorem zxh237 : zk_ok1 lw_tbl zxm237 := ⟨List.mem_filter.mpr ⟨zxin7 _ (List.mem_of_getElem? (i := 204) rfl), rfl⟩, zxci_20, zxcn_20, zxcd_12⟩
theorem zxp238 : plainFor zxm238.1 = true := by decide +kernel
set_option maxRecDepth 20000 in
theorem zxt238 : z_MT[238]? = some zxm238 := rfl
set_option maxRecDepth 20000 in
theorem zxh238 : zk_ok1 lw_tbl zxm238 := ⟨List.mem_filter.mpr ⟨zxin7 _ (List.mem_of_getElem? (i := 208) rfl), rfl⟩, zxci_20, zxcn_20, zxcd_14⟩
theorem zxp239 : plainFor zxm239.1 = true := by decide +kernel
set_option maxRecDepth 20000 in
theorem zxt239 : z_MT[239]? = some zxm239 := rfl
set_option maxRecDepth 20000 in
theorem zxh239 : zk_ok1 lw_tbl zxm239 := ⟨List.mem_filter.mpr ⟨zxin7 _ (List.mem_of_getElem? (i := 212) rfl), rfl⟩, zxci_20, zxcn_20, zxcd_12⟩
theorem zxp240 : plainFor zxm240.1 = true := by decide +kernel
set_option maxRecDepth 20000 in
theorem zxt240 : z_MT[240]? = some zxm240 := rfl
set_option maxRecDepth 20000 in
theorem zxh240 : zk_ok1 lw_tbl zxm240 := ⟨List.mem_filter.mpr ⟨zxin7 _ (List.mem_of_getElem? (i := 216) rfl), rfl⟩, zxci_20, zxcn_20, zxcd_14⟩
theorem zxp241 : plainFor zxm241.1 = true := by decide +kernel
set_option maxRecDepth 20000 in
theorem zxt241 : z_MT[241]? = some zxm241 := rfl
set_option maxRecDepth 20000 in
theorem zxh241 : zk_ok1 lw_tbl zxm241 := ⟨List.mem_filter.mpr ⟨zxin7 _ (List.mem_of_getElem? (i := 220) rfl), rfl⟩, zxci_20, zxcn_20, zxcd_9⟩
theorem zxp242 : plainFor zxm242.1 = true := by decide +kernel
set_option maxRecDepth 20000 in
theorem zxt242 : z_MT[242]? = some zxm242 := rfl
set_option maxRecDepth 20000 in
theorem zxh242 : zk_ok1 lw_tbl zxm242 := ⟨List.mem_filter.mpr ⟨zxin7 _ (List.mem_of_getElem? (i := 223) rfl), rfl⟩, zxci_20, zxcn_20, zxcd_12⟩
theorem zxp243 : plainFor zxm243.1 = true := by decide +kernel
set_option maxRecDepth 20000 in
theorem zxt243 : z_MT[243]? = some zxm243 := rfl
set_option maxRecDepth 20000 in
theorem zxh243 : zk_ok1 lw_tbl zxm243 := ⟨List.mem_filter.mpr ⟨zxin7 _ (List.mem_of_getElem? (i := 226) rfl), rfl⟩, zxci_20, zxcn_20, zxcd_14⟩
theorem zxp244 : plainFor zxm244.1 = true := by decide +kernel
set_option maxRecDepth 20000 in
theorem zxt244 : z_MT[244]? = some zxm244 := rfl
set_option maxRecDepth 20000 in
theorem zxh244 : zk_ok1 lw_tbl zxm244 := ⟨List.mem_filter.mpr ⟨zxin7 _ (List.mem_of_getElem? (i := 230) rfl), rfl⟩, zxci_20, zxcn_20, zxcd_10⟩
theorem zxp245 : plainFor zxm245.1 = true := by decide +kernel
set_option maxRecDepth 20000 in
theorem zxt245 : z_MT[245]? = some zxm245 := rfl
set_option maxRecDepth 20000 in
theorem zxh245 : zk_ok1 lw_tbl zxm245 := ⟨List.mem_filter.mpr ⟨zxin7 _ (List.mem_of_getElem? (i := 234) rfl), rfl⟩, zxci_20, zxcn_20, zxcd_16⟩
theorem zxp246 : plainFor zxm246.1 = true := by decide +kernel
set_option maxRecDepth 20000 in
theorem zxt246 : z_MT[246]? = some zxm246 := rfl
set_option maxRecDepth 20000 in
theorem zxh246 : zk_ok1 lw_tbl zxm246 := ⟨List.mem_filter.mpr ⟨zxin7 _ (List.mem_of_getElem? (i := 238) rfl), rfl⟩, zxci_20, zxcn_20, zxcd_0⟩
theorem zxp247 : plainFor zxm247.1 = true := by decide +kernel
set_option maxRecDepth 20000 in
theorem zxt247 : z_MT[247]? = some zxm247 := rfl
set_option maxRecDepth 20000 in
theorem zxh247 : zk_ok1 lw_tbl zxm247 := ⟨List.mem_filter.mpr ⟨zxin8 _ (List.mem_of_getElem? (i := 1) rfl), rfl⟩, zxci_20, zxcn_20, zxcd_31⟩
theorem zxp248 : plainFor zxm248.1 = true := by decide +kernel
set_option maxRecDepth 20000 in
theorem zxt248 : z_MT[248]? = some zxm248 := rfl
set_option maxRecDepth 20000 in
theorem zxh248 : zk_ok1 lw_tbl zxm248 := ⟨List.mem_filter.mpr ⟨zxin8 _ (List.mem_of_getElem? (i := 5) rfl), rfl⟩, zxci_20, zxcn_20, zxcd_10⟩
theorem zxp249 : plainFor zxm249.1 = true := by decide +kernel
set_option maxRecDepth 20000 in
theorem zxt249 : z_MT[249]? = some zxm249 := rfl
set_option maxRecDepth 20000 in
theorem zxh249 : zk_ok1 lw_tbl zxm249 := ⟨List.mem_filter.mpr ⟨zxin8 _ (List.mem_of_getElem? (i := 9) rfl), rfl⟩, zxci_20, zxcn_20, zxcd_12⟩
theorem zxp250 : plainFor zxm250.1 = true := by decide +kernel
set_option maxRecDepth 20000 in
theorem zxt250 : z_MT[250]? = some zxm250 := rfl
set_option maxRecDepth 20000 in
theorem zxh250 : zk_ok1 lw_tbl zxm250 := ⟨List.mem_filter.mpr ⟨zxin8 _ (List.mem_of_getElem? (i := 12) rfl), rfl⟩, zxci_20, zxcn_20, zxcd_33⟩
theorem zxp251 : plainFor zxm251.1 = true := by decide +kernel
set_option maxRecDepth 20000 in
theorem zxt251 : z_MT[251]? = some zxm251 := rfl
set_option maxRecDepth 20000 in
theorem zxh251 : zk_ok1 lw_tbl zxm251 := ⟨List.mem_filter.mpr ⟨zxin8 _ (List.mem_of_getElem? (i := 16) rfl), rfl⟩, zxci_20, zxcn_20, zxcd_31⟩
theorem zxp252 : plainFor zxm252.1 = true := by decide +kernel
set_option maxRecDepth 20000 in
theorem zxt252 : z_MT[252]? = some zxm252 := rfl
set_option maxRecDepth 20000 in
theorem zxh252 : zk_ok1 lw_tbl zxm252 := ⟨List.mem_filter.mpr ⟨zxin8 _ (List.mem_of_getElem? (i := 20) rfl), rfl⟩, zxci_20, zxcn_20, zxcd_16⟩
theorem zxp253 : plainFor zxm253.1 = true := by decide +kernel
set_option maxRecDepth 20000 in
theorem zxt253 : z_MT[253]? = some zxm253 := rfl
set_option maxRecDepth 20000 in
theorem zxh253 : zk_ok1 lw_tbl zxm253 := ⟨List.mem_filter.mpr ⟨zxin8 _ (List.mem_of_getElem? (i := 24) rfl), rfl⟩, zxci_20, zxcn_20, zxcd_8⟩
theorem zxp254 : plainFor zxm254.1 = true := by decide +kernel
set_option maxRecDepth 20000 in
theorem zxt254 : z_MT[254]? = some zxm254 := rfl
set_option maxRecDepth 20000 in
theorem zxh254 : zk_ok1 lw_tbl zxm254 := ⟨List.mem_filter.mpr ⟨zxin8 _ (List.mem_of_getElem? (i := 28) rfl), rfl⟩, zxci_20, zxcn_20, zxcd_33⟩
theorem zxp255 : plainFor zxm255.1 = true := by decide +kernel
set_option maxRecDepth 20000 in
theorem zxt255 : z_MT[255]? = some zxm255 := rfl
set_option maxRecDepth 20000 in
theorem zxh255 : zk_ok1 lw_tbl zxm255 := ⟨List.mem_filter.mpr ⟨zxin8 _ (List.mem_of_getElem? (i := 32) rfl), rfl⟩, zxci_20, zxcn_20, zxcd_0⟩
theorem zxp256 : plainFor zxm256.1 = true := by decide +kernel
set_option maxRecDepth 20000 in
theorem zxt256 : z_MT[256]? = some zxm256 := rfl
set_option maxRecDepth 20000 in
theorem zxh256 : zk_ok1 lw_tbl zxm256 := ⟨List.mem_filter.mpr ⟨zxin8 _ (List.mem_of_getElem? (i := 36) rfl), rfl⟩, zxci_20, zxcn_20, zxcd_14⟩
theorem zxp257 : plainFor zxm257.1 = true := by decide +kernel
set_option maxRecDepth 20000 in
theorem zxt257 : z_MT[257]? = some zxm257 := rfl
set_option maxRecDepth 20000 in
theorem zxh257 : zk_ok1 lw_tbl zxm257 := ⟨List.mem_filter.mpr ⟨zxin8 _ (List.mem_of_getElem? (i := 39) rfl), rfl⟩, zxci_20, zxcn_20, zxcd_14⟩
theorem zxp258 : plainFor zxm258.1 = true := by decide +kernel
set_option maxRecDepth 20000 in
theorem zxt258 : z_MT[258]? = some zxm258 := rfl
set_option maxRecDepth 20000 in
theorem zxh258 : zk_ok1 lw_tbl zxm258 := ⟨List.mem_filter.mpr ⟨zxin8 _ (List.mem_of_getElem? (i := 42) rfl), rfl⟩, zxci_20, zxcn_20, zxcd_12⟩
theorem zxp259 : plainFor zxm259.1 = true := by decide +kernel
set_option maxRecDepth 20000 in
theorem zxt259 : z_MT[259]? = some zxm259 := rfl
set_option maxRecDepth 20000 in
theorem zxh259 : zk_ok1 lw_tbl zxm259 := ⟨List.mem_filter.mpr ⟨zxin8 _ (List.mem_of_getElem? (i := 46) rfl), rfl⟩, zxci_20, zxcn_20, zxcd_1⟩
theorem zxp260 : plainFor zxm260.1 = true := by decide +kernel
set_option maxRecDepth 20000 in
theorem zxt260 : z_MT[260]? = some zxm260 := rfl
set_option maxRecDepth 20000 in
theorem zxh260 : zk_ok1 lw_tbl zxm260 := ⟨List.mem_filter.mpr ⟨zxin8 _ (List.mem_of_getElem? (i := 50) rfl), rfl⟩, zxci_20, zxcn_20, zxcd_1⟩
theorem zxp261 : plainFor zxm261.1 = true := by decide +kernel
set_option maxRecDepth 20000 in
theorem zxt261 : z_MT[261]? = some zxm261 := rfl
set_option maxRecDepth 20000 in
theorem zxh261 : zk_ok1 lw_tbl zxm261 := ⟨List.mem_filter.mpr ⟨zxin8 _ (List.mem_of_getElem? (i := 54) rfl), rfl⟩, zxci_20, zxcn_20, zxcd_1⟩
theorem zxp262 : plainFor zxm262.1 = true := by decide +kernel
set_option maxRecDepth 20000 in
theorem zxt262 : z_MT[262]? = some zxm262 := rfl
set_option maxRecDepth 20000 in
theorem zxh262 : zk_ok1 lw_tbl zxm262 := ⟨List.mem_filter.mpr ⟨zxin8 _ (List.mem_of_getElem? (i := 58) rfl), rfl⟩, zxci_20, zxcn_20, zxcd_33⟩
theorem zxp263 : plainFor zxm263.1 = true := by decide +kernel
set_option maxRecDepth 20000 in
theorem zxt263 : z_MT[263]? = some zxm263 := rfl
set_option maxRecDepth 20000 in
theorem zxh263 : zk_ok1 lw_tbl zxm263 := ⟨List.mem_filter.mpr ⟨zxin8 _ (List.mem_of_getElem? (i := 62) rfl), rfl⟩, zxci_20, zxcn_20, zxcd_14⟩
theorem zxp264 : plainFor zxm264.1 = true := by decide +kernel
set_option maxRecDepth 20000 in
theorem zxt264 : z_MT[264]? = some zxm264 := rfl
set_option maxRecDepth 20000 in
theorem zxh264 : zk_ok1 lw_tbl zxm264 := ⟨List.mem_filter.mpr ⟨zxin8 _ (List.mem_of_getElem? (i := 66) rfl), rfl⟩, zxci_20, zxcn_20, zxcd_18⟩
theorem zxp265 : plainFor zxm265.1 = true := by decide +kernel
set_option maxRecDepth 20000 in
theorem zxt265 : z_MT[265]? = some zxm265 := rfl
set_option maxRecDepth 20000 in
theorem zxh265 : zk_ok1 lw_tbl zxm265 := ⟨List.mem_filter.mpr ⟨zxin8 _ (List.mem_of_getElem? (i := 70) rfl), rfl⟩, zxci_20, zxcn_20, zxcd_18⟩
theorem zxp266 : plainFor zxm266.1 = true := by decide +kernel
set_option maxRecDepth 20000 in
theorem zxt266 : z_MT[266]? = some zxm266 := rfl
set_option maxRecDepth 20000 in
theorem zxh266 : zk_ok1 lw_tbl zxm266 := ⟨List.mem_filter.mpr ⟨zxin8 _ (List.mem_of_getElem? (i := 74) rfl), rfl⟩, zxci_20, zxcn_20, zxcd_9⟩
theorem zxp267 : plainFor zxm267.1 = true := by decide +kernel
set_option maxRecDepth 20000 in
theorem zxt267 : z_MT[267]? = some zxm267 := rfl
set_option maxRecDepth 20000 in
theorem zxh267 : zk_ok1 lw_tbl zxm267 := ⟨List.mem_filter.mpr ⟨zxin8 _ (List.mem_of_getElem? (i := 78) rfl), rfl⟩, zxci_20, zxcn_20, zxcd_33⟩
theorem zxp268 : plainFor zxm268.1 = true := by decide +kernel
set_option maxRecDepth 20000 in
theorem zxt268 : z_MT[268]? = some zxm268 := rfl
set_option maxRecDepth 20000 in
theorem zxh268 : zk_ok1 lw_tbl zxm268 := ⟨List.mem_filter.mpr ⟨zxin8 _ (List.mem_of_getElem? (i := 82) rfl), rfl⟩, zxci_20, zxcn_20, zxcd_14⟩
theorem zxp269 : plainFor zxm269.1 = true := by decide +kernel
set_option maxRecDepth 20000 in
theorem zxt269 : z_MT[269]? = some zxm269 := rfl
set_option maxRecDepth 20000 in
theorem zxh269 : zk_ok1 lw_tbl zxm269 := ⟨List.mem_filter.mpr ⟨zxin8 _ (List.mem_of_getElem? (i := 86) rfl), rfl⟩, zxci_20, zxcn_20, zxcd_0⟩
theorem zxp270 : plainFor zxm270.1 = true := by decide +kernel
set_option maxRecDepth 20000 in
theorem zxt270 : z_MT[270]? = some zxm270 := rfl
set_option maxRecDepth 20000 in
theorem zxh270 : zk_ok1 lw_tbl zxm270 := ⟨List.mem_filter.mpr ⟨zxin8 _ (List.mem_of_getElem? (i := 90) rfl), rfl⟩, zxci_20, zxcn_20, zxcd_9⟩
theorem zxp271 : plainFor zxm271.1 = true := by decide +kernel
set_option maxRecDepth 20000 in
theorem zxt271 : z_MT[271]? = some zxm271 := rfl
set_option maxRecDepth 20000 in
theorem zxh271 : zk_ok1 lw_tbl zxm271 := ⟨List.mem_filter.mpr ⟨zxin8 _ (List.mem_of_getElem? (i := 94) rfl), rfl⟩, zxci_20, zxcn_20, zxcd_14⟩
theorem zxp272 : plainFor zxm272.1 = true := by decide +kernel
set_option maxRecDepth 20000 in
theorem zxt272 : z_MT[272]? = some zxm272 := rfl
set_option maxRecDepth 20000 in
theorem zxh272 : zk_ok1 lw_tbl zxm272 := ⟨List.mem_filter.mpr ⟨zxin8 _ (List.mem_of_getElem? (i := 98) rfl), rfl⟩, zxci_20, zxcn_20, zxcd_10⟩
theorem zxp273 : plainFor zxm273.1 = true := by decide +kernel
set_option maxRecDepth 20000 in
theorem zxt273 : z_MT[273]? = some zxm273 := rfl
set_option maxRecDepth 20000 in
theorem zxh273 : zk_ok1 lw_tbl zxm273 := ⟨List.mem_filter.mpr ⟨zxin8 _ (List.mem_of_getElem? (i := 102) rfl), rfl⟩, zxci_20, zxcn_20, zxcd_12⟩
theorem zxp274 : plainFor zxm274.1 = true := by decide +kernel
set_option maxRecDepth 20000 in
theorem zxt274 : z_MT[274]? = some zxm274 := rfl
set_option maxRecDepth 20000 in
theorem zxh274 : zk_ok1 lw_tbl zxm274 := ⟨List.mem_filter.mpr ⟨zxin8 _ (List.mem_of_getElem? (i := 106) rfl), rfl⟩, zxci_20, zxcn_20, zxcd_14⟩
theorem zxp275 : plainFor zxm275.1 = true := by decide +kernel
set_option maxRecDepth 20000 in
theorem zxt275 : z_MT[275]? = some zxm275 := rfl
set_option maxRecDepth 20000 in
theorem zxh275 : zk_ok1 lw_tbl zxm275 := ⟨List.mem_filter.mpr ⟨zxin8 _ (List.mem_of_getElem? (i := 110) rfl), rfl⟩, zxci_20, zxcn_20, zxcd_0⟩
theorem zxp276 : plainFor zxm276.1 = true := by decide +kernel
set_option maxRecDepth 20000 in
theorem zxt276 : z_MT[276]? = some zxm276 := rfl
set_option maxRecDepth 20000 in
theorem zxh276 : zk_ok1 lw_tbl zxm276 := ⟨List.mem_filter.mpr ⟨zxin8 _ (List.mem_of_getElem? (i := 114) rfl), rfl⟩, zxci_20, zxcn_20, zxcd_16⟩
theorem zxp277 : plainFor zxm277.1 = true := by decide +kernel
set_option maxRecDepth 20000 in
theorem zxt277 : z_MT[277]? = some zxm277 := rfl
set_option maxRecDepth 20000 in
theorem zxh277 : zk_ok1 lw_tbl zxm277 := ⟨List.mem_filter.mpr ⟨zxin8 _ (List.mem_of_getElem? (i := 118) rfl), rfl⟩, zxci_20, zxcn_20, zxcd_12⟩
theorem zxp278 : plainFor zxm278.1 = true := by decide +kernel
set_option maxRecDepth 20000 in
theorem zxt278 : z_MT[278]? = some zxm278 := rfl
theorem zxcd_59 : (parseMethodDescriptor "([III)V").map (fun d => d.parameters.length) = some 3 := by decide +kernel
set_option maxRecDepth 20000 in
theorem zxh278 : zk_ok1 lw_tbl zxm278 := ⟨List.mem_filter.mpr ⟨zxin8 _ (List.mem_of_getElem? (i := 121) rfl), rfl⟩, zxci_20, zxcn_20, zxcd_59⟩
theorem zxp279 : plainFor zxm279.1 = true := by decide +kernel
set_option maxRecDepth 20000 in
theorem zxt279 : z_MT[279]? = some zxm279 := rfl
set_option maxRecDepth 20000 in
theorem zxh279 : zk_ok1 lw_tbl zxm279 := ⟨List.mem_filter.mpr ⟨zxin8 _ (List.mem_of_getElem? (i := 125) rfl), rfl⟩, zxci_20, zxcn_20, zxcd_12⟩
theorem zxp280 : plainFor zxm280.1 = true := by decide +kernel
set_option maxRecDepth 20000 in
theorem zxt280 : z_MT[280]? = some zxm280 := rfl
set_option maxRecDepth 20000 in
theorem zxh280 : zk_ok1 lw_tbl zxm280 := ⟨List.mem_filter.mpr ⟨zxin8 _ (List.mem_of_getElem? (i := 129) rfl), rfl⟩, zxci_20, zxcn_20, zxcd_9⟩
theorem zxp281 : plainFor zxm281.1 = true := by decide +kernel
set_option maxRecDepth 20000 in
theorem zxt281 : z_MT[281]? = some zxm281 := rfl
set_option maxRecDepth 20000 in
theorem zxh281 : zk_ok1 lw_tbl zxm281 := ⟨List.mem_filter.mpr ⟨zxin8 _ (List.mem_of_getElem? (i := 133) rfl), rfl⟩, zxci_20, zxcn_20, zxcd_12⟩
theorem zxp282 : plainFor zxm282.1 = true := by decide +kernel
set_option maxRecDepth 20000 in
theorem zxt282 : z_MT[282]? = some zxm282 := rfl
set_option maxRecDepth 20000 in
theorem zxh282 : zk_ok1 lw_tbl zxm282 := ⟨List.mem_filter.mpr ⟨zxin8 _ (List.mem_of_getElem? (i := 138) rfl), rfl⟩, zxci_20, zxcn_20, zxcd_9⟩
theorem zxp283 : plainFor zxm283.1 = true := by decide +kernel
set_option maxRecDepth 20000 in
theorem zxt283 : z_MT[283]? = some zxm283 := rfl
set_option maxRecDepth 20000 in
theorem zxh283 : zk_ok1 lw_tbl zxm283 := ⟨List.mem_filter.mpr ⟨zxin8 _ (List.mem_of_getElem? (i := 142) rfl), rfl⟩, zxci_20, zxcn_20, zxcd_12⟩
theorem zxp284 : plainFor zxm284.1 = true := by decide +kernel
set_option maxRecDepth 20000 in
theorem zxt284 : z_MT[284]? = some zxm284 := rfl
set_option maxRecDepth 20000 in
theorem zxh284 : zk_ok1 lw_tbl zxm284 := ⟨List.mem_filter.mpr ⟨zxin8 _ (List.mem_of_getElem? (i := 146) rfl), rfl⟩, zxci_20, zxcn_20, zxcd_10⟩
theorem zxp285 : plainFor zxm285.1 = true := by decide +kernel
set_option maxRecDepth 20000 in
theorem zxt285 : z_MT[285]? = some zxm285 := rfl
set_option maxRecDepth 20000 in
theorem zxh285 : zk_ok1 lw_tbl zxm285 := ⟨List.mem_filter.mpr ⟨zxin8 _ (List.mem_of_getElem? (i := 150) rfl), rfl⟩, zxci_20, zxcn_20, zxcd_14⟩
theorem zxp286 : plainFor zxm286.1 = true := by decide +kernel
set_option maxRecDepth 20000 in
theorem zxt286 : z_MT[286]? = some zxm286 := rfl
set_option maxRecDepth 20000 in
theorem zxh286 : zk_ok1 lw_tbl zxm286 := ⟨List.mem_filter.mpr ⟨zxin8 _ (List.mem_of_getElem? (i := 155) rfl), rfl⟩, zxci_20, zxcn_20, zxcd_10⟩
theorem zxp287 : plainFor zxm287.1 = true := by decide +kernel
set_option maxRecDepth 20000 in
theorem zxt287 : z_MT[287]? = some zxm287 := rfl
set_option maxRecDepth 20000 in
theorem zxh287 : zk_ok1 lw_tbl zxm287 := ⟨List.mem_filter.mpr ⟨zxin8 _ (List.mem_of_getElem? (i := 159) rfl), rfl⟩, zxci_20, zxcn_20, zxcd_12⟩
theorem zxp288 : plainFor zxm288.1 = true := by decide +kernel
set_option maxRecDepth 20000 in
theorem zxt288 : z_MT[288]? = some zxm288 := rfl
set_option maxRecDepth 20000 in
theorem zxh288 : zk_ok1 lw_tbl zxm288 := ⟨List.mem_filter.mpr ⟨zxin8 _ (List.mem_of_getElem? (i := 163) rfl), rfl⟩, zxci_20, zxcn_20, zxcd_12⟩
theorem zxp289 : plainFor zxm289.1 = true := by decide +kernel
set_option maxRecDepth 20000 in
theorem zxt289 : z_MT[289]? = some zxm289 := rfl
set_option maxRecDepth 20000 in
theorem zxh289 : zk_ok1 lw_tbl zxm289 := ⟨List.mem_filter.mpr ⟨zxin8 _ (List.mem_of_getElem? (i := 167) rfl), rfl⟩, zxci_20, zxcn_20, zxcd_42⟩
theorem zxp290 : plainFor zxm290.1 = true := by decide +kernel
set_option maxRecDepth 20000 in
theorem zxt290 : z_MT[290]? = some zxm290 := rfl
set_option maxRecDepth 20000 in
theorem zxh290 : zk_ok1 lw_tbl zxm290 := ⟨List.mem_filter.mpr ⟨zxin8 _ (List.mem_of_getElem? (i := 171) rfl), rfl⟩, zxci_20, zxcn_20, zxcd_13⟩
theorem zxp291 : plainFor zxm291.1 = true := by decide +kernel
set_option maxRecDepth 20000 in
theorem zxt291 : z_MT[291]? = some zxm291 := rfl
set_option maxRecDepth 20000 in
theorem zxh291 : zk_ok1 lw_tbl zxm291 := ⟨List.mem_filter.mpr ⟨zxin8 _ (List.mem_of_getElem? (i := 175) rfl), rfl⟩, zxci_20, zxcn_20, zxcd_0⟩
theorem zxp292 : plainFor zxm292.1 = true := by decide +kernel
set_option maxRecDepth 20000 in
theorem zxt292 : z_MT[292]? = some zxm292 := rfl
set_option maxRecDepth 20000 in
theorem zxh292 : zk_ok1 lw_tbl zxm292 := ⟨List.mem_filter.mpr ⟨zxin8 _ (List.mem_of_getElem? (i := 180) rfl), rfl⟩, zxci_20, zxcn_20, zxcd_12⟩
theorem zxp293 : plainFor zxm293.1 = true := by decide +kernel
set_option maxRecDepth 20000 in
theorem zxt293 : z_MT[293]? = some zxm293 := rfl
set_option maxRecDepth 20000 in
theorem zxh293 : zk_ok1 lw_tbl zxm293 := ⟨List.mem_filter.mpr ⟨zxin8 _ (List.mem_of_getElem? (i := 183) rfl), rfl⟩, zxci_20, zxcn_20, zxcd_14⟩
theorem zxp294 : plainFor zxm294.1 = true := by decide +kernel
set_option maxRecDepth 20000 in
theorem zxt294 : z_MT[294]? = some zxm294 := rfl
set_option maxRecDepth 20000 in
theorem zxh294 : zk_ok1 lw_tbl zxm294 := ⟨List.mem_filter.mpr ⟨zxin8 _ (List.mem_of_getElem? (i := 187) rfl), rfl⟩, zxci_20, zxcn_20, zxcd_0⟩
theorem zxp295 : plainFor zxm295.1 = true := by decide +kernel
set_option maxRecDepth 20000 in
theorem zxt295 : z_MT[295]? = some zxm295 := rfl
set_option maxRecDepth 20000 in
theorem zxh295 : zk_ok1 lw_tbl zxm295 := ⟨List.mem_filter.mpr ⟨zxin8 _ (List.mem_of_getElem? (i := 191) rfl), rfl⟩, zxci_20, zxcn_20, zxcd_0⟩
theorem zxp296 : plainFor zxm296.1 = true := by decide +kernel
set_option maxRecDepth 20000 in
theorem zxt296 : z_MT[296]? = some zxm296 := rfl
set_option maxRecDepth 20000 in
theorem zxh296 : zk_ok1 lw_tbl zxm296 := ⟨List.mem_filter.mpr ⟨zxin8 _ (List.mem_of_getElem? (i := 194) rfl), rfl⟩, zxci_20, zxcn_20, zxcd_12⟩
theorem zxp297 : plainFor zxm297.1 = true := by decide +kernel
set_option maxRecDepth 20000 in
theorem zxt297 : z_MT[297]? = some zxm297 := rfl
set_option maxRecDepth 20000 in
theorem zxh297 : zk_ok1 lw_tbl zxm297 := ⟨List.mem_filter.mpr ⟨zxin8 _ (List.mem_of_getElem? (i := 198) rfl), rfl⟩, zxci_20, zxcn_20, zxcd_14⟩
theorem zxp298 : plainFor zxm298.1 = true := by decide +kernel
set_option maxRecDepth 20000 in
theorem zxt298 : z_MT[298]? = some zxm298 := rfl
set_option maxRecDepth 20000 in
theorem zxh298 : zk_ok1 lw_tbl zxm298 := ⟨List.mem_filter.mpr ⟨zxin8 _ (List.mem_of_getElem? (i := 202) rfl), rfl⟩, zxci_20, zxcn_20, zxcd_1⟩
theorem zxp299 : plainFor zxm299.1 = true := by decide +kernel
set_option maxRecDepth 20000 in
theorem zxt299 : z_MT[299]? = some zxm299 := rfl
set_option maxRecDepth 20000 in
theorem zxh299 : zk_ok1 lw_tbl zxm299 := ⟨List.mem_filter.mpr ⟨zxin8 _ (List.mem_of_getElem? (i := 206) rfl), rfl⟩, zxci_20, zxcn_20, zxcd_0⟩
theorem zxp300 : plainFor zxm300.1 = true := by decide +kernel
set_option maxRecDepth 20000 in
theorem zxt300 : z_MT[300]? = some zxm300 := rfl
theorem zxcd_60 : (parseMethodDescriptor "([I[I)V").map (fun d => d.parameters.length) = some 2 := by decide +kernel
set_option maxRecDepth 20000 in
theorem zxh300 : zk_ok1 lw_tbl zxm300 := ⟨List.mem_filter.mpr ⟨zxin8 _ (List.mem_of_getElem? (i := 209) rfl), rfl⟩, zxci_20, zxcn_20, zxcd_60⟩
theorem zxp301 : plainFor zxm301.1 = true := by decide +kernel
set_option maxRecDepth 20000 in
theorem zxt301 : z_MT[301]? = some zxm301 := rfl
set_option maxRecDepth 20000 in
theorem zxh301 : zk_ok1 lw_tbl zxm301 := ⟨List.mem_filter.mpr ⟨zxin8 _ (List.mem_of_getElem? (i := 213) rfl), rfl⟩, zxci_20, zxcn_20, zxcd_0⟩
theorem zxp302 : plainFor zxm302.1 = true := by decide +kernel
set_option maxRecDepth 20000 in
theorem zxt302 : z_MT[302]? = some zxm302 := rfl
set_option maxRecDepth 20000 in
theorem zxh302 : zk_ok1 lw_tbl zxm302 := ⟨List.mem_filter.mpr ⟨zxin8 _ (List.mem_of_getElem? (i := 217) rfl), rfl⟩, zxci_20, zxcn_20, zxcd_33⟩
theorem zxp303 : plainFor zxm303.1 = true := by decide +kernel
set_option maxRecDepth 20000 in
theorem zxt303 : z_MT[303]? = some zxm303 := rfl
theorem zxcd_61 : (parseMethodDescriptor "(I[I)V").map (fun d => d.parameters.length) = some 2 := by decide +kernel
set_option maxRecDepth 20000 in
theorem zxh303 : zk_ok1 lw_tbl zxm303 := ⟨List.mem_filter.mpr ⟨zxin8 _ (List.mem_of_getElem? (i := 221) rfl), rfl⟩, zxci_20, zxcn_20, zxcd_61⟩
theorem zxp304 : plainFor zxm304.1 = true := by decide +kernel
set_option maxRecDepth 20000 in
theorem zxt304 : z_MT[304]? = some zxm304 := rfl
set_option maxRecDepth 20000 in
theorem zxh304 : zk_ok1 lw_tbl zxm304 := ⟨List.mem_filter.mpr ⟨zxin8 _ (List.mem_of_getElem? (i := 224) rfl), rfl⟩, zxci_20, zxcn_20, zxcd_12⟩
theorem zxp305 : plainFor zxm305.1 = true := by decide +kernel
set_option maxRecDepth 20000 in
theorem zxt305 : z_MT[305]? = some zxm305 := rfl
set_option maxRecDepth 20000 in
theorem zxh305 : zk_ok1 lw_tbl zxm305 := ⟨List.mem_filter.mpr ⟨zxin8 _ (List.mem_of_getElem? (i := 228) rfl), rfl⟩, zxci_20, zxcn_20, zxcd_15⟩
theorem zxp306 : plainFor zxm306.1 = true := by decide +kernel
set_option maxRecDepth 20000 in
theorem zxt306 : z_MT[306]? = some zxm306 := rfl
set_option maxRecDepth 20000 in
theorem zxh306 : zk_ok1 lw_tbl zxm306 := ⟨List.mem_filter.mpr ⟨zxin8 _ (List.mem_of_getElem? (i := 232) rfl), rfl⟩, zxci_20, zxcn_20, zxcd_31⟩
theorem zxp307 : plainFor zxm307.1 = true := by decide +kernel
set_option maxRecDepth 20000 in
theorem zxt307 : z_MT[307]? = some zxm307 := rfl
set_option maxRecDepth 20000 in
theorem zxh307 : zk_ok1 lw_tbl zxm307 := ⟨List.mem_filter.mpr ⟨zxin8 _ (List.mem_of_getElem? (i := 236) rfl), rfl⟩, zxci_20, zxcn_20, zxcd_15⟩
theorem zxp308 : plainFor zxm308.1 = true := by decide +kernel
set_option maxRecDepth 20000 in
theorem zxt308 : z_MT[308]? = some zxm308 := rfl
set_option maxRecDepth 20000 in
theorem zxh308 : zk_ok1 lw_tbl zxm308 := ⟨List.mem_filter.mpr ⟨zxin9 _ (List.mem_of_getElem? (i := 0) rfl), rfl⟩, zxci_20, zxcn_20, zxcd_8⟩
theorem zxp309 : plainFor zxm309.1 = true := by decide +kernel
set_option maxRecDepth 20000 in
theorem zxt309 : z_MT[309]? = some zxm309 := rfl
theorem zxcd_62 : (parseMethodDescriptor "(IIIIII)Z").map (fun d => d.parameters.length) = some 6 := by decide +kernel
set_option maxRecDepth 20000 in
theorem zxh309 : zk_ok1 lw_tbl zxm309 := ⟨List.mem_filter.mpr ⟨zxin9 _ (List.mem_of_getElem? (i := 4) rfl), rfl⟩, zxci_20, zxcn_20, zxcd_62⟩
theorem zxp310 : plainFor zxm310.1 = true := by decide +kernel
set_option maxRecDepth 20000 in
theorem zxt310 : z_MT[310]? = some zxm310 := rfl
set_option maxRecDepth 20000 in
theorem zxh310 : zk_ok1 lw_tbl zxm310 := ⟨List.mem_filter.mpr ⟨zxin9 _ (List.mem_of_getElem? (i := 8) rfl), rfl⟩, zxci_20, zxcn_20, zxcd_33⟩
theorem zxp311 : plainFor zxm311.1 = true := by decide +kernel
set_option maxRecDepth 20000 in
theorem zxt311 : z_MT[311]? = some zxm311 := rfl
set_option maxRecDepth 20000 in
theorem zxh311 : zk_ok1 lw_tbl zxm311 := ⟨List.mem_filter.mpr ⟨zxin9 _ (List.mem_of_getElem? (i := 12) rfl), rfl⟩, zxci_20, zxcn_20, zxcd_29⟩
theorem zxp312 : plainFor zxm312.1 = true := by decide +kernel
set_option maxRecDepth 20000 in
theorem zxt312 : z_MT[312]? = some zxm312 := rfl
set_option maxRecDepth 20000 in
theorem zxh312 : zk_ok1 lw_tbl zxm312 := ⟨List.mem_filter.mpr ⟨zxin9 _ (List.mem_of_getElem? (i := 16) rfl), rfl⟩, zxci_20, zxcn_20, zxcd_33⟩
theorem zxp313 : plainFor zxm313.1 = true := by decide +kernel
set_option maxRecDepth 20000 in
theorem zxt313 : z_MT[313]? = some zxm313 := rfl
set_option maxRecDepth 20000 in
theorem zxh313 : zk_ok1 lw_tbl zxm313 := ⟨List.mem_filter.mpr ⟨zxin9 _ (List.mem_of_getElem? (i := 20) rfl), rfl⟩, zxci_20, zxcn_20, zxcd_33⟩
theorem zxp314 : plainFor zxm314.1 = true := by decide +kernel
set_option maxRecDepth 20000 in
theorem zxt314 : z_MT[314]? = some zxm314 := rfl
set_option maxRecDepth 20000 in
theorem zxh314 : zk_ok1 lw_tbl zxm314 := ⟨List.mem_filter.mpr ⟨zxin9 _ (List.mem_of_getElem? (i := 24) rfl), rfl⟩, zxci_20, zxcn_20, zxcd_12⟩
theorem zxp315 : plainFor zxm315.1 = true := by decide +kernel
set_option maxRecDepth 20000 in
theorem zxt315 : z_MT[315]? = some zxm315 := rfl
set_option maxRecDepth 20000 in
theorem zxh315 : zk_ok1 lw_tbl zxm315 := ⟨List.mem_filter.mpr ⟨zxin9 _ (List.mem_of_getElem? (i := 28) rfl), rfl⟩, zxci_20, zxcn_20, zxcd_10⟩
theorem zxp316 : plainFor zxm316.1 = true := by decide +kernel
set_option maxRecDepth 20000 in
theorem zxt316 : z_MT[316]? = some zxm316 := rfl
set_option maxRecDepth 20000 in
theorem zxh316 : zk_ok1 lw_tbl zxm316 := ⟨List.mem_filter.mpr ⟨zxin9 _ (List.mem_of_getElem? (i := 32) rfl), rfl⟩, zxci_20, zxcn_20, zxcd_12⟩
theorem zxp317 : plainFor zxm317.1 = true := by decide +kernel
set_option maxRecDepth 20000 in
theorem zxt317 : z_MT[317]? = some zxm317 := rfl
set_option maxRecDepth 20000 in
theorem zxh317 : zk_ok1 lw_tbl zxm317 := ⟨List.mem_filter.mpr ⟨zxin9 _ (List.mem_of_getElem? (i := 36) rfl), rfl⟩, zxci_20, zxcn_20, zxcd_12⟩
theorem zxp318 : plainFor zxm318.1 = true := by decide +kernel
set_option maxRecDepth 20000 in
theorem zxt318 : z_MT[318]? = some zxm318 := rfl
set_option maxRecDepth 20000 in
theorem zxh318 : zk_ok1 lw_tbl zxm318 := ⟨List.mem_filter.mpr ⟨zxin9 _ (List.mem_of_getElem? (i := 40) rfl), rfl⟩, zxci_20, zxcn_20, zxcd_10⟩
theorem zxp319 : plainFor zxm319.1 = true := by decide +kernel
set_option maxRecDepth 20000 in
theorem zxt319 : z_MT[319]? = some zxm319 := rfl
set_option maxRecDepth 20000 in
theorem zxh319 : zk_ok1 lw_tbl zxm319 := ⟨List.mem_filter.mpr ⟨zxin9 _ (List.mem_of_getElem? (i := 45) rfl), rfl⟩, zxci_20, zxcn_20, zxcd_1⟩
theorem zxp320 : plainFor zxm320.1 = true := by decide +kernel
set_option maxRecDepth 20000 in
theorem zxt320 : z_MT[320]? = some zxm320 := rfl
set_option maxRecDepth 20000 in
theorem zxh320 : zk_ok1 lw_tbl zxm320 := ⟨List.mem_filter.mpr ⟨zxin9 _ (List.mem_of_getElem? (i := 49) rfl), rfl⟩, zxci_20, zxcn_20, zxcd_18⟩
theorem zxp321 : plainFor zxm321.1 = true := by decide +kernel
set_option maxRecDepth 20000 in
theorem zxt321 : z_MT[321]? = some zxm321 := rfl
set_option maxRecDepth 20000 in
theorem zxh321 : zk_ok1 lw_tbl zxm321 := ⟨List.mem_filter.mpr ⟨zxin9 _ (List.mem_of_getElem? (i := 53) rfl), rfl⟩, zxci_20, zxcn_20, zxcd_14⟩
theorem zxp322 : plainFor zxm322.1 = true := by decide +kernel
set_option maxRecDepth 20000 in
theorem zxt322 : z_MT[322]? = some zxm322 := rfl
set_option maxRecDepth 20000 in
theorem zxh322 : zk_ok1 lw_tbl zxm322 := ⟨List.mem_filter.mpr ⟨zxin9 _ (List.mem_of_getElem? (i := 57) rfl), rfl⟩, zxci_20, zxcn_20, zxcd_14⟩
theorem zxp323 : plainFor zxm323.1 = true := by decide +kernel
set_option maxRecDepth 20000 in
theorem zxt323 : z_MT[323]? = some zxm323 := rfl
set_option maxRecDepth 20000 in
theorem zxh323 : zk_ok1 lw_tbl zxm323 := ⟨List.mem_filter.mpr ⟨zxin9 _ (List.mem_of_getElem? (i := 61) rfl), rfl⟩, zxci_20, zxcn_20, zxcd_14⟩
theorem zxp324 : plainFor zxm324.1 = true := by decide +kernel
set_option maxRecDepth 20000 in
theorem zxt324 : z_MT[324]? = some zxm324 := rfl
set_option maxRecDepth 20000 in
theorem zxh324 : zk_ok1 lw_tbl zxm324 := ⟨List.mem_filter.mpr ⟨zxin9 _ (List.mem_of_getElem? (i := 65) rfl), rfl⟩, zxci_20, zxcn_20, zxcd_1⟩
theorem zxhM0 : ∀ mm ∈ zxMT0, zk_ok1 lw_tbl mm := List.forall_mem_cons.mpr ⟨zxh0, List.forall_mem_cons.mpr ⟨zxh1, List.forall_mem_cons.mpr ⟨zxh2, List.forall_mem_cons.mpr ⟨zxh3, List.forall_mem_cons.mpr ⟨zxh4, List.forall_mem_cons.mpr ⟨zxh5, List.forall_mem_cons.mpr ⟨zxh6, List.forall_mem_cons.mpr ⟨zxh7, List.forall_mem_cons.mpr ⟨zxh8, List.forall_mem_cons.mpr ⟨zxh9, List.forall_mem_cons.mpr ⟨zxh10, List.forall_mem_cons.mpr ⟨zxh11, List.forall_mem_cons.mpr ⟨zxh12, List.forall_mem_cons.mpr ⟨zxh13, List.forall_mem_cons.mpr ⟨zxh14, List.forall_mem_cons.mpr ⟨zxh15, List.forall_mem_cons.mpr ⟨zxh16, List.forall_mem_cons.mpr ⟨zxh17, List.forall_mem_cons.mpr ⟨zxh18, List.forall_mem_cons.mpr ⟨zxh19, List.forall_mem_cons.mpr ⟨zxh20, List.forall_mem_cons.mpr ⟨zxh21, List.forall_mem_cons.mpr ⟨zxh22, List.forall_mem_cons.mpr ⟨zxh23, List.forall_mem_cons.mpr ⟨zxh24, List.forall_mem_cons.mpr ⟨zxh25, List.forall_mem_cons.mpr ⟨zxh26, List.forall_mem_cons.mpr ⟨zxh27, List.forall_mem_cons.mpr ⟨zxh28, List.forall_mem_cons.mpr ⟨zxh29, List.forall_mem_cons.mpr ⟨zxh30, List.forall_mem_cons.mpr ⟨zxh31, List.forall_mem_cons.mpr ⟨zxh32, List.forall_mem_cons.mpr ⟨zxh33, List.forall_mem_cons.mpr ⟨zxh34, List.forall_mem_cons.mpr ⟨zxh35, List.forall_mem_cons.mpr ⟨zxh36, List.forall_mem_cons.mpr ⟨zxh37, List.forall_mem_cons.mpr ⟨zxh38, List.forall_mem_cons.mpr ⟨zxh39, List.forall_mem_cons.mpr ⟨zxh40, List.forall_mem_cons.mpr ⟨zxh41, List.forall_mem_cons.mpr ⟨zxh42, List.forall_mem_cons.mpr ⟨zxh43, List.forall_mem_cons.mpr ⟨zxh44, List.forall_mem_cons.mpr ⟨zxh45, List.forall_mem_cons.mpr ⟨zxh46, List.forall_mem_cons.mpr ⟨zxh47, List.forall_mem_cons.mpr ⟨zxh48, List.forall_mem_cons.mpr ⟨zxh49, fun _ h => absurd h List.not_mem_nil⟩⟩⟩⟩⟩⟩⟩⟩⟩⟩⟩⟩⟩⟩⟩⟩⟩⟩⟩⟩⟩⟩⟩⟩⟩⟩⟩⟩⟩⟩⟩⟩⟩⟩⟩⟩⟩⟩⟩⟩⟩⟩⟩⟩⟩⟩⟩⟩⟩⟩
theorem zxhM1 : ∀ mm ∈ zxMT1, zk_ok1 lw_tbl mm := List.forall_mem_cons.mpr ⟨zxh50, List.forall_mem_cons.mpr ⟨zxh51, List.forall_mem_cons.mpr ⟨zxh52, List.forall_mem_cons.mpr ⟨zxh53, List.forall_mem_cons.mpr ⟨zxh54, List.forall_mem_cons.mpr ⟨zxh55, List.forall_mem_cons.mpr ⟨zxh56, List.forall_mem_cons.mpr ⟨zxh57, List.forall_mem_cons.mpr ⟨zxh58, List.forall_mem_cons.mpr ⟨zxh59, List.forall_mem_cons.mpr ⟨zxh60, List.forall_mem_cons.mpr ⟨zxh61, List.forall_mem_cons.mpr ⟨zxh62, List.forall_mem_cons.mpr ⟨zxh63, List.forall_mem_cons.mpr ⟨zxh64, List.forall_mem_cons.mpr ⟨zxh65, List.forall_mem_cons.mpr ⟨zxh66, List.forall_mem_cons.mpr ⟨zxh67, List.forall_mem_cons.mpr ⟨zxh68, List.forall_mem_cons.mpr ⟨zxh69, List.forall_mem_cons.mpr ⟨zxh70, List.forall_mem_cons.mpr ⟨zxh71, List.forall_mem_cons.mpr ⟨zxh72, List.forall_mem_cons.mpr ⟨zxh73, List.forall_mem_cons.mpr ⟨zxh74, List.forall_mem_cons.mpr ⟨zxh75, List.forall_mem_cons.mpr ⟨zxh76, List.forall_mem_cons.mpr ⟨zxh77, List.forall_mem_cons.mpr ⟨zxh78, List.forall_mem_cons.mpr ⟨zxh79, List.forall_mem_cons.mpr ⟨zxh80, List.forall_mem_cons.mpr ⟨zxh81, List.forall_mem_cons.mpr ⟨zxh82, List.forall_mem_cons.mpr ⟨zxh83, List.forall_mem_cons.mpr ⟨zxh84, List.forall_mem_cons.mpr ⟨zxh85, List.forall_mem_cons.mpr ⟨zxh86, List.forall_mem_cons.mpr ⟨zxh87, List.forall_mem_cons.mpr ⟨zxh88, List.forall_mem_cons.mpr ⟨zxh89, List.forall_mem_cons.mpr ⟨zxh90, List.forall_mem_cons.mpr ⟨zxh91, List.forall_mem_cons.mpr ⟨zxh92, List.forall_mem_cons.mpr ⟨zxh93, List.forall_mem_cons.mpr ⟨zxh94, List.forall_mem_cons.mpr ⟨zxh95, List.forall_mem_cons.mpr ⟨zxh96, List.forall_mem_cons.mpr ⟨zxh97, List.forall_mem_cons.mpr ⟨zxh98, List.forall_mem_cons.mpr ⟨zxh99, fun _ h => absurd h List.not_mem_nil⟩⟩⟩⟩⟩⟩⟩⟩⟩⟩⟩⟩⟩⟩⟩⟩⟩⟩⟩⟩⟩⟩⟩⟩⟩⟩⟩⟩⟩⟩⟩⟩⟩⟩⟩⟩⟩⟩⟩⟩⟩⟩⟩⟩⟩⟩⟩⟩⟩⟩
theorem zxhM2 : ∀ mm ∈ zxMT2, zk_ok1 lw_tbl mm := List.forall_mem_cons.mpr ⟨zxh100, List.forall_mem_cons.mpr ⟨zxh101, List.forall_mem_cons.mpr ⟨zxh102, List.forall_mem_cons.mpr ⟨zxh103, List.forall_mem_cons.mpr ⟨zxh104, List.forall_mem_cons.mpr ⟨zxh105, List.forall_mem_cons.mpr ⟨zxh106, List.forall_mem_cons.mpr ⟨zxh107, List.forall_mem_cons.mpr ⟨zxh108, List.forall_mem_cons.mpr ⟨zxh109, List.forall_mem_cons.mpr ⟨zxh110, List.forall_mem_cons.mpr ⟨zxh111, List.forall_mem_cons.mpr ⟨zxh112, List.forall_mem_cons.mpr ⟨zxh113, List.forall_mem_cons.mpr ⟨zxh114, List.forall_mem_cons.mpr ⟨zxh115, List.forall_mem_cons.mpr ⟨zxh116, List.forall_mem_cons.mpr ⟨zxh117, List.forall_mem_cons.mpr ⟨zxh118, List.forall_mem_cons.mpr ⟨zxh119, List.forall_mem_cons.mpr ⟨zxh120, List.forall_mem_cons.mpr ⟨zxh121, List.forall_mem_cons.mpr ⟨zxh122, List.forall_mem_cons.mpr ⟨zxh123, List.forall_mem_cons.mpr ⟨zxh124, List.forall_mem_cons.mpr ⟨zxh125, List.forall_mem_cons.mpr ⟨zxh126, List.forall_mem_cons.mpr ⟨zxh127, List.forall_mem_cons.mpr ⟨zxh128, List.forall_mem_cons.mpr ⟨zxh129, List.forall_mem_cons.mpr ⟨zxh130, List.forall_mem_cons.mpr ⟨zxh131, List.forall_mem_cons.mpr ⟨zxh132, List.forall_mem_cons.mpr ⟨zxh133, List.forall_mem_cons.mpr ⟨zxh134, List.forall_mem_cons.mpr ⟨zxh135, List.forall_mem_cons.mpr ⟨zxh136, List.forall_mem_cons.mpr ⟨zxh137, List.forall_mem_cons.mpr ⟨zxh138, List.forall_mem_cons.mpr ⟨zxh139, List.forall_mem_cons.mpr ⟨zxh140, List.forall_mem_cons.mpr ⟨zxh141, List.forall_mem_cons.mpr ⟨zxh142, List.forall_mem_cons.mpr ⟨zxh143, List.forall_mem_cons.mpr ⟨zxh144, List.forall_mem_cons.mpr ⟨zxh145, List.forall_mem_cons.mpr ⟨zxh146, List.forall_mem_cons.mpr ⟨zxh147, List.forall_mem_cons.mpr ⟨zxh148, List.forall_mem_cons.mpr ⟨zxh149, fun _ h => absurd h List.not_mem_nil⟩⟩⟩⟩⟩⟩⟩⟩⟩⟩⟩⟩⟩⟩⟩⟩⟩⟩⟩⟩⟩⟩⟩⟩⟩⟩⟩⟩⟩⟩⟩⟩⟩⟩⟩⟩⟩⟩⟩⟩⟩⟩⟩⟩⟩⟩⟩⟩⟩⟩
theorem zxhM3 : ∀ mm ∈ zxMT3, zk_ok1 lw_tbl mm := List.forall_mem_cons.mpr ⟨zxh150, List.forall_mem_cons.mpr ⟨zxh151, List.forall_mem_cons.mpr ⟨zxh152, List.forall_mem_cons.mpr ⟨zxh153, List.forall_mem_cons.mpr ⟨zxh154, List.forall_mem_cons.mpr ⟨zxh155, List.forall_mem_cons.mpr ⟨zxh156, List.forall_mem_cons.mpr ⟨zxh157, List.forall_mem_cons.mpr ⟨zxh158, List.forall_mem_cons.mpr ⟨zxh159, List.forall_mem_cons.mpr ⟨zxh160, List.forall_mem_cons.mpr ⟨zxh161, List.forall_mem_cons.mpr ⟨zxh162, List.forall_mem_cons.mpr ⟨zxh163, List.forall_mem_cons.mpr ⟨zxh164, List.forall_mem_cons.mpr ⟨zxh165, List.forall_mem_cons.mpr ⟨zxh166, List.forall_mem_cons.mpr ⟨zxh167, List.forall_mem_cons.mpr ⟨zxh168, List.forall_mem_cons.mpr ⟨zxh169, List.forall_mem_cons.mpr ⟨zxh170, List.forall_mem_cons.mpr ⟨zxh171, List.forall_mem_cons.mpr ⟨zxh172, List.forall_mem_cons.mpr ⟨zxh173, List.forall_mem_cons.mpr ⟨zxh174, List.forall_mem_cons.mpr ⟨zxh175, List.forall_mem_cons.mpr ⟨zxh176, List.forall_mem_cons.mpr ⟨zxh177, List.forall_mem_cons.mpr ⟨zxh178, List.forall_mem_cons.mpr ⟨zxh179, List.forall_mem_cons.mpr ⟨zxh180, List.forall_mem_cons.mpr ⟨zxh181, List.forall_mem_cons.mpr ⟨zxh182, List.forall_mem_cons.mpr ⟨zxh183, List.forall_mem_cons.mpr ⟨zxh184, List.forall_mem_cons.mpr ⟨zxh185, List.forall_mem_cons.mpr ⟨zxh186, List.forall_mem_cons.mpr ⟨zxh187, List.forall_mem_cons.mpr ⟨zxh188, List.forall_mem_cons.mpr ⟨zxh189, List.forall_mem_cons.mpr ⟨zxh190, List.forall_mem_cons.mpr ⟨zxh191, List.forall_mem_cons.mpr ⟨zxh192, List.forall_mem_cons.mpr ⟨zxh193, List.forall_mem_cons.mpr ⟨zxh194, List.forall_mem_cons.mpr ⟨zxh195, List.forall_mem_cons.mpr ⟨zxh196, List.forall_mem_cons.mpr ⟨zxh197, List.forall_mem_cons.mpr ⟨zxh198, List.forall_mem_cons.mpr ⟨zxh199, fun _ h => absurd h List.not_mem_nil⟩⟩⟩⟩⟩⟩⟩⟩⟩⟩⟩⟩⟩⟩⟩⟩⟩⟩⟩⟩⟩⟩⟩⟩⟩⟩⟩⟩⟩⟩⟩⟩⟩⟩⟩⟩⟩⟩⟩⟩⟩⟩⟩⟩⟩⟩⟩⟩⟩⟩
theorem zxhM4 : ∀ mm ∈ zxMT4, zk_ok1 lw_tbl mm := List.forall_mem_cons.mpr ⟨zxh200, List.forall_mem_cons.mpr ⟨zxh201, List.forall_mem_cons.mpr ⟨zxh202, List.forall_mem_cons.mpr ⟨zxh203, List.forall_mem_cons.mpr ⟨zxh204, List.forall_mem_cons.mpr ⟨zxh205, List.forall_mem_cons.mpr ⟨zxh206, List.forall_mem_cons.mpr ⟨zxh207, List.forall_mem_cons.mpr ⟨zxh208, List.forall_mem_cons.mpr ⟨zxh209, List.forall_mem_cons.mpr ⟨zxh210, List.forall_mem_cons.mpr ⟨zxh211, List.forall_mem_cons.mpr ⟨zxh212, List.forall_mem_cons.mpr ⟨zxh213, List.forall_mem_cons.mpr ⟨zxh214, List.forall_mem_cons.mpr ⟨zxh215, List.forall_mem_cons.mpr ⟨zxh216, List.forall_mem_cons.mpr ⟨zxh217, List.forall_mem_cons.mpr ⟨zxh218, List.forall_mem_cons.mpr ⟨zxh219, List.forall_mem_cons.mpr ⟨zxh220, List.forall_mem_cons.mpr ⟨zxh221, List.forall_mem_cons.mpr ⟨zxh222, List.forall_mem_cons.mpr ⟨zxh223, List.forall_mem_cons.mpr ⟨zxh224, List.forall_mem_cons.mpr ⟨zxh225, List.forall_mem_cons.mpr ⟨zxh226, List.forall_mem_cons.mpr ⟨zxh227, List.forall_mem_cons.mpr ⟨zxh228, List.forall_mem_cons.mpr ⟨zxh229, List.forall_mem_cons.mpr ⟨zxh230, List.forall_mem_cons.mpr ⟨zxh231, List.forall_mem_cons.mpr ⟨zxh232, List.forall_mem_cons.mpr ⟨zxh233, List.forall_mem_cons.mpr ⟨zxh234, List.forall_mem_cons.mpr ⟨zxh235, List.forall_mem_cons.mpr ⟨zxh236, List.forall_mem_cons.mpr ⟨zxh237, List.forall_mem_cons.mpr ⟨zxh238, List.forall_mem_cons.mpr ⟨zxh239, List.forall_mem_cons.mpr ⟨zxh240, List.forall_mem_cons.mpr ⟨zxh241, List.forall_mem_cons.mpr ⟨zxh242, List.forall_mem_cons.mpr ⟨zxh243, List.forall_mem_cons.mpr ⟨zxh244, List.forall_mem_cons.mpr ⟨zxh245, List.forall_mem_cons.mpr ⟨zxh246, List.forall_mem_cons.mpr ⟨zxh247, List.forall_mem_cons.mpr ⟨zxh248, List.forall_mem_cons.mpr ⟨zxh249, fun _ h => absurd h List.not_mem_nil⟩⟩⟩⟩⟩⟩⟩⟩⟩⟩⟩⟩⟩⟩⟩⟩⟩⟩⟩⟩⟩⟩⟩⟩⟩⟩⟩⟩⟩⟩⟩⟩⟩⟩⟩⟩⟩⟩⟩⟩⟩⟩⟩⟩⟩⟩⟩⟩⟩⟩
theorem zxhM5 : ∀ mm ∈ zxMT5, zk_ok1 lw_tbl mm := List.forall_mem_cons.mpr ⟨zxh250, List.forall_mem_cons.mpr ⟨zxh251, List.forall_mem_cons.mpr ⟨zxh252, List.forall_mem_cons.mpr ⟨zxh253, List.forall_mem_cons.mpr ⟨zxh254, List.forall_mem_cons.mpr ⟨zxh255, List.forall_mem_cons.mpr ⟨zxh256, List.forall_mem_cons.mpr ⟨zxh257, List.forall_mem_cons.mpr ⟨zxh258, List.forall_mem_cons.mpr ⟨zxh259, List.forall_mem_cons.mpr ⟨zxh260, List.forall_mem_cons.mpr ⟨zxh261, List.forall_mem_cons.mpr ⟨zxh262, List.forall_mem_cons.mpr ⟨zxh263, List.forall_mem_cons.mpr ⟨zxh264, List.forall_mem_cons.mpr ⟨zxh265, List.forall_mem_cons.mpr ⟨zxh266, List.forall_mem_cons.mpr ⟨zxh267, List.forall_mem_cons.mpr ⟨zxh268, List.forall_mem_cons.mpr ⟨zxh269, List.forall_mem_cons.mpr ⟨zxh270, List.forall_mem_cons.mpr ⟨zxh271, List.forall_mem_cons.mpr ⟨zxh272, List.forall_mem_cons.mpr ⟨zxh273, List.forall_mem_cons.mpr ⟨zxh274, List.forall_mem_cons.mpr ⟨zxh275, List.forall_mem_cons.mpr ⟨zxh276, List.forall_mem_cons.mpr ⟨zxh277, List.forall_mem_cons.mpr ⟨zxh278, List.forall_mem_cons.mpr ⟨zxh279, List.forall_mem_cons.mpr ⟨zxh280, List.forall_mem_cons.mpr ⟨zxh281, List.forall_mem_cons.mpr ⟨zxh282, List.forall_mem_cons.mpr ⟨zxh283, List.forall_mem_cons.mpr ⟨zxh284, List.forall_mem_cons.mpr ⟨zxh285, List.forall_mem_cons.mpr ⟨zxh286, List.forall_mem_cons.mpr ⟨zxh287, List.forall_mem_cons.mpr ⟨zxh288, List.forall_mem_cons.mpr ⟨zxh289, List.forall_mem_cons.mpr ⟨zxh290, List.forall_mem_cons.mpr ⟨zxh291, List.forall_mem_cons.mpr ⟨zxh292, List.forall_mem_cons.mpr ⟨zxh293, List.forall_mem_cons.mpr ⟨zxh294, List.forall_mem_cons.mpr ⟨zxh295, List.forall_mem_cons.mpr ⟨zxh296, List.forall_mem_cons.mpr ⟨zxh297, List.forall_mem_cons.mpr ⟨zxh298, List.forall_mem_cons.mpr ⟨zxh299, fun _ h => absurd h List.not_mem_nil⟩⟩⟩⟩⟩⟩⟩⟩⟩⟩⟩⟩⟩⟩⟩⟩⟩⟩⟩⟩⟩⟩⟩⟩⟩⟩⟩⟩⟩⟩⟩⟩⟩⟩⟩⟩⟩⟩⟩⟩⟩⟩⟩⟩⟩⟩⟩⟩⟩⟩
theorem zxhM6 : ∀ mm ∈ zxMT6, zk_ok1 lw_tbl mm := List.forall_mem_cons.mpr ⟨zxh300, List.forall_mem_cons.mpr ⟨zxh301, List.forall_mem_cons.mpr ⟨zxh302, List.forall_mem_cons.mpr ⟨zxh303, List.forall_mem_cons.mpr ⟨zxh304, List.forall_mem_cons.mpr ⟨zxh305, List.forall_mem_cons.mpr ⟨zxh306, List.forall_mem_cons.mpr ⟨zxh307, List.forall_mem_cons.mpr ⟨zxh308, List.forall_mem_cons.mpr ⟨zxh309, List.forall_mem_cons.mpr ⟨zxh310, List.forall_mem_cons.mpr ⟨zxh311, List.forall_mem_cons.mpr ⟨zxh312, List.forall_mem_cons.mpr ⟨zxh313, List.forall_mem_cons.mpr ⟨zxh314, List.forall_mem_cons.mpr ⟨zxh315, List.forall_mem_cons.mpr ⟨zxh316, List.forall_mem_cons.mpr ⟨zxh317, List.forall_mem_cons.mpr ⟨zxh318, List.forall_mem_cons.mpr ⟨zxh319, List.forall_mem_cons.mpr ⟨zxh320, List.forall_mem_cons.mpr ⟨zxh321, List.forall_mem_cons.mpr ⟨zxh322, List.forall_mem_cons.mpr ⟨zxh323, List.forall_mem_cons.mpr ⟨zxh324, fun _ h => absurd h List.not_mem_nil⟩⟩⟩⟩⟩⟩⟩⟩⟩⟩⟩⟩⟩⟩⟩⟩⟩⟩⟩⟩⟩⟩⟩⟩⟩
theorem z_kM : ∀ mm ∈ z_MT, zk_ok1 lw_tbl mm := List.forall_mem_append.mpr ⟨zxhM0, List.forall_mem_append.mpr ⟨zxhM1, List.forall_mem_append.mpr ⟨zxhM2, List.forall_mem_append.mpr ⟨zxhM3, List.forall_mem_append.mpr ⟨zxhM4, List.forall_mem_append.mpr ⟨zxhM5, zxhM6⟩⟩⟩⟩⟩⟩
def z_pC : List (List Nat) := [[571, 573, 575, 577, 579, 581, 583, 585, 587, 589, 591, 593, 595, 597, 599, 601, 603, 605, 607], [188, 190, 192, 194, 196, 198, 200, 202, 204, 206, 208, 210], [225, 227, 229], [242, 244], [288, 290, 292, 294, 296, 298, 300, 302, 304, 306, 308, 310, 312, 314, 316], [331, 333, 335, 337, 339], [355, 357, 359], [388, 390, 392, 394, 396, 398, 400, 402, 404, 406], [423, 425, 427, 429, 431, 433, 435], [463, 465, 467, 469, 471, 473, 475, 477, 479, 481, 483, 485, 487, 489, 491], [507, 509, 511, 513, 515, 517, 519], [537, 539, 541, 543, 545, 547, 549], [1478, 1480, 1482, 1484, 1486, 1488, 1490, 1492, 1494, 1496, 1498, 1500, 1502, 1504, 1506, 1508, 1510, 1512, 1514, 1516, 1518, 1520, 1522, 1524, 1526, 1528, 1530, 1532, 1534, 1536, 1538, 1540, 1542, 1544, 1546, 1548, 1550, 1552, 1554, 1556, 1558, 1560, 1562, 1564, 1566, 1568, 1570, 1572, 1574, 1576, 1578, 1580, 1582, 1584, 1586, 1588, 1590, 1592, 1594, 1596, 1598, 1600, 1602, 1604]]
theorem z_kcl : zk_cls lw_tbl z_FT 0 z_cl z_pC = true := by decide +kernel
theorem z_k9 : Cond.instanceMethod Lib.objectInit ∈ z_TB ∧ Cond.code Lib.objectInit ⟨#[0xb1]⟩ 1 none ∈ z_TB := ⟨List.mem_filter.mpr ⟨List.mem_of_getElem? (i := 143) (by decide +kernel), rfl⟩, List.mem_filter.mpr ⟨List.mem_of_getElem? (i := 144) (by decide +kernel), rfl⟩⟩
theorem z_k8 : Cond.native arraycopyName ∈ z_TB ∧ Cond.static arraycopyName ∈ z_TB ∧ Cond.initialized "java/lang/System" ∈ z_TB := ⟨List.mem_filter.mpr ⟨List.mem_of_getElem? (i := 1067) (by decide +kernel), rfl⟩, List.mem_filter.mpr ⟨List.mem_of_getElem? (i := 1066) (by decide +kernel), rfl⟩, List.mem_filter.mpr ⟨List.mem_of_getElem? (i := 136) (by decide +kernel), rfl⟩⟩
theorem z_ka : ∀ k, k < 3 → Cond.arrayClass (z_ek k) ∈ z_TB := fun k hk => match k, hk with | 0, _ => List.mem_filter.mpr ⟨List.mem_of_getElem? (i := 213) (by decide +kernel), rfl⟩ | 1, _ => List.mem_filter.mpr ⟨List.mem_of_getElem? (i := 319) (by decide +kernel), rfl⟩ | 2, _ => List.mem_filter.mpr ⟨List.mem_of_getElem? (i := 522) (by decide +kernel), rfl⟩
abbrev z_KX : (Nat → Nat) → Nat → State → Heap → Prop := zs_KX "StarTales$Law" "huimrcknsexyd" 48 13 "StarTales$LawReader" 101
theorem zs_wt : ∀ v ∈ zs_w, v ∈ z_TB := by
  have h : zs_w.all (fun v => decide (v ∈ z_TB)) = true := by decide +kernel
  exact fun v hv => of_decide_eq_true (List.all_eq_true.mp h v hv)
def z_KF0 : List (Nat × Nat × Nat) := [(10, 0, 0), (16, 0, 1), (19, 0, 2), (25, 0, 3), (29, 0, 4), (32, 0, 5), (39, 0, 6), (46, 0, 7), (50, 0, 8), (55, 3, 0), (62, 0, 9), (69, 0, 10), (73, 0, 11), (81, 0, 12), (85, 0, 13), (90, 7, 5), (96, 0, 14), (103, 0, 15), (112, 0, 16), (119, 0, 17), (123, 0, 18), (134, 1, 0), (138, 1, 1), (141, 1, 2), (144, 1, 3), (147, 1, 4), (150, 1, 5), (157, 1, 6), (161, 1, 8), (164, 1, 9), (167, 1, 10), (184, 2, 1), (187, 2, 2), (190, 3, 1), (218, 7, 4), (253, 6, 0), (260, 6, 1), (267, 8, 2), (306, 11, 0), (337, 1, 7), (360, 9, 0), (363, 9, 1), (370, 9, 2), (373, 9, 3), (411, 1, 11), (420, 4, 7)]
def z_KC0 : List (Nat × Nat) := [(7, 1), (22, 2), (36, 3), (43, 4), (53, 5), (66, 6), (76, 7), (88, 8), (100, 9), (107, 10), (116, 11)]
def z_KL0 : List (Nat × Nat × Nat) := [(1, 9, 0), (9, 3, 1), (24, 3, 2), (38, 3, 3), (45, 3, 4), (59, 2, 7), (68, 3, 8), (78, 2, 9), (93, 2, 10), (102, 3, 11), (109, 2, 12), (118, 3, 13), (126, 1, 15), (130, 1, 16), (153, 0, 18), (170, 1, 24), (174, 0, 25), (177, 0, 27), (181, 0, 29), (193, 0, 33), (197, 0, 35), (200, 0, 36), (204, 0, 77), (207, 0, 82), (211, 0, 84), (214, 0, 85), (221, 0, 96), (225, 0, 101), (229, 0, 103), (232, 0, 106), (235, 1, 102), (240, 0, 107), (243, 0, 108), (246, 0, 109), (249, 0, 104), (256, 0, 112), (263, 0, 120), (270, 0, 123), (273, 0, 125), (276, 0, 127), (280, 0, 131), (283, 0, 135), (286, 0, 132), (289, 0, 137), (293, 1, 31), (296, 1, 30), (299, 0, 139), (303, 0, 138), (308, 0, 141), (311, 0, 145), (314, 0, 147), (317, 0, 149), (320, 0, 150), (323, 0, 26), (326, 0, 152), (330, 0, 153), (334, 0, 155), (340, 0, 157), (343, 0, 158), (346, 0, 162), (350, 0, 164), (353, 0, 166), (356, 0, 167), (366, 0, 171), (376, 0, 176), (379, 0, 178), (383, 0, 183), (386, 0, 184), (389, 0, 185), (392, 0, 186), (395, 1, 129), (400, 0, 156), (403, 0, 97), (406, 0, 189), (414, 0, 192), (417, 0, 195), (423, 0, 197), (426, 1, 91), (429, 1, 37), (432, 0, 154)]
def z_KT0 : List (Nat × Int32) := [(160, 16777215), (410, 65535)]
theorem z_ks0 (Ts : List Cond) (hTs : ∀ w ∈ z_TB, w ∈ Ts) (CA NA : List (Nat × Nat)) (AC : List (Nat × Nat × Nat × Int)) (IN : Option Nat) (hin : ∀ j r, IN = some j → z_cl[j]? = some r → r.1 = "StarTales") : z_KS Ts z_TB z_cl z_FT "StarTales" z_MT (z_KF0, z_KC0, z_KL0, z_KT0, CA, NA, AC, IN) := zk_ks z_kcl z_kM z_k9 z_k8 z_ka (pF := [552, 553, 554, 555, 556, 557, 558, 559, 560, 239, 561, 562, 563, 564, 565, 382, 566, 567, 568, 569, 570, 152, 155, 158, 164, 168, 170, 172, 179, 182, 185, 222, 224, 241, 380, 349, 352, 418, 530, 176, 445, 447, 449, 451, 187, 274]) (pC := [(145, 146, 116), (214, 215, 117), (232, 233, 118), (247, 248, 119), (320, 321, 121), (342, 343, 122), (362, 363, 123), (409, 410, 124), (438, 439, 125), (494, 495, 126), (523, 524, 127)]) (pL := [(142, 0, 0), (147, 148, 0), (216, 217, 0), (234, 235, 0), (249, 250, 0), (322, 323, 0), (344, 345, 0), (364, 365, 0), (411, 412, 0), (440, 441, 0), (496, 497, 0), (525, 526, 0), (614, 615, 0), (617, 618, 0), (624, 625, 626), (649, 650, 0), (652, 653, 654), (660, 661, 662), (668, 669, 670), (682, 683, 684), (690, 691, 692), (694, 695, 696), (855, 856, 857), (874, 875, 876), (882, 883, 884), (887, 888, 889), (936, 938, 15), (956, 957, 958), (966, 967, 968), (978, 979, 980), (977, 961, 0), (983, 984, 985), (987, 988, 989), (995, 992, 993), (1000, 971, 972), (1005, 1006, 1007), (1039, 1040, 1041), (1051, 1053, 25), (1061, 1062, 1063), (1072, 1073, 1074), (1091, 1092, 1093), (1106, 1107, 1108), (1110, 1096, 1097), (1115, 1116, 1117), (1055, 676, 0), (1056, 673, 0), (1124, 1125, 1126), (1133, 1121, 1122), (1134, 1135, 1136), (1152, 1153, 1154), (1165, 1166, 1167), (1174, 1175, 1176), (1178, 1179, 1180), (1186, 657, 658), (1187, 1188, 1189), (1195, 1196, 1197), (1214, 1215, 1216), (1241, 1223, 1224), (1242, 1228, 1229), (1247, 1248, 1249), (1261, 1257, 1258), (1266, 1268, 32), (1270, 1271, 1272), (1291, 1292, 1293), (1312, 1313, 1314), (1320, 1321, 1322), (1341, 1343, 40), (1345, 1347, 41), (1350, 1352, 42), (1354, 1356, 43), (1362, 1085, 0), (1367, 1219, 1220), (940, 941, 942), (1368, 1369, 1370), (1381, 1382, 1383), (1394, 1395, 1396), (1403, 1404, 1405), (913, 914, 0), (916, 699, 0), (1349, 1208, 1209)]) (pT := [640, 1376]) (by decide +kernel) (by decide +kernel) (by decide +kernel) (by decide +kernel) Ts hTs CA NA AC IN hin
def z_KF1 : List (Nat × Nat × Nat) := [(11, 11, 0), (15, 11, 1), (18, 11, 2), (21, 11, 3), (24, 11, 4), (27, 11, 5), (30, 11, 6)]
def z_KC1 : List (Nat × Nat) := []
def z_KL1 : List (Nat × Nat × Nat) := [(3, 9, 0), (33, 1, 37), (39, 0, 142), (42, 1, 102), (48, 0, 143), (52, 0, 87), (57, 0, 88), (61, 0, 18), (67, 0, 92), (71, 0, 146), (74, 1, 78), (80, 0, 148)]
def z_KT1 : List (Nat × Int32) := []
theorem z_ks1 (Ts : List Cond) (hTs : ∀ w ∈ z_TB, w ∈ Ts) (CA NA : List (Nat × Nat)) (AC : List (Nat × Nat × Nat × Int)) (IN : Option Nat) (hin : ∀ j r, IN = some j → z_cl[j]? = some r → r.1 = "StarTales$Chooser") : z_KS Ts z_TB z_cl z_FT "StarTales$Chooser" z_MT (z_KF1, z_KC1, z_KL1, z_KT1, CA, NA, AC, IN) := zk_ks z_kcl z_kM z_k9 z_k8 z_ka (pF := [529, 531, 532, 533, 534, 535, 536]) (pC := []) (pL := [(528, 0, 0), (1138, 699, 0), (1139, 1141, 28), (1143, 961, 0), (1144, 1146, 29), (1156, 896, 897), (1157, 901, 902), (1158, 625, 626), (1159, 919, 920), (1160, 1161, 1162), (1169, 860, 0), (1170, 1172, 30)]) (pT := []) (by decide +kernel) (by decide +kernel) (by decide +kernel) (by decide +kernel) Ts hTs CA NA AC IN hin
def z_KF2 : List (Nat × Nat × Nat) := [(9, 4, 0), (13, 4, 1), (16, 4, 2), (20, 4, 3), (23, 4, 4), (26, 4, 5), (29, 4, 6), (32, 4, 7), (35, 4, 8), (39, 4, 9), (42, 4, 10), (45, 4, 11), (56, 4, 12), (59, 4, 13), (62, 4, 14), (75, 1, 6), (80, 1, 7), (83, 1, 3), (86, 1, 2)]
def z_KC2 : List (Nat × Nat) := []
def z_KL2 : List (Nat × Nat × Nat) := [(1, 9, 0), (65, 0, 75), (69, 1, 78), (89, 0, 82), (93, 0, 94), (96, 1, 37), (102, 1, 55)]
def z_KT2 : List (Nat × Int32) := []
theorem z_ks2 (Ts : List Cond) (hTs : ∀ w ∈ z_TB, w ∈ Ts) (CA NA : List (Nat × Nat)) (AC : List (Nat × Nat × Nat × Int)) (IN : Option Nat) (hin : ∀ j r, IN = some j → z_cl[j]? = some r → r.1 = "StarTales$Law") : z_KS Ts z_TB z_cl z_FT "StarTales$Law" z_MT (z_KF2, z_KC2, z_KL2, z_KT2, CA, NA, AC, IN) := zk_ks z_kcl z_kM z_k9 z_k8 z_ka (pF := [264, 265, 266, 268, 269, 270, 271, 272, 275, 277, 279, 281, 283, 286, 287, 173, 175, 166, 162]) (pC := []) (pL := [(252, 0, 0), (847, 849, 12), (899, 860, 0), (922, 875, 876), (927, 929, 14), (1164, 699, 0), (931, 768, 0)]) (pT := []) (by decide +kernel) (by decide +kernel) (by decide +kernel) (by decide +kernel) Ts hTs CA NA AC IN hin
def z_KF3 : List (Nat × Nat × Nat) := [(9, 5, 1), (15, 5, 2), (18, 5, 3), (21, 5, 0), (25, 5, 4), (47, 4, 7), (60, 4, 2)]
def z_KC3 : List (Nat × Nat) := []
def z_KL3 : List (Nat × Nat × Nat) := [(3, 9, 0), (29, 1, 37), (35, 0, 38), (40, 0, 39), (43, 0, 46), (50, 4, 42), (53, 0, 40), (57, 0, 41), (63, 0, 43), (66, 0, 69), (69, 0, 74), (73, 0, 70), (76, 0, 49), (79, 0, 73), (82, 0, 71), (85, 0, 72), (88, 0, 44), (91, 0, 45), (94, 1, 47), (98, 0, 48)]
def z_KT3 : List (Nat × Int32) := []
theorem z_ks3 (Ts : List Cond) (hTs : ∀ w ∈ z_TB, w ∈ Ts) (CA NA : List (Nat × Nat)) (AC : List (Nat × Nat × Nat × Int)) (IN : Option Nat) (hin : ∀ j r, IN = some j → z_cl[j]? = some r → r.1 = "StarTales$LawReader") : z_KS Ts z_TB z_cl z_FT "StarTales$LawReader" z_MT (z_KF3, z_KC3, z_KL3, z_KT3, CA, NA, AC, IN) := zk_ks z_kcl z_kM z_k9 z_k8 z_ka (pF := [327, 328, 329, 326, 330, 273, 267]) (pC := []) (pL := [(325, 0, 0), (698, 699, 0), (701, 702, 703), (705, 707, 0), (732, 734, 6), (717, 718, 0), (709, 711, 1), (713, 715, 2), (720, 722, 3), (823, 825, 8), (843, 844, 845), (827, 829, 9), (743, 744, 745), (839, 840, 841), (831, 833, 10), (835, 837, 11), (724, 726, 4), (728, 730, 5), (736, 737, 0), (739, 741, 7)]) (pT := []) (by decide +kernel) (by decide +kernel) (by decide +kernel) (by decide +kernel) Ts hTs CA NA AC IN hin
def z_KF4 : List (Nat × Nat × Nat) := [(11, 8, 0), (17, 8, 1), (20, 8, 2), (23, 8, 5), (27, 8, 6), (30, 8, 3), (34, 8, 4), (41, 6, 1), (52, 6, 2), (92, 7, 5), (99, 7, 0), (107, 7, 4)]
def z_KC4 : List (Nat × Nat) := []
def z_KL4 : List (Nat × Nat × Nat) := [(3, 9, 0), (37, 0, 113), (44, 0, 115), (48, 0, 121), (55, 1, 102), (61, 0, 114), (65, 0, 116), (68, 0, 117), (72, 0, 118), (76, 1, 37), (81, 0, 119), (84, 0, 179), (88, 1, 180), (95, 0, 112), (103, 0, 181), (110, 0, 82)]
def z_KT4 : List (Nat × Int32) := []
theorem z_ks4 (Ts : List Cond) (hTs : ∀ w ∈ z_TB, w ∈ Ts) (CA NA : List (Nat × Nat)) (AC : List (Nat × Nat × Nat × Int)) (IN : Option Nat) (hin : ∀ j r, IN = some j → z_cl[j]? = some r → r.1 = "StarTales$Matcher") : z_KS Ts z_TB z_cl z_FT "StarTales$Matcher" z_MT (z_KF4, z_KC4, z_KL4, z_KT4, CA, NA, AC, IN) := zk_ks z_kcl z_kM z_k9 z_k8 z_ka (pF := [415, 416, 417, 421, 422, 419, 420, 351, 354, 383, 370, 379]) (pC := []) (pL := [(414, 0, 0), (1009, 1011, 17), (1018, 1020, 19), (1043, 1045, 24), (1013, 961, 0), (1014, 1016, 18), (1022, 1024, 20), (1026, 1028, 21), (1030, 1032, 22), (1038, 699, 0), (1034, 1036, 23), (1324, 1326, 38), (1328, 1329, 0), (1332, 1006, 1007), (1333, 1335, 39), (1331, 875, 876)]) (pT := []) (by decide +kernel) (by decide +kernel) (by decide +kernel) (by decide +kernel) Ts hTs CA NA AC IN hin
def z_KF5 : List (Nat × Nat × Nat) := [(9, 10, 0), (15, 10, 1), (19, 10, 2), (22, 10, 3), (26, 10, 4), (29, 10, 5), (32, 10, 6), (49, 7, 4), (68, 1, 2), (71, 1, 3), (97, 7, 2), (100, 7, 3)]
def z_KC5 : List (Nat × Nat) := []
def z_KL5 : List (Nat × Nat × Nat) := [(3, 9, 0), (36, 4, 31), (40, 4, 30), (43, 0, 85), (52, 0, 128), (57, 0, 82), (62, 1, 129), (74, 1, 130), (78, 0, 132), (81, 0, 133), (85, 1, 134), (89, 1, 37), (92, 0, 138), (103, 4, 24)]
def z_KT5 : List (Nat × Int32) := [(56, -1640531535)]
theorem z_ks5 (Ts : List Cond) (hTs : ∀ w ∈ z_TB, w ∈ Ts) (CA NA : List (Nat × Nat)) (AC : List (Nat × Nat × Nat × Int)) (IN : Option Nat) (hin : ∀ j r, IN = some j → z_cl[j]? = some r → r.1 = "StarTales$Patches") : z_KS Ts z_TB z_cl z_FT "StarTales$Patches" z_MT (z_KF5, z_KC5, z_KL5, z_KT5, CA, NA, AC, IN) := zk_ks z_kcl z_kM z_k9 z_k8 z_ka (pF := [500, 501, 502, 503, 504, 505, 506, 378, 160, 165, 374, 376]) (pC := []) (pL := [(499, 0, 0), (1076, 676, 0), (1077, 673, 0), (1078, 888, 889), (1079, 1081, 26), (1083, 875, 876), (1084, 1085, 0), (1087, 1088, 0), (1095, 1096, 1097), (1099, 1101, 27), (1103, 1104, 0), (1119, 699, 0), (1120, 1121, 1122), (1128, 650, 0)]) (pT := [1090]) (by decide +kernel) (by decide +kernel) (by decide +kernel) (by decide +kernel) Ts hTs CA NA AC IN hin
def z_KF6 : List (Nat × Nat × Nat) := [(11, 9, 0), (15, 9, 1), (18, 9, 2), (21, 9, 3), (24, 9, 4), (28, 9, 5), (31, 9, 6), (34, 9, 7), (37, 9, 8), (40, 9, 9), (43, 9, 10), (46, 9, 11), (49, 9, 12), (52, 9, 13), (55, 9, 14), (75, 7, 0), (93, 1, 2), (104, 1, 0), (135, 7, 1)]
def z_KC6 : List (Nat × Nat) := []
def z_KL6 : List (Nat × Nat × Nat) := [(5, 9, 0), (58, 4, 31), (62, 4, 30), (65, 0, 86), (71, 0, 89), (79, 0, 82), (84, 1, 129), (90, 1, 37), (96, 1, 91), (99, 0, 154), (107, 4, 105), (110, 1, 78), (116, 0, 168), (120, 0, 18), (123, 0, 169), (127, 0, 172), (131, 0, 125), (139, 0, 84), (143, 0, 174), (147, 0, 155), (150, 0, 153), (154, 0, 173), (158, 0, 163), (162, 0, 164), (165, 1, 55)]
def z_KT6 : List (Nat × Int32) := []
theorem z_ks6 (Ts : List Cond) (hTs : ∀ w ∈ z_TB, w ∈ Ts) (CA NA : List (Nat × Nat)) (AC : List (Nat × Nat × Nat × Int)) (IN : Option Nat) (hin : ∀ j r, IN = some j → z_cl[j]? = some r → r.1 = "StarTales$Pilot") : z_KS Ts z_TB z_cl z_FT "StarTales$Pilot" z_MT (z_KF6, z_KC6, z_KL6, z_KT6, CA, NA, AC, IN) := zk_ks z_kcl z_kM z_k9 z_k8 z_ka (pF := [444, 446, 448, 450, 452, 453, 454, 455, 456, 457, 458, 459, 460, 461, 462, 369, 159, 153, 372]) (pC := []) (pL := [(443, 0, 0), (1199, 676, 0), (1200, 673, 0), (1201, 892, 893), (1202, 905, 906), (1203, 875, 876), (1204, 1085, 0), (1205, 699, 0), (1206, 914, 0), (1207, 1208, 1209), (1274, 975, 0), (1255, 860, 0), (1275, 1277, 33), (1279, 625, 626), (1281, 1283, 34), (1295, 1297, 35), (1303, 1062, 1063), (1286, 883, 884), (1304, 1306, 37), (1285, 1215, 1216), (1280, 1196, 1197), (1299, 1301, 36), (1251, 1253, 31), (1256, 1257, 1258), (1260, 768, 0)]) (pT := []) (by decide +kernel) (by decide +kernel) (by decide +kernel) (by decide +kernel) Ts hTs CA NA AC IN hin
def z_KF7 : List (Nat × Nat × Nat) := [(9, 2, 0), (15, 2, 1), (19, 2, 2)]
def z_KC7 : List (Nat × Nat) := []
def z_KL7 : List (Nat × Nat × Nat) := [(3, 9, 0), (22, 4, 30), (26, 4, 31), (29, 1, 102), (34, 0, 26), (38, 4, 16), (42, 4, 24), (46, 0, 29), (49, 8, 0)]
def z_KT7 : List (Nat × Int32) := []
theorem z_ks7 (Ts : List Cond) (hTs : ∀ w ∈ z_TB, w ∈ Ts) (CA NA : List (Nat × Nat)) (AC : List (Nat × Nat × Nat × Int)) (IN : Option Nat) (hin : ∀ j r, IN = some j → z_cl[j]? = some r → r.1 = "StarTales$Sea") : z_KS Ts z_TB z_cl z_FT "StarTales$Sea" z_MT (z_KF7, z_KC7, z_KL7, z_KT7, CA, NA, AC, IN) := zk_ks z_kcl z_kM z_k9 z_k8 z_ka (pF := [220, 221, 223]) (pC := []) (pL := [(219, 0, 0), (672, 673, 0), (675, 676, 0), (1407, 961, 0), (656, 657, 658), (1211, 618, 0), (1212, 650, 0), (1213, 669, 670), (1385, 0, 0)]) (pT := []) (by decide +kernel) (by decide +kernel) (by decide +kernel) (by decide +kernel) Ts hTs CA NA AC IN hin
def z_KF8 : List (Nat × Nat × Nat) := [(9, 1, 0), (15, 1, 1), (19, 1, 2), (22, 1, 3), (25, 1, 4), (28, 1, 5), (31, 1, 6), (34, 1, 7), (37, 1, 8), (40, 1, 9), (43, 1, 10), (46, 1, 11), (81, 4, 12)]
def z_KC8 : List (Nat × Nat) := []
def z_KL8 : List (Nat × Nat × Nat) := [(3, 9, 0), (49, 1, 129), (55, 1, 37), (58, 1, 55), (61, 0, 157), (65, 0, 158), (68, 0, 156), (71, 0, 87), (76, 0, 88), (84, 0, 146), (87, 8, 0)]
def z_KT8 : List (Nat × Int32) := [(80, 65536)]
theorem z_ks8 (Ts : List Cond) (hTs : ∀ w ∈ z_TB, w ∈ Ts) (CA NA : List (Nat × Nat)) (AC : List (Nat × Nat × Nat × Int)) (IN : Option Nat) (hin : ∀ j r, IN = some j → z_cl[j]? = some r → r.1 = "StarTales$Sky") : z_KS Ts z_TB z_cl z_FT "StarTales$Sky" z_MT (z_KF8, z_KC8, z_KL8, z_KT8, CA, NA, AC, IN) := zk_ks z_kcl z_kM z_k9 z_k8 z_ka (pF := [151, 154, 157, 163, 167, 169, 171, 174, 177, 180, 183, 186, 285]) (pC := []) (pL := [(150, 0, 0), (1226, 1085, 0), (1231, 699, 0), (1232, 768, 0), (1222, 1223, 1224), (1227, 1228, 1229), (1218, 1219, 1220), (1191, 896, 897), (1192, 901, 902), (1194, 1161, 1162), (1065, 0, 0)]) (pT := [1193]) (by decide +kernel) (by decide +kernel) (by decide +kernel) (by decide +kernel) Ts hTs CA NA AC IN hin
def z_KF9 : List (Nat × Nat × Nat) := [(9, 6, 0), (15, 6, 1), (18, 6, 2)]
def z_KC9 : List (Nat × Nat) := []
def z_KL9 : List (Nat × Nat × Nat) := [(3, 9, 0), (22, 1, 78), (28, 1, 79), (32, 4, 42), (36, 0, 80)]
def z_KT9 : List (Nat × Int32) := []
theorem z_ks9 (Ts : List Cond) (hTs : ∀ w ∈ z_TB, w ∈ Ts) (CA NA : List (Nat × Nat)) (AC : List (Nat × Nat × Nat × Int)) (IN : Option Nat) (hin : ∀ j r, IN = some j → z_cl[j]? = some r → r.1 = "StarTales$Tale") : z_KS Ts z_TB z_cl z_FT "StarTales$Tale" z_MT (z_KF9, z_KC9, z_KL9, z_KT9, CA, NA, AC, IN) := zk_ks z_kcl z_kM z_k9 z_k8 z_ka (pF := [348, 350, 353]) (pC := []) (pL := [(347, 0, 0), (859, 860, 0), (862, 863, 0), (865, 718, 0), (866, 868, 13)]) (pT := []) (by decide +kernel) (by decide +kernel) (by decide +kernel) (by decide +kernel) Ts hTs CA NA AC IN hin
def z_KF10 : List (Nat × Nat × Nat) := [(9, 3, 0), (13, 3, 1)]
def z_KC10 : List (Nat × Nat) := []
def z_KL10 : List (Nat × Nat × Nat) := [(1, 9, 0), (17, 0, 138)]
def z_KT10 : List (Nat × Int32) := []
theorem z_ks10 (Ts : List Cond) (hTs : ∀ w ∈ z_TB, w ∈ Ts) (CA NA : List (Nat × Nat)) (AC : List (Nat × Nat × Nat × Int)) (IN : Option Nat) (hin : ∀ j r, IN = some j → z_cl[j]? = some r → r.1 = "StarTales$Tape") : z_KS Ts z_TB z_cl z_FT "StarTales$Tape" z_MT (z_KF10, z_KC10, z_KL10, z_KT10, CA, NA, AC, IN) := zk_ks z_kcl z_kM z_k9 z_k8 z_ka (pF := [238, 240]) (pC := []) (pL := [(237, 0, 0), (1398, 1121, 1122)]) (pT := []) (by decide +kernel) (by decide +kernel) (by decide +kernel) (by decide +kernel) Ts hTs CA NA AC IN hin
def z_KF11 : List (Nat × Nat × Nat) := [(9, 7, 2), (15, 7, 3), (18, 7, 4), (21, 7, 5), (25, 7, 6), (28, 7, 7), (31, 7, 8), (34, 7, 9), (37, 7, 0), (41, 7, 1), (60, 4, 12), (84, 1, 2), (92, 1, 9), (95, 1, 10), (98, 1, 8), (101, 4, 8), (112, 4, 10), (115, 4, 9), (125, 1, 1), (128, 4, 11)]
def z_KC11 : List (Nat × Nat) := []
def z_KL11 : List (Nat × Nat × Nat) := [(3, 9, 0), (45, 1, 78), (51, 0, 87), (56, 0, 88), (63, 0, 86), (67, 0, 89), (71, 0, 18), (76, 0, 82), (80, 4, 90), (87, 1, 91), (105, 0, 92), (109, 0, 93), (118, 0, 98), (122, 0, 99), (131, 1, 102), (136, 4, 105), (139, 0, 104), (143, 1, 55), (146, 0, 109)]
def z_KT11 : List (Nat × Int32) := []
theorem z_ks11 (Ts : List Cond) (hTs : ∀ w ∈ z_TB, w ∈ Ts) (CA NA : List (Nat × Nat)) (AC : List (Nat × Nat × Nat × Int)) (IN : Option Nat) (hin : ∀ j r, IN = some j → z_cl[j]? = some r → r.1 = "StarTales$View") : z_KS Ts z_TB z_cl z_FT "StarTales$View" z_MT (z_KF11, z_KC11, z_KL11, z_KT11, CA, NA, AC, IN) := zk_ks z_kcl z_kM z_k9 z_k8 z_ka (pF := [373, 375, 377, 381, 384, 385, 386, 387, 368, 371, 284, 161, 181, 184, 178, 276, 280, 278, 156, 282]) (pC := []) (pL := [(367, 0, 0), (886, 860, 0), (895, 896, 897), (900, 901, 902), (891, 892, 893), (904, 905, 906), (908, 625, 626), (909, 875, 876), (910, 911, 0), (917, 914, 0), (918, 919, 920), (923, 924, 925), (944, 946, 16), (948, 949, 950), (960, 961, 0), (974, 975, 0), (970, 971, 972), (982, 768, 0), (991, 992, 993)]) (pT := []) (by decide +kernel) (by decide +kernel) (by decide +kernel) (by decide +kernel) Ts hTs CA NA AC IN hin
def z_KF12 : List (Nat × Nat × Nat) := []
def z_KC12 : List (Nat × Nat) := [(7, 0), (10, 12)]
def z_KL12 : List (Nat × Nat × Nat) := [(9, 2, 0), (12, 2, 198), (13, 0, 14), (17, 0, 199), (18, 0, 17), (22, 0, 202), (23, 0, 19), (27, 0, 205), (28, 0, 20), (31, 0, 206), (32, 0, 21), (35, 0, 207), (36, 0, 22), (40, 0, 208), (41, 0, 23), (45, 0, 209), (46, 0, 28), (49, 0, 211), (50, 0, 32), (54, 0, 213), (55, 0, 34), (59, 0, 215), (60, 0, 76), (63, 0, 263), (64, 0, 81), (68, 0, 237), (69, 0, 83), (72, 0, 239), (73, 0, 95), (77, 0, 251), (78, 0, 100), (82, 0, 254), (83, 0, 110), (86, 0, 262), (87, 0, 111), (90, 0, 267), (91, 0, 122), (94, 0, 271), (95, 0, 124), (98, 0, 273), (99, 0, 126), (102, 0, 274), (103, 0, 136), (106, 0, 281), (107, 0, 140), (110, 0, 283), (111, 0, 144), (114, 0, 287), (115, 0, 151), (119, 0, 289), (120, 0, 159), (123, 0, 297), (124, 0, 160), (128, 0, 298), (129, 0, 161), (132, 0, 302), (133, 0, 165), (136, 0, 305), (137, 0, 170), (140, 0, 307), (141, 0, 175), (144, 0, 310), (145, 0, 177), (148, 0, 312), (149, 0, 182), (152, 0, 314), (153, 0, 187), (156, 0, 316), (157, 0, 188), (160, 0, 317), (161, 0, 190), (164, 0, 318), (165, 0, 191), (168, 0, 319), (169, 0, 193), (173, 0, 320), (174, 0, 194), (177, 0, 321), (178, 0, 196), (181, 0, 323)]
def z_KT12 : List (Nat × Int32) := []
theorem z_ks12 (Ts : List Cond) (hTs : ∀ w ∈ z_TB, w ∈ Ts) (CA NA : List (Nat × Nat)) (AC : List (Nat × Nat × Nat × Int)) (IN : Option Nat) (hin : ∀ j r, IN = some j → z_cl[j]? = some r → r.1 = "StarTalesLaw") : z_KS Ts z_TB z_cl z_FT "StarTalesLaw" z_MT (z_KF12, z_KC12, z_KL12, z_KT12, CA, NA, AC, IN) := zk_ks z_kcl z_kM z_k9 z_k8 z_ka (pF := []) (pC := [(137, 138, 115), (1408, 1409, 128)]) (pL := [(139, 140, 0), (1410, 1411, 0), (610, 611, 612), (1607, 1608, 1609), (620, 621, 622), (1617, 1618, 1619), (628, 629, 630), (1628, 1629, 1630), (632, 633, 634), (1632, 1633, 1634), (636, 637, 638), (1636, 1637, 1638), (641, 642, 643), (1641, 1642, 1643), (645, 646, 647), (1645, 1646, 1647), (664, 665, 666), (1653, 1654, 1655), (678, 679, 680), (1661, 1662, 1663), (686, 687, 688), (1669, 1670, 1671), (851, 852, 853), (1853, 1854, 1855), (870, 871, 872), (1755, 1756, 1757), (878, 879, 880), (1763, 1764, 1765), (932, 933, 934), (1807, 1808, 1809), (952, 953, 954), (1819, 1820, 1821), (996, 997, 998), (1849, 1850, 1851), (1001, 1002, 1003), (1869, 1870, 1871), (1047, 1048, 1049), (1885, 1886, 1887), (1057, 1058, 1059), (1893, 1894, 1895), (1068, 1069, 1070), (1897, 1898, 1899), (1111, 1112, 1113), (1924, 1925, 1926), (1129, 1130, 1131), (1933, 1934, 1935), (1148, 1149, 1150), (1950, 1951, 1952), (1182, 1183, 1184), (1958, 1959, 1960), (1233, 1234, 1235), (1989, 1990, 1991), (1237, 1238, 1239), (1993, 1994, 1995), (1243, 1244, 1245), (2008, 2009, 2010), (1262, 1263, 1264), (2019, 2020, 2021), (1287, 1288, 1289), (2027, 2028, 2029), (1308, 1309, 1310), (2039, 2040, 2041), (1316, 1317, 1318), (2047, 2048, 2049), (1337, 1338, 1339), (2055, 2056, 2057), (1358, 1359, 1360), (2063, 2064, 2065), (1363, 1364, 1365), (2067, 2068, 2069), (1372, 1373, 1374), (2071, 2072, 2073), (1377, 1378, 1379), (2076, 2077, 2078), (1386, 1387, 1388), (2080, 2081, 2082), (1390, 1391, 1392), (2084, 2085, 2086), (1399, 1400, 1401), (2092, 2093, 2094)]) (pT := []) (by decide +kernel) (by decide +kernel) (by decide +kernel) (by decide +kernel) Ts hTs CA NA AC IN hin
def z_KF13 : List (Nat × Nat × Nat) := [(7, 12, 0), (13, 12, 1), (16, 12, 2), (19, 12, 3), (23, 12, 14), (26, 12, 15), (29, 12, 16), (32, 12, 17), (35, 12, 18), (38, 12, 19), (41, 12, 20), (44, 12, 21), (47, 12, 22), (50, 12, 23), (53, 12, 24), (56, 12, 25), (59, 12, 26), (62, 12, 28), (65, 12, 34), (68, 12, 35), (71, 12, 36), (74, 12, 37), (77, 12, 38), (80, 12, 39), (83, 12, 40), (86, 12, 42), (89, 12, 43), (92, 12, 44), (95, 12, 45), (98, 12, 46), (101, 12, 47), (104, 12, 49), (107, 12, 50), (110, 12, 51), (113, 12, 52), (116, 12, 53), (119, 12, 54), (122, 12, 59), (125, 12, 60), (128, 12, 61), (131, 12, 62), (168, 12, 4), (176, 12, 5), (179, 12, 6), (186, 12, 7), (192, 12, 12), (199, 12, 9), (203, 12, 8), (206, 12, 10), (256, 12, 11), (268, 12, 13), (303, 12, 27), (312, 12, 29), (315, 12, 30), (339, 12, 32), (351, 12, 31), (354, 12, 33), (357, 12, 41), (395, 12, 48), (454, 12, 55), (457, 12, 56), (460, 12, 57), (463, 12, 58), (479, 12, 63)]
def z_KC13 : List (Nat × Nat) := []
def z_KL13 : List (Nat × Nat × Nat) := [(1, 9, 0), (134, 1, 300), (138, 1, 204), (142, 1, 242), (146, 1, 243), (150, 1, 200), (154, 1, 201), (157, 0, 203), (162, 0, 210), (165, 0, 212), (172, 0, 214), (182, 0, 217), (189, 0, 219), (195, 0, 223), (209, 0, 229), (212, 0, 225), (216, 0, 222), (219, 0, 224), (222, 1, 226), (225, 0, 221), (228, 1, 227), (231, 0, 228), (235, 0, 230), (238, 0, 220), (241, 0, 233), (244, 0, 232), (247, 0, 234), (250, 0, 235), (253, 1, 218), (259, 0, 231), (262, 0, 216), (265, 0, 236), (271, 1, 250), (275, 0, 249), (278, 0, 246), (281, 0, 238), (284, 0, 244), (287, 0, 245), (290, 1, 247), (294, 0, 248), (297, 0, 241), (300, 0, 240), (306, 0, 253), (309, 0, 252), (318, 0, 256), (321, 1, 257), (324, 1, 258), (327, 0, 255), (330, 0, 259), (333, 0, 260), (336, 0, 261), (342, 0, 265), (345, 0, 266), (348, 0, 264), (360, 0, 269), (363, 0, 270), (366, 0, 268), (369, 0, 272), (372, 0, 277), (375, 1, 278), (379, 0, 276), (382, 0, 280), (385, 0, 275), (388, 0, 279), (392, 0, 282), (399, 0, 286), (402, 0, 284), (405, 0, 285), (408, 0, 288), (411, 1, 296), (414, 0, 295), (418, 1, 293), (421, 0, 291), (424, 0, 292), (427, 0, 294), (430, 0, 290), (434, 0, 299), (437, 0, 301), (440, 1, 304), (443, 0, 303), (447, 0, 306), (450, 0, 309), (466, 0, 308), (469, 0, 311), (472, 0, 313), (475, 0, 315), (483, 0, 322), (486, 0, 324)]
def z_KT13 : List (Nat × Int32) := [(161, 16777215), (202, 1048576), (391, 1000000000), (398, 16777216), (417, 65536), (478, 65535)]
theorem z_ks13 (Ts : List Cond) (hTs : ∀ w ∈ z_TB, w ∈ Ts) (CA NA : List (Nat × Nat)) (AC : List (Nat × Nat × Nat × Int)) (IN : Option Nat) (hin : ∀ j r, IN = some j → z_cl[j]? = some r → r.1 = "StarTalesModel") : z_KS Ts z_TB z_cl z_FT "StarTalesModel" z_MT (z_KF13, z_KC13, z_KL13, z_KT13, CA, NA, AC, IN) := zk_ks z_kcl z_kM z_k9 z_k8 z_ka (pF := [1414, 1415, 1416, 1417, 1428, 1429, 1430, 1431, 1432, 1433, 1434, 1435, 1436, 1437, 1438, 1439, 1440, 1442, 1448, 1449, 1450, 1451, 1452, 1453, 1454, 1456, 1457, 1458, 1459, 1460, 1461, 1463, 1464, 1465, 1466, 1467, 1468, 1473, 1474, 1475, 1476, 1418, 1419, 1420, 1421, 1426, 1423, 1422, 1424, 1425, 1427, 1441, 1443, 1444, 1446, 1445, 1447, 1455, 1462, 1469, 1470, 1471, 1472, 1477]) (pC := []) (pL := [(1413, 0, 0), (2001, 2002, 0), (1625, 1626, 0), (1775, 1776, 0), (1778, 1779, 0), (1611, 1612, 0), (1614, 1615, 0), (1621, 1623, 44), (1649, 1651, 45), (1657, 1659, 46), (1665, 1667, 47), (1677, 1679, 49), (1684, 1686, 50), (1701, 1703, 54), (1723, 1725, 58), (1709, 1711, 56), (1696, 1698, 53), (1705, 1707, 55), (1713, 1714, 0), (1692, 1694, 52), (1716, 1717, 0), (1719, 1721, 57), (1727, 1729, 59), (1688, 1690, 51), (1739, 1741, 62), (1735, 1737, 61), (1743, 1745, 63), (1747, 1749, 64), (1681, 1682, 0), (1731, 1733, 60), (1673, 1675, 48), (1751, 1753, 65), (1804, 1805, 0), (1800, 1802, 73), (1789, 1791, 71), (1759, 1761, 66), (1781, 1783, 69), (1785, 1787, 70), (1793, 1794, 0), (1796, 1798, 72), (1771, 1773, 68), (1767, 1769, 67), (1815, 1817, 75), (1811, 1813, 74), (1827, 1829, 77), (1831, 1832, 0), (1834, 1835, 0), (1823, 1825, 76), (1837, 1839, 78), (1841, 1843, 79), (1845, 1847, 80), (1861, 1863, 82), (1865, 1867, 83), (1857, 1859, 81), (1877, 1879, 85), (1881, 1883, 86), (1873, 1875, 84), (1889, 1891, 87), (1909, 1911, 90), (1913, 1914, 0), (1905, 1907, 89), (1920, 1922, 92), (1901, 1903, 88), (1916, 1918, 91), (1929, 1931, 93), (1946, 1948, 96), (1937, 1939, 94), (1941, 1943, 95), (1954, 1956, 97), (1986, 1987, 0), (1982, 1984, 102), (1975, 1976, 0), (1966, 1968, 99), (1971, 1973, 100), (1978, 1980, 101), (1962, 1964, 98), (1997, 1999, 103), (2004, 2006, 104), (2016, 2017, 0), (2012, 2014, 105), (2023, 2025, 106), (2035, 2037, 108), (2031, 2033, 107), (2043, 2045, 109), (2051, 2053, 110), (2059, 2061, 111), (2088, 2090, 112), (2096, 2098, 113)]) (pT := [1640, 1700, 1928, 1945, 1970, 2075]) (by decide +kernel) (by decide +kernel) (by decide +kernel) (by decide +kernel) Ts hTs CA NA AC IN hin
def z_KF14 : List (Nat × Nat × Nat) := []
def z_KC14 : List (Nat × Nat) := []
def z_KL14 : List (Nat × Nat × Nat) := []
def z_KT14 : List (Nat × Int32) := [(76, 56320), (110, 55232)]
theorem z_ks14 (Ts : List Cond) (hTs : ∀ w ∈ z_TB, w ∈ Ts) (CA NA : List (Nat × Nat)) (AC : List (Nat × Nat × Nat × Int)) (IN : Option Nat) (hin : ∀ j r, IN = some j → z_cl[j]? = some r → r.1 = "java/lang/Character") : z_KS Ts z_TB z_cl z_FT "java/lang/Character" z_MT (z_KF14, z_KC14, z_KL14, z_KT14, CA, NA, AC, IN) := zk_ks z_kcl z_kM z_k9 z_k8 z_ka (pF := []) (pC := []) (pL := []) (pT := [822, 818]) (by decide +kernel) (by decide +kernel) (by decide +kernel) (by decide +kernel) Ts hTs CA NA AC IN hin
def z_KF15 : List (Nat × Nat × Nat) := []
def z_KC15 : List (Nat × Nat) := []
def z_KL15 : List (Nat × Nat × Nat) := []
def z_KT15 : List (Nat × Int32) := [(265, 1431655765), (266, 858993459), (267, 252645135)]
theorem z_ks15 (Ts : List Cond) (hTs : ∀ w ∈ z_TB, w ∈ Ts) (CA NA : List (Nat × Nat)) (AC : List (Nat × Nat × Nat × Int)) (IN : Option Nat) (hin : ∀ j r, IN = some j → z_cl[j]? = some r → r.1 = "java/lang/Integer") : z_KS Ts z_TB z_cl z_FT "java/lang/Integer" z_MT (z_KF15, z_KC15, z_KL15, z_KT15, CA, NA, AC, IN) := zk_ks z_kcl z_kM z_k9 z_k8 z_ka (pF := []) (pC := []) (pL := []) (pT := [963, 964, 965]) (by decide +kernel) (by decide +kernel) (by decide +kernel) (by decide +kernel) Ts hTs CA NA AC IN hin
def z_KF16 : List (Nat × Nat × Nat) := []
def z_KC16 : List (Nat × Nat) := []
def z_KL16 : List (Nat × Nat × Nat) := []
def z_KT16 : List (Nat × Int32) := []
theorem z_ks16 (Ts : List Cond) (hTs : ∀ w ∈ z_TB, w ∈ Ts) (CA NA : List (Nat × Nat)) (AC : List (Nat × Nat × Nat × Int)) (IN : Option Nat) (hin : ∀ j r, IN = some j → z_cl[j]? = some r → r.1 = "java/lang/Math") : z_KS Ts z_TB z_cl z_FT "java/lang/Math" z_MT (z_KF16, z_KC16, z_KL16, z_KT16, CA, NA, AC, IN) := zk_ks z_kcl z_kM z_k9 z_k8 z_ka (pF := []) (pC := []) (pL := []) (pT := []) (by decide +kernel) (by decide +kernel) (by decide +kernel) (by decide +kernel) Ts hTs CA NA AC IN hin
def z_KF17 : List (Nat × Nat × Nat) := []
def z_KC17 : List (Nat × Nat) := []
def z_KL17 : List (Nat × Nat × Nat) := [(637, 1, 53), (640, 1, 57), (1062, 1, 62)]
def z_KT17 : List (Nat × Int32) := []
theorem z_ks17 (Ts : List Cond) (hTs : ∀ w ∈ z_TB, w ∈ Ts) (CA NA : List (Nat × Nat)) (AC : List (Nat × Nat × Nat × Int)) (IN : Option Nat) (hin : ∀ j r, IN = some j → z_cl[j]? = some r → r.1 = "java/lang/String") : z_KS Ts z_TB z_cl z_FT "java/lang/String" z_MT (z_KF17, z_KC17, z_KL17, z_KT17, CA, NA, AC, IN) := zk_ks z_kcl z_kM z_k9 z_k8 z_ka (pF := []) (pC := []) (pL := [(761, 762, 0), (774, 775, 0), (794, 795, 0)]) (pT := []) (by decide +kernel) (by decide +kernel) (by decide +kernel) (by decide +kernel) Ts hTs CA NA AC IN hin
def z_KF18 : List (Nat × Nat × Nat) := []
def z_KC18 : List (Nat × Nat) := []
def z_KL18 : List (Nat × Nat × Nat) := [(38, 1, 37), (88, 1, 54), (92, 1, 55), (95, 1, 56)]
def z_KT18 : List (Nat × Int32) := []
theorem z_ks18 (Ts : List Cond) (hTs : ∀ w ∈ z_TB, w ∈ Ts) (CA NA : List (Nat × Nat)) (AC : List (Nat × Nat × Nat × Int)) (IN : Option Nat) (hin : ∀ j r, IN = some j → z_cl[j]? = some r → r.1 = "java/lang/StringLatin1") : z_KS Ts z_TB z_cl z_FT "java/lang/StringLatin1" z_MT (z_KF18, z_KC18, z_KL18, z_KT18, CA, NA, AC, IN) := zk_ks z_kcl z_kM z_k9 z_k8 z_ka (pF := []) (pC := []) (pL := [(770, 699, 0), (764, 765, 0), (767, 768, 0), (771, 772, 0)]) (pT := []) (by decide +kernel) (by decide +kernel) (by decide +kernel) (by decide +kernel) Ts hTs CA NA AC IN hin
def z_KF19 : List (Nat × Nat × Nat) := []
def z_KC19 : List (Nat × Nat) := []
def z_KL19 : List (Nat × Nat × Nat) := [(48, 1, 60), (71, 1, 64), (96, 1, 59), (157, 1, 67), (161, 1, 68), (164, 1, 66), (183, 1, 37), (224, 1, 55), (228, 1, 58), (232, 1, 65), (241, 1, 61), (244, 1, 63)]
def z_KT19 : List (Nat × Int32) := [(227, 65536)]
theorem z_ks19 (Ts : List Cond) (hTs : ∀ w ∈ z_TB, w ∈ Ts) (CA NA : List (Nat × Nat)) (AC : List (Nat × Nat × Nat × Int)) (IN : Option Nat) (hin : ∀ j r, IN = some j → z_cl[j]? = some r → r.1 = "java/lang/StringUTF16") : z_KS Ts z_TB z_cl z_FT "java/lang/StringUTF16" z_MT (z_KF19, z_KC19, z_KL19, z_KT19, CA, NA, AC, IN) := zk_ks z_kcl z_kM z_k9 z_k8 z_ka (pF := []) (pC := []) (pL := [(786, 787, 0), (800, 801, 0), (783, 784, 0), (815, 816, 0), (819, 820, 0), (812, 813, 0), (778, 699, 0), (777, 768, 0), (780, 781, 0), (809, 810, 0), (789, 790, 0), (797, 798, 0)]) (pT := [779]) (by decide +kernel) (by decide +kernel) (by decide +kernel) (by decide +kernel) Ts hTs CA NA AC IN hin
def z_KF20 : List (Nat × Nat × Nat) := []
def z_KC20 : List (Nat × Nat) := []
def z_KL20 : List (Nat × Nat × Nat) := []
def z_KT20 : List (Nat × Int32) := []
theorem z_ks20 (Ts : List Cond) (hTs : ∀ w ∈ z_TB, w ∈ Ts) (CA NA : List (Nat × Nat)) (AC : List (Nat × Nat × Nat × Int)) (IN : Option Nat) (hin : ∀ j r, IN = some j → z_cl[j]? = some r → r.1 = "java/util/Arrays") : z_KS Ts z_TB z_cl z_FT "java/util/Arrays" z_MT (z_KF20, z_KC20, z_KL20, z_KT20, CA, NA, AC, IN) := zk_ks z_kcl z_kM z_k9 z_k8 z_ka (pF := []) (pC := []) (pL := []) (pT := []) (by decide +kernel) (by decide +kernel) (by decide +kernel) (by decide +kernel) Ts hTs CA NA AC IN hin
def z_KF21 : List (Nat × Nat × Nat) := []
def z_KC21 : List (Nat × Nat) := []
def z_KL21 : List (Nat × Nat × Nat) := []
def z_KT21 : List (Nat × Int32) := []
theorem z_ks21 (Ts : List Cond) (hTs : ∀ w ∈ z_TB, w ∈ Ts) (CA NA : List (Nat × Nat)) (AC : List (Nat × Nat × Nat × Int)) (IN : Option Nat) (hin : ∀ j r, IN = some j → z_cl[j]? = some r → r.1 = "jdk/internal/util/Preconditions") : z_KS Ts z_TB z_cl z_FT "jdk/internal/util/Preconditions" z_MT (z_KF21, z_KC21, z_KL21, z_KT21, CA, NA, AC, IN) := zk_ks z_kcl z_kM z_k9 z_k8 z_ka (pF := []) (pC := []) (pL := []) (pT := []) (by decide +kernel) (by decide +kernel) (by decide +kernel) (by decide +kernel) Ts hTs CA NA AC IN hin
end
section
/-! Named cells: what some objects and arrays hold, by names; rules by which a method is walked over it. -/
abbrev zNV : Type := Int ⊕ Nat
/-- how many names; objects (name, class); int fields (name, class, field, place in the list); reference fields (name, class, field, name); arrays (name, kind, length, place in the list) -/
abbrev zNL : Type := Nat × List (Nat × Nat) × List (Nat × Nat × Nat × Nat) × List (Nat × Nat × Nat × Nat) × List (Nat × Nat × Nat × Nat)
abbrev n_N (y : zNL) := y.1
abbrev n_O (y : zNL) := y.2.1
abbrev n_I (y : zNL) := y.2.2.1
abbrev n_R (y : zNL) := y.2.2.2.1
abbrev n_A (y : zNL) := y.2.2.2.2
def zv_l {α : Type} : List α → Nat → Option α
  | [], _ => none
  | v :: _, 0 => some v
  | _ :: L, i + 1 => zv_l L i
def zv_s {α : Type} : List α → Nat → α → List α
  | [], _, _ => []
  | _ :: L, 0, v => v :: L
  | x :: L, i + 1, v => x :: zv_s L i v
theorem zv_ls_eq {α : Type} : ∀ {L : List α} {i : Nat} {v w : α}, zv_l L i = some w → zv_l (zv_s L i v) i = some v
  | [], _, _, _, h => by cases h
  | _ :: _, 0, _, _, _ => rfl
  | _ :: L, i + 1, v, w, h => zv_ls_eq (L := L) (i := i) (w := w) h
theorem zv_ls_ne {α : Type} : ∀ {L : List α} {i j : Nat} {v : α}, i ≠ j → zv_l (zv_s L i v) j = zv_l L j
  | [], _, _, _, _ => rfl
  | _ :: _, 0, 0, _, h => absurd rfl h
  | _ :: _, 0, _ + 1, _, _ => rfl
  | _ :: _, _ + 1, 0, _, _ => rfl
  | _ :: L, i + 1, j + 1, v, h => zv_ls_ne (L := L) (fun e => h (by rw [e]))
/-- what a name stands for: a cell; from 5000 on a long, by its bits -/
def zv_w (A : Nat → Nat) (c : Nat) (w : Value) : Prop := match Nat.blt c 5000 with
  | true => w = .ref (A c)
  | false => w = .long (Int64.ofNat (c - 5000))
theorem zv_w_r {A : Nat → Nat} {c : Nat} {w : Value} (h : zv_w A c w) (hc : c < 5000) : w = .ref (A c) := by
  unfold zv_w at h
  rw [show Nat.blt c 5000 = true from Nat.ble_eq_true_of_le hc] at h
  exact h
theorem zv_w_mk {A : Nat → Nat} {c : Nat} (hc : c < 5000) : zv_w A c (.ref (A c)) := by
  unfold zv_w
  rw [show Nat.blt c 5000 = true from Nat.ble_eq_true_of_le hc]
def zv_n1 (v : zNV) : Bool := match v with
  | .inl _ => true
  | .inr c => Nat.blt c 5000
/-- an entry of an array, by its kind -/
def zv_e (k : Nat) (w : Value) (x : Int) : Prop := match k with
  | 2 => w = .long (Int64.ofNat x.toNat)
  | _ => ∃ y : Int32, w = .int y ∧ y.toInt = x
def zv_v (A : Nat → Nat) (v : zNV) (w : Value) : Prop := match v with
  | .inl x => ∃ y : Int32, w = .int y ∧ y.toInt = x
  | .inr c => zv_w A c w
def zv_is (v : zNV) : Prop := match v with
  | .inl _ => True
  | .inr c => c < 1000
def zv_st (A : Nat → Nat) : List zNV → List Value → Prop
  | [], k => k = []
  | v :: S, k => ∃ w k', k = w :: k' ∧ zv_v A v w ∧ zv_st A S k'
def zv_lv (nL : Nat) (ls : Array Slot) (A : Nat → Nat) (L : List zNV) : Prop := ∃ lv, lv_has ls nL lv ∧ (∀ q ∈ lv, q.2.category = 1) ∧ ∀ i v, zv_l L i = some v → zv_is v → ∃ w, zv_v A v w ∧ (i, w) ∈ lv
def zv_rep (D : va_G) (DA : Nat → ClassId) (cl : List vw_C) (y : zNL) (A : Nat → Nat) (F : List zNV) (G : List (Int → Int)) (H : Heap) : Prop :=
  (∀ q ∈ n_O y, ∃ r V, cl[q.2]? = some r ∧ t_OB (A q.1) (D.1 q.2) r.2.2 (D.2 q.2) H V) ∧
  (∀ q ∈ n_I y, ∃ r w f, cl[q.2.1]? = some r ∧ q.2.2.1 < r.2.2 ∧ z_sl H (A q.1) (D.2 q.2.1 q.2.2.1) w ∧ zv_l F q.2.2.2 = some f ∧ (zv_is f → zv_v A f w)) ∧
  (∀ q ∈ n_R y, ∃ r, cl[q.2.1]? = some r ∧ q.2.2.1 < r.2.2 ∧ z_sl H (A q.1) (D.2 q.2.1 q.2.2.1) (.ref (A q.2.2.2))) ∧
  (∀ q ∈ n_A y, ∃ (f : Nat → Value) (g : Int → Int), H[A q.1]? = some (arrV (DA q.2.1) q.2.2.1 f) ∧ zv_l G q.2.2.2 = some g ∧ ∀ j : Nat, j < q.2.2.1 → zv_e q.2.1 (f j) (g j))
/-- what stays as it was: other cells, other fields -/
def zv_frm (D : va_G) (cl : List vw_C) (y : zNL) (A : Nat → Nat) (H H1 : Heap) : Prop := H1.size = H.size ∧ (∀ b : Nat, (∀ c, c < n_N y → A c ≠ b) → H1[b]? = H[b]?) ∧
  (∀ q ∈ n_O y, ∀ r k w, cl[q.2]? = some r → k < r.2.2 → (∀ i ∈ n_I y, i.1 = q.1 → i.2.2.1 ≠ k) → z_sl H (A q.1) (D.2 q.2 k) w → z_sl H1 (A q.1) (D.2 q.2 k) w)
theorem zv_frm_rf {D : va_G} {cl : List vw_C} {y : zNL} {A : Nat → Nat} {H : Heap} : zv_frm D cl y A H H := ⟨rfl, fun _ _ => rfl, fun _ _ _ _ _ _ _ _ h => h⟩
theorem zv_frm_tr {D : va_G} {cl : List vw_C} {y : zNL} {A : Nat → Nat} {H H1 H2 : Heap} (h : zv_frm D cl y A H H1) (k : zv_frm D cl y A H1 H2) : zv_frm D cl y A H H2 :=
  ⟨k.1.trans h.1, fun b hb => (k.2.1 b hb).trans (h.2.1 b hb), fun q hq r i w h1 h2 h3 h4 => k.2.2 q hq r i w h1 h2 h3 (h.2.2 q hq r i w h1 h2 h3 h4)⟩
/-- the layout is such as can be used -/
def zv_wf0 (y : zNL) : Bool :=
  (n_I y).all (fun q => (n_I y).all (fun u => (Nat.beq q.2.2.2 u.2.2.2 == (Nat.beq q.1 u.1 && Nat.beq q.2.2.1 u.2.2.1)) && (!(Nat.beq q.1 u.1) || Nat.beq q.2.1 u.2.1)) && Nat.blt q.1 (n_N y) && (n_R y).all (fun u => !(Nat.beq q.1 u.1 && Nat.beq q.2.2.1 u.2.2.1) && (!(Nat.beq q.1 u.1) || Nat.beq q.2.1 u.2.1)) && (n_O y).any (fun o => Nat.beq o.1 q.1 && Nat.beq o.2 q.2.1)) &&
  (n_R y).all (fun q => Nat.blt q.1 (n_N y) && Nat.blt q.2.2.2 (n_N y)) &&
  (n_O y).all (fun q => Nat.blt q.1 (n_N y) && (n_O y).all (fun u => !(Nat.beq q.1 u.1) || Nat.beq q.2 u.2) && (n_A y).all (fun u => !(Nat.beq q.1 u.1)) && (n_I y).all (fun u => !(Nat.beq q.1 u.1) || Nat.beq q.2 u.2.1)) &&
  (n_A y).all (fun q => Nat.blt q.1 (n_N y) && (n_A y).all (fun u => (Nat.beq q.2.2.2 u.2.2.2 == Nat.beq q.1 u.1) && (!(Nat.beq q.1 u.1) || (Nat.beq q.2.1 u.2.1 && Nat.beq q.2.2.1 u.2.2.1))) && (n_I y).all (fun u => !(Nat.beq q.1 u.1)) && (n_R y).all (fun u => !(Nat.beq q.1 u.1)))
def zv_wf (y : zNL) : Bool := Nat.ble (n_N y) 900 && zv_wf0 y
theorem zv_wf0_of {y : zNL} (h : zv_wf y = true) : n_N y ≤ 900 ∧ zv_wf0 y = true := by
  unfold zv_wf at h
  rw [Bool.and_eq_true] at h
  exact ⟨Nat.le_of_ble_eq_true h.1, h.2⟩
def zv_B (cl : List vw_C) (FT : Nat → Nat → FieldType) (KXf : (Nat → Nat) → Nat → State → Heap → Prop) (TBL : List Cond) (MT : List zM) (y : zNL) (mm : zM) (K : zK) (rm : Nat × Nat) (good : Nat → List zNV → List zNV → List zNV → List (Int → Int) → Prop) : Prop :=
  ∃ (p : Program) (l : Launch) (e : Env) (R : Room) (s : State) (m : MethodId) (args : Array Value) (below : List Frame) (meth : Method) (c : Code) (Q : State → Prop) (OB : Nat → Nat) (D : va_G) (DA : Nat → ClassId) (sz : Nat) (A : Nat → Nat) (H0 : Heap) (Ts : List Cond) (cells slots : Nat),
    (p.tables.exec = Jvm.exec ∧ c.code = mm.2.1 ∧ c.maxLocals = mm.2.2.1 ∧ z_Dy s m args Ts mm.1.cls D cl DA (z_tys DA) ∧ z_KS Ts TBL cl FT mm.1.cls MT K) ∧
    (sz ≤ H0.size ∧ z_KXp sz (KXf OB sz) ∧ KXf OB sz s H0 ∧ rm.1 ≤ R.frames ∧ rm.2 ≤ R.locals ∧ cells ≤ R.cells ∧ slots ≤ R.slots) ∧
    (zv_wf y = true ∧ (∀ a b, a < n_N y → b < n_N y → A a = A b → a = b) ∧ (∀ a, a < n_N y → sz ≤ A a) ∧ ∀ k, A (900 + k) = OB k) ∧
    ∀ pc L S F G, good pc L S F G ↔ ∀ H locs ls stk, zv_rep D DA cl y A F G H → zv_frm D cl y A H0 H → va_S (fun q => sz ≤ q) H0 H locs → zv_lv mm.2.2.1 ls A L → zv_st A S stk → W p l e R s m args below meth c H locs cells slots Q (F0 m pc ls stk)
/-- the places of a method's fields, by the layout -/
def zv_fi (K : zK) (y : zNL) (i c : Nat) : Option Nat := match (k_FL K).find? (fun q => Nat.beq q.1 i) with
  | some q => ((n_I y).find? (fun u => Nat.beq u.1 c && Nat.beq u.2.1 q.2.1 && Nat.beq u.2.2.1 q.2.2)).map (fun u => u.2.2.2)
  | none => none
def zv_fr (K : zK) (y : zNL) (i c : Nat) : Option Nat := match (k_FL K).find? (fun q => Nat.beq q.1 i) with
  | some q => ((n_R y).find? (fun u => Nat.beq u.1 c && Nat.beq u.2.1 q.2.1 && Nat.beq u.2.2.1 q.2.2)).map (fun u => u.2.2.2)
  | none => none
def zv_ar (y : zNL) (c : Nat) : Option (Nat × Nat × Nat) := ((n_A y).find? (fun u => Nat.beq u.1 c)).map (fun u => u.2)
theorem zv_fi_ok {K : zK} {y : zNL} {i c j : Nat} (h : zv_fi K y i c = some j) : ∃ ci k, (i, ci, k) ∈ k_FL K ∧ (c, ci, k, j) ∈ n_I y := by
  unfold zv_fi at h
  split at h
  · rename_i q hq
    have hm := List.mem_of_find?_eq_some hq
    have hp0 := List.find?_some hq; have hp0 : Nat.beq q.1 i = true := hp0
    have hp := z_beq hp0
    cases hu : (n_I y).find? (fun u => Nat.beq u.1 c && Nat.beq u.2.1 q.2.1 && Nat.beq u.2.2.1 q.2.2) with
    | none => rw [hu] at h; cases h
    | some u =>
      rw [hu] at h
      cases h
      have um := List.mem_of_find?_eq_some hu
      have up := List.find?_some hu
      simp only [Bool.and_eq_true] at up
      obtain ⟨q1, q2, q3⟩ := q
      obtain ⟨u1, u2, u3, u4⟩ := u
      have e1 : q1 = i := hp
      have e2 : u1 = c := z_beq up.1.1
      have e3 : u2 = q2 := z_beq up.1.2
      have e4 : u3 = q3 := z_beq up.2
      subst e1; subst e2; subst e3; subst e4
      exact ⟨_, _, hm, um⟩
  · cases h
theorem zv_fr_ok {K : zK} {y : zNL} {i c j : Nat} (h : zv_fr K y i c = some j) : ∃ ci k, (i, ci, k) ∈ k_FL K ∧ (c, ci, k, j) ∈ n_R y := by
  unfold zv_fr at h
  split at h
  · rename_i q hq
    have hm := List.mem_of_find?_eq_some hq
    have hp0 := List.find?_some hq; have hp0 : Nat.beq q.1 i = true := hp0
    have hp := z_beq hp0
    cases hu : (n_R y).find? (fun u => Nat.beq u.1 c && Nat.beq u.2.1 q.2.1 && Nat.beq u.2.2.1 q.2.2) with
    | none => rw [hu] at h; cases h
    | some u =>
      rw [hu] at h
      cases h
      have um := List.mem_of_find?_eq_some hu
      have up := List.find?_some hu
      simp only [Bool.and_eq_true] at up
      obtain ⟨q1, q2, q3⟩ := q
      obtain ⟨u1, u2, u3, u4⟩ := u
      have e1 : q1 = i := hp
      have e2 : u1 = c := z_beq up.1.1
      have e3 : u2 = q2 := z_beq up.1.2
      have e4 : u3 = q3 := z_beq up.2
      subst e1; subst e2; subst e3; subst e4
      exact ⟨_, _, hm, um⟩
  · cases h
theorem zv_ar_ok {y : zNL} {c : Nat} {q : Nat × Nat × Nat} (h : zv_ar y c = some q) : (c, q) ∈ n_A y := by
  unfold zv_ar at h
  cases hu : (n_A y).find? (fun u => Nat.beq u.1 c) with
  | none => rw [hu] at h; cases h
  | some u =>
    rw [hu] at h
    cases h
    have um := List.mem_of_find?_eq_some hu
    have up0 := List.find?_some hu; have up0 : Nat.beq u.1 c = true := up0
    have up := z_beq up0
    obtain ⟨u1, u2⟩ := u
    have e1 : u1 = c := up
    subst e1
    exact um
section ZVPURE
variable {cl : List vw_C} {FT : Nat → Nat → FieldType} {KXf : (Nat → Nat) → Nat → State → Heap → Prop} {TBL : List Cond} {MT : List zM} {y : zNL} {mm : zM} {K : zK} {rm : Nat × Nat} {good : Nat → List zNV → List zNV → List zNV → List (Int → Int) → Prop}
variable {pc : Nat} {L S : List zNV} {F : List zNV} {G : List (Int → Int)}
theorem zv_v1 {A : Nat → Nat} {v : zNV} {w : Value} (hn : zv_n1 v = true) (h : zv_v A v w) : w.category = 1 := by
  match v, hn, h with
  | .inl x, _, ⟨y, e, _⟩ => rw [e]; rfl
  | .inr c, hn, e =>
    have e : w = .ref (A c) := zv_w_r e (z_blt hn)
    rw [e]; rfl
/-- a constant -/
def zv_cst (K : zK) (ins : Instr) (len : Nat) : Option Int := match ins with
  | .iconst n => cond (Nat.beq len 1 && z_noov n n) (some n) none
  | .bipush n => cond (Nat.beq len 2 && (z_ile (-128) n && z_ile n 127)) (some n) none
  | .sipush n => cond (Nat.beq len 3 && (z_ile (-32768) n && z_ile n 32767)) (some n) none
  | .ldc i => cond (Nat.beq len 2) (((k_CT K).find? (fun q => Nat.beq q.1 i)).map (fun q => q.2.toInt)) none
  | .ldc_w i => cond (Nat.beq len 3) (((k_CT K).find? (fun q => Nat.beq q.1 i)).map (fun q => q.2.toInt)) none
  | _ => none
theorem zv_con (hB : zv_B cl FT KXf TBL MT y mm K rm good) {ins : Instr} {len : Nat} {n : Int} (hd : decode mm.2.1 pc = .ok (ins, len)) (hc : zv_cst K ins len = some n) (k : good (pc + len) L (.inl n :: S) F G) : good pc L S F G := by
  obtain ⟨p, l, e, R, s, m, args, below, meth, c, Q, OB, D, DA, sz, A, H0, Ts, cells, slots, ⟨hx, hb, hml, hD, hKS⟩, -, -, hg⟩ := hB
  refine (hg _ _ _ _ _).mpr fun H locs ls stk h1 h2 h3 h4 h5 => ?_
  have kk := fun (v : Int32) (hv : v.toInt = n) => (hg _ _ _ _ _).mp k H locs ls (.int v :: stk) h1 h2 h3 h4 ⟨_, _, rfl, ⟨v, rfl, hv⟩, h5⟩
  unfold zv_cst at hc
  split at hc
  · obtain ⟨c1, rfl⟩ := z_cond hc
    rw [Bool.and_eq_true] at c1
    rw [z_beq c1.1] at hd kk
    obtain ⟨q1, q2⟩ := z_noov_ok c1.2
    exact lv_iconst hx hb hd rfl (kk _ (Int32.toInt_ofInt_of_le (by omega) (by omega)))
  · rename_i n2
    obtain ⟨c1, rfl⟩ := z_cond hc
    rw [Bool.and_eq_true, Bool.and_eq_true] at c1
    rw [z_beq c1.1] at hd kk
    have q1 := z_ile_ok c1.2.1
    have q2 := z_ile_ok c1.2.2
    exact lv_bipush hx hb hd rfl (kk ((Int8.ofInt n2).toInt32) (by rw [Int8.toInt_toInt32]; exact Int8.toInt_ofInt_of_le (by omega) (by omega)))
  · rename_i n2
    obtain ⟨c1, rfl⟩ := z_cond hc
    rw [Bool.and_eq_true, Bool.and_eq_true] at c1
    rw [z_beq c1.1] at hd kk
    have q1 := z_ile_ok c1.2.1
    have q2 := z_ile_ok c1.2.2
    exact lv_sipush hx hb hd rfl (kk ((Int16.ofInt n2).toInt32) (by rw [Int16.toInt_toInt32]; exact Int16.toInt_ofInt_of_le (by omega) (by omega)))
  · rename_i i
    cases hf : (k_CT K).find? (fun q => Nat.beq q.1 i) with
    | none => rw [hf] at hc; cases hl : Nat.beq len 2 <;> rw [hl] at hc <;> cases hc
    | some q =>
      rw [hf] at hc
      obtain ⟨c1, rfl⟩ := z_cond (b := Nat.beq len 2) (x := q.2.toInt) hc
      rw [z_beq c1] at hd kk
      have hm := hKS.2.2.2.1 q (List.mem_of_find?_eq_some hf)
      have hp0 := List.find?_some hf; have hp0 : Nat.beq q.1 i = true := hp0
      rw [z_beq hp0] at hm
      exact lv_ldc hx hb hD.2.1 (hD.1 _ hm) hd (kk _ rfl)
  · rename_i i
    cases hf : (k_CT K).find? (fun q => Nat.beq q.1 i) with
    | none => rw [hf] at hc; cases hl : Nat.beq len 3 <;> rw [hl] at hc <;> cases hc
    | some q =>
      rw [hf] at hc
      obtain ⟨c1, rfl⟩ := z_cond (b := Nat.beq len 3) (x := q.2.toInt) hc
      rw [z_beq c1] at hd kk
      have hm := hKS.2.2.2.1 q (List.mem_of_find?_eq_some hf)
      have hp0 := List.find?_some hf; have hp0 : Nat.beq q.1 i = true := hp0
      rw [z_beq hp0] at hm
      exact lv_ldcw hx hb hD.2.1 (hD.1 _ hm) hd (kk _ rfl)
  · cases hc
/-- loads -/
def zv_ldi (ins : Instr) (len : Nat) : Option Nat := match ins with
  | .iload i => cond (Nat.beq len 2) (some i) none
  | .iload_n i => cond (Nat.beq len 1) (some i.val) none
  | _ => none
def zv_lda (ins : Instr) (len : Nat) : Option Nat := match ins with
  | .aload i => cond (Nat.beq len 2) (some i) none
  | .aload_n i => cond (Nat.beq len 1) (some i.val) none
  | _ => none
theorem zv_ild (hB : zv_B cl FT KXf TBL MT y mm K rm good) {ins : Instr} {len i : Nat} {v : Int} (hd : decode mm.2.1 pc = .ok (ins, len)) (hc : zv_ldi ins len = some i) (hl : zv_l L i = some (.inl v)) (k : good (pc + len) L (.inl v :: S) F G) : good pc L S F G := by
  obtain ⟨p, l, e, R, s, m, args, below, meth, c, Q, OB, D, DA, sz, A, H0, Ts, cells, slots, ⟨hx, hb, hml, hD, hKS⟩, -, -, hg⟩ := hB
  refine (hg _ _ _ _ _).mpr fun H locs ls stk h1 h2 h3 h4 h5 => ?_
  obtain ⟨lv, a1, a2, a3⟩ := h4
  obtain ⟨w, ⟨x, rfl, hv⟩, a4⟩ := a3 i _ hl trivial
  have kk := (hg _ _ _ _ _).mp k H locs ls (.int x :: stk) h1 h2 h3 ⟨lv, a1, a2, a3⟩ ⟨_, _, rfl, ⟨x, rfl, hv⟩, h5⟩
  unfold zv_ldi at hc
  split at hc
  · obtain ⟨c1, rfl⟩ := z_cond hc
    rw [z_beq c1] at hd kk
    exact lv_iload hx hb hd (a1.2.2 _ a4) kk
  · obtain ⟨c1, rfl⟩ := z_cond hc
    rw [z_beq c1] at hd kk
    exact lv_iload_n hx hb hd rfl (a1.2.2 _ a4) kk
  · cases hc
theorem zv_ald (hB : zv_B cl FT KXf TBL MT y mm K rm good) {ins : Instr} {len i v : Nat} (hd : decode mm.2.1 pc = .ok (ins, len)) (hc : zv_lda ins len = some i) (hl : zv_l L i = some (.inr v)) (hv : Nat.blt v 1000 = true) (k : good (pc + len) L (.inr v :: S) F G) : good pc L S F G := by
  obtain ⟨p, l, e, R, s, m, args, below, meth, c, Q, OB, D, DA, sz, A, H0, Ts, cells, slots, ⟨hx, hb, hml, hD, hKS⟩, -, -, hg⟩ := hB
  refine (hg _ _ _ _ _).mpr fun H locs ls stk h1 h2 h3 h4 h5 => ?_
  obtain ⟨lv, a1, a2, a3⟩ := h4
  obtain ⟨w, hw, a4⟩ := a3 i _ hl (z_blt hv)
  have hv5 : v < 5000 := by have := z_blt hv; omega
  have hw : w = .ref (A v) := zv_w_r hw hv5
  subst hw
  have kk := (hg _ _ _ _ _).mp k H locs ls (.ref (A v) :: stk) h1 h2 h3 ⟨lv, a1, a2, a3⟩ ⟨_, _, rfl, zv_w_mk hv5, h5⟩
  unfold zv_lda at hc
  split at hc
  · obtain ⟨c1, rfl⟩ := z_cond hc
    rw [z_beq c1] at hd kk
    exact lv_aload hx hb hd (a1.2.2 _ a4) kk
  · obtain ⟨c1, rfl⟩ := z_cond hc
    rw [z_beq c1] at hd kk
    exact lv_aload_n hx hb hd rfl (a1.2.2 _ a4) kk
  · cases hc
/-- stores -/
def zv_sti (ins : Instr) (len : Nat) : Option Nat := match ins with
  | .istore i => cond (Nat.beq len 2) (some i) none
  | .istore_n i => cond (Nat.beq len 1) (some i.val) none
  | _ => none
theorem zv_lv_set {nL i : Nat} {A : Nat → Nat} {v : zNV} {w u : zNV} {x : Value} {ls' : Array Slot} {lv : List (Nat × Value)} (hn : zv_n1 v = true) (a2 : ∀ q ∈ lv, q.2.category = 1) (a3 : ∀ i v, zv_l L i = some v → zv_is v → ∃ w, zv_v A v w ∧ (i, w) ∈ lv) (hv : zv_v A v x) (hl : zv_l L i = some u) (h : lv_has ls' nL ((i, x) :: lv.filter (fun q => !(q.1 == i) && !(q.1 + 1 == i && q.2.category == 2)))) : zv_lv nL ls' A (zv_s L i v) := by
  refine ⟨_, h, fun q hq => ?_, fun j w2 hj hw => ?_⟩
  · rcases List.mem_cons.mp hq with rfl | hq
    · exact zv_v1 hn hv
    · exact a2 q (List.mem_filter.mp hq).1
  · by_cases e : i = j
    · subst e
      rw [zv_ls_eq hl] at hj
      cases hj
      exact ⟨x, hv, List.mem_cons_self⟩
    · rw [zv_ls_ne e] at hj
      obtain ⟨w3, b1, b2⟩ := a3 j w2 hj hw
      refine ⟨w3, b1, List.mem_cons_of_mem _ (List.mem_filter.mpr ⟨b2, ?_⟩)⟩
      have hcat := a2 _ b2
      have hne : ¬ j = i := fun h => e h.symm
      simp [hne, hcat]
theorem zv_ist (hB : zv_B cl FT KXf TBL MT y mm K rm good) {ins : Instr} {len i : Nat} {v : Int} {u : zNV} (hd : decode mm.2.1 pc = .ok (ins, len)) (hc : zv_sti ins len = some i) (hn : Nat.blt i mm.2.2.1 = true) (hl : zv_l L i = some u) (k : good (pc + len) (zv_s L i (.inl v)) S F G) : good pc L (.inl v :: S) F G := by
  obtain ⟨p, l, e, R, s, m, args, below, meth, c, Q, OB, D, DA, sz, A, H0, Ts, cells, slots, ⟨hx, hb, hml, hD, hKS⟩, -, -, hg⟩ := hB
  refine (hg _ _ _ _ _).mpr fun H locs ls stk h1 h2 h3 h4 h5 => ?_
  obtain ⟨lv, a1, a2, a3⟩ := h4
  obtain ⟨w, st, rfl, ⟨x, rfl, hv⟩, h5⟩ := h5
  have kk := fun (ls' : Array Slot) (h : lv_has ls' mm.2.2.1 ((i, .int x) :: lv.filter (fun q => !(q.1 == i) && !(q.1 + 1 == i && q.2.category == 2)))) => (hg _ _ _ _ _).mp k H locs ls' st h1 h2 h3 (zv_lv_set (v := .inl v) (w := u) rfl a2 a3 ⟨x, rfl, hv⟩ hl h) h5
  unfold zv_sti at hc
  split at hc
  · obtain ⟨c1, rfl⟩ := z_cond hc
    rw [z_beq c1] at hd kk
    exact lv_istore hx hb hd a1 (z_blt hn) rfl kk
  · obtain ⟨c1, rfl⟩ := z_cond hc
    rw [z_beq c1] at hd kk
    exact lv_istore_n hx hb hd rfl a1 (z_blt hn) rfl kk
  · cases hc
theorem zv_iinc (hB : zv_B cl FT KXf TBL MT y mm K rm good) {i : Nat} {v n : Int} (hd : decode mm.2.1 pc = .ok (.iinc i n, 3)) (hn : (Nat.blt i mm.2.2.1 && z_noov n n) = true) (hl : zv_l L i = some (.inl v)) (h1 : -2147483648 ≤ v + n) (h2 : v + n ≤ 2147483647) (k : good (pc + 3) (zv_s L i (.inl (v + n))) S F G) : good pc L S F G := by
  obtain ⟨p, l, e, R, s, m, args, below, meth, c, Q, OB, D, DA, sz, A, H0, Ts, cells, slots, ⟨hx, hb, hml, hD, hKS⟩, -, -, hg⟩ := hB
  rw [Bool.and_eq_true] at hn
  obtain ⟨q1, q2⟩ := z_noov_ok hn.2
  refine (hg _ _ _ _ _).mpr fun H locs ls stk g1 g2 g3 h4 h5 => ?_
  obtain ⟨lv, a1, a2, a3⟩ := h4
  obtain ⟨w, ⟨x, rfl, hv⟩, a4⟩ := a3 i _ hl trivial
  obtain ⟨j, hj⟩ := List.getElem?_of_mem a4
  have hx2 : (x + Int32.ofInt n).toInt = v + n := by
    rw [Int32.toInt_add, Int32.toInt_ofInt_of_le (by omega) (by omega), hv]
    exact z_bmod (by omega) (by omega)
  exact lv_iinc hx hb hd a1 hj rfl (z_blt hn.1) rfl fun ls' h => (hg _ _ _ _ _).mp k H locs ls' stk g1 g2 g3 (zv_lv_set (v := .inl (v + n)) (w := .inl v) rfl a2 a3 ⟨_, rfl, hx2⟩ hl h) h5
end ZVPURE
end
section
/-! More rules over named cells: sums, jumps, fields, arrays. -/
def zv_up (g : Int → Int) (j v : Int) : Int → Int := fun i => if i = j then v else g i
theorem zv_up_s {g : Int → Int} {j v : Int} : zv_up g j v j = v := if_pos rfl
theorem zv_up_n {g : Int → Int} {j v i : Int} (h : i ≠ j) : zv_up g j v i = g i := if_neg h
def zv_bop (ins : Instr) : Option (Int32 → Int32 → Int32) := match ins with
  | .iadd => some (fun x y => x + y)
  | .isub => some (fun x y => x - y)
  | .imul => some (fun x y => x * y)
  | .iand => some (fun x y => x &&& y)
  | .ior => some (fun x y => x ||| y)
  | .ixor => some (fun x y => x ^^^ y)
  | .ishl => some (fun x y => x <<< (y &&& 31))
  | .ishr => some (fun x y => x >>> (y &&& 31))
  | _ => none
def zv_bop0 (ins : Instr) : Option (Int32 → Int32 → Int32) := match ins with
  | .idiv => some (fun x y => x / y)
  | .irem => some (fun x y => x - x / y * y)
  | _ => none
theorem zv_and1 {b : Int} {x : Int32} (h : 0 ≤ b) (k : z_in (z_and z_full (b, b)) x) : 0 ≤ x.toInt ∧ x.toInt ≤ b := by
  have e : z_and z_full (b, b) = (0, b) := by
    unfold z_and z_full
    rw [if_neg (by rintro ⟨q, -⟩; cases q), if_neg (by decide), if_pos h]
  rw [e] at k
  exact k
section ZVMORE
variable {cl : List vw_C} {FT : Nat → Nat → FieldType} {KXf : (Nat → Nat) → Nat → State → Heap → Prop} {TBL : List Cond} {MT : List zM} {y : zNL} {mm : zM} {K : zK} {rm : Nat × Nat} {good : Nat → List zNV → List zNV → List zNV → List (Int → Int) → Prop}
variable {pc : Nat} {L S : List zNV} {F : List zNV} {G : List (Int → Int)}
theorem zv_rgl (hB : zv_B cl FT KXf TBL MT y mm K rm good) {i : Nat} {v : Int} (hl : zv_l L i = some (.inl v)) (k : -2147483648 ≤ v → v ≤ 2147483647 → good pc L S F G) : good pc L S F G := by
  obtain ⟨p, l, e, R, s, m, args, below, meth, c, Q, OB, D, DA, sz, A, H0, Ts, cells, slots, ⟨hx, hb, hml, hD, hKS⟩, ⟨hsz, hXp, hX, -⟩, ⟨hwf, hinj, hge, hOB⟩, hg⟩ := hB
  refine (hg _ _ _ _ _).mpr fun H locs ls stk h1 h2 h3 h4 h5 => ?_
  obtain ⟨lv, a1, a2, a3⟩ := h4
  obtain ⟨w, ⟨x, rfl, rfl⟩, a4⟩ := a3 i _ hl trivial
  exact (hg _ _ _ _ _).mp (k (z_lo x) (z_hi x)) H locs ls stk h1 h2 h3 ⟨lv, a1, a2, a3⟩ h5
theorem zv_rgs (hB : zv_B cl FT KXf TBL MT y mm K rm good) {v : Int} (k : -2147483648 ≤ v → v ≤ 2147483647 → good pc L (.inl v :: S) F G) : good pc L (.inl v :: S) F G := by
  obtain ⟨p, l, e, R, s, m, args, below, meth, c, Q, OB, D, DA, sz, A, H0, Ts, cells, slots, ⟨hx, hb, hml, hD, hKS⟩, ⟨hsz, hXp, hX, -⟩, ⟨hwf, hinj, hge, hOB⟩, hg⟩ := hB
  refine (hg _ _ _ _ _).mpr fun H locs ls stk h1 h2 h3 h4 h5 => ?_
  obtain ⟨w, st, rfl, ⟨x, rfl, rfl⟩, h6⟩ := h5
  exact (hg _ _ _ _ _).mp (k (z_lo x) (z_hi x)) H locs ls _ h1 h2 h3 h4 ⟨_, _, rfl, ⟨x, rfl, rfl⟩, h6⟩
theorem zv_bin (hB : zv_B cl FT KXf TBL MT y mm K rm good) {ins : Instr} {op : Int32 → Int32 → Int32} {a b : Int} (hd : decode mm.2.1 pc = .ok (ins, 1)) (ho : zv_bop ins = some op) (k : ∀ u v : Int32, u.toInt = a → v.toInt = b → good (pc + 1) L (.inl (op u v).toInt :: S) F G) : good pc L (.inl b :: .inl a :: S) F G := by
  obtain ⟨p, l, e, R, s, m, args, below, meth, c, Q, OB, D, DA, sz, A, H0, Ts, cells, slots, ⟨hx, hb, hml, hD, hKS⟩, ⟨hsz, hXp, hX, -⟩, ⟨hwf, hinj, hge, hOB⟩, hg⟩ := hB
  refine (hg _ _ _ _ _).mpr fun H locs ls stk h1 h2 h3 h4 h5 => ?_
  obtain ⟨w, st, rfl, ⟨v, rfl, hv⟩, w2, st2, rfl, ⟨u, rfl, hu⟩, h6⟩ := h5
  have kk := (hg _ _ _ _ _).mp (k u v hu hv) H locs ls (.int (op u v) :: st2) h1 h2 h3 h4 ⟨_, _, rfl, ⟨_, rfl, rfl⟩, h6⟩
  unfold zv_bop at ho
  split at ho
  · cases ho; exact lv_iadd hx hb hd kk
  · cases ho; exact lv_isub hx hb hd kk
  · cases ho; exact lv_imul hx hb hd kk
  · cases ho; exact lv_iand hx hb hd kk
  · cases ho; exact lv_ior hx hb hd kk
  · cases ho; exact lv_ixor hx hb hd kk
  · cases ho; exact lv_ishl hx hb hd kk
  · cases ho; exact lv_ishr hx hb hd kk
  · cases ho
theorem zv_bin0 (hB : zv_B cl FT KXf TBL MT y mm K rm good) {ins : Instr} {op : Int32 → Int32 → Int32} {a b : Int} (hd : decode mm.2.1 pc = .ok (ins, 1)) (ho : zv_bop0 ins = some op) (hb0 : b ≠ 0) (k : ∀ u v : Int32, u.toInt = a → v.toInt = b → good (pc + 1) L (.inl (op u v).toInt :: S) F G) : good pc L (.inl b :: .inl a :: S) F G := by
  obtain ⟨p, l, e, R, s, m, args, below, meth, c, Q, OB, D, DA, sz, A, H0, Ts, cells, slots, ⟨hx, hb, hml, hD, hKS⟩, ⟨hsz, hXp, hX, -⟩, ⟨hwf, hinj, hge, hOB⟩, hg⟩ := hB
  refine (hg _ _ _ _ _).mpr fun H locs ls stk h1 h2 h3 h4 h5 => ?_
  obtain ⟨w, st, rfl, ⟨v, rfl, hv⟩, w2, st2, rfl, ⟨u, rfl, hu⟩, h6⟩ := h5
  have kk := (hg _ _ _ _ _).mp (k u v hu hv) H locs ls (.int (op u v) :: st2) h1 h2 h3 h4 ⟨_, _, rfl, ⟨_, rfl, rfl⟩, h6⟩
  have hv0 : ¬ v = 0 := fun q => hb0 (by rw [← hv, q]; rfl)
  unfold zv_bop0 at ho
  split at ho
  · cases ho; exact lv_idiv hx hb hd hv0 kk
  · cases ho; exact lv_irem hx hb hd hv0 kk
  · cases ho
theorem zv_neg (hB : zv_B cl FT KXf TBL MT y mm K rm good) {a : Int} (hd : decode mm.2.1 pc = .ok (.ineg, 1)) (k : ∀ u : Int32, u.toInt = a → good (pc + 1) L (.inl (-u).toInt :: S) F G) : good pc L (.inl a :: S) F G := by
  obtain ⟨p, l, e, R, s, m, args, below, meth, c, Q, OB, D, DA, sz, A, H0, Ts, cells, slots, ⟨hx, hb, hml, hD, hKS⟩, ⟨hsz, hXp, hX, -⟩, ⟨hwf, hinj, hge, hOB⟩, hg⟩ := hB
  refine (hg _ _ _ _ _).mpr fun H locs ls stk h1 h2 h3 h4 h5 => ?_
  obtain ⟨w2, st2, rfl, ⟨u, rfl, hu⟩, h6⟩ := h5
  exact lv_ineg hx hb hd ((hg _ _ _ _ _).mp (k u hu) H locs ls (.int (-u) :: st2) h1 h2 h3 h4 ⟨_, _, rfl, ⟨_, rfl, rfl⟩, h6⟩)
/-- any value -/
theorem zv_any (hB : zv_B cl FT KXf TBL MT y mm K rm good) {ins : Instr} {op : Int32 → Int32 → Int32} {a b : Int} (hd : decode mm.2.1 pc = .ok (ins, 1)) (ho : zv_bop ins = some op) (k : ∀ v : Int, -2147483648 ≤ v → v ≤ 2147483647 → good (pc + 1) L (.inl v :: S) F G) : good pc L (.inl b :: .inl a :: S) F G :=
  zv_bin hB hd ho fun u v _ _ => k _ (z_lo _) (z_hi _)
theorem zv_any0 (hB : zv_B cl FT KXf TBL MT y mm K rm good) {ins : Instr} {op : Int32 → Int32 → Int32} {a b : Int} (hd : decode mm.2.1 pc = .ok (ins, 1)) (ho : zv_bop0 ins = some op) (hb0 : b ≠ 0) (k : ∀ v : Int, -2147483648 ≤ v → v ≤ 2147483647 → good (pc + 1) L (.inl v :: S) F G) : good pc L (.inl b :: .inl a :: S) F G :=
  zv_bin0 hB hd ho hb0 fun u v _ _ => k _ (z_lo _) (z_hi _)
theorem zv_iadd (hB : zv_B cl FT KXf TBL MT y mm K rm good) {a b : Int} (hd : decode mm.2.1 pc = .ok (.iadd, 1)) (h1 : -2147483648 ≤ a + b) (h2 : a + b ≤ 2147483647) (k : good (pc + 1) L (.inl (a + b) :: S) F G) : good pc L (.inl b :: .inl a :: S) F G :=
  zv_bin hB hd rfl fun u v hu hv => by
    have : (u + v).toInt = a + b := by rw [Int32.toInt_add, hu, hv]; exact z_bmod h1 h2
    show good _ _ (.inl (u + v).toInt :: _) _ _
    rw [this]; exact k
theorem zv_isub (hB : zv_B cl FT KXf TBL MT y mm K rm good) {a b : Int} (hd : decode mm.2.1 pc = .ok (.isub, 1)) (h1 : -2147483648 ≤ a - b) (h2 : a - b ≤ 2147483647) (k : good (pc + 1) L (.inl (a - b) :: S) F G) : good pc L (.inl b :: .inl a :: S) F G :=
  zv_bin hB hd rfl fun u v hu hv => by
    have : (u - v).toInt = a - b := by rw [Int32.toInt_sub, hu, hv]; exact z_bmod h1 h2
    show good _ _ (.inl (u - v).toInt :: _) _ _
    rw [this]; exact k
theorem zv_imul (hB : zv_B cl FT KXf TBL MT y mm K rm good) {a b : Int} (hd : decode mm.2.1 pc = .ok (.imul, 1)) (h1 : -2147483648 ≤ a * b) (h2 : a * b ≤ 2147483647) (k : good (pc + 1) L (.inl (a * b) :: S) F G) : good pc L (.inl b :: .inl a :: S) F G :=
  zv_bin hB hd rfl fun u v hu hv => by
    have : (u * v).toInt = a * b := by rw [Int32.toInt_mul, hu, hv]; exact z_bmod h1 h2
    show good _ _ (.inl (u * v).toInt :: _) _ _
    rw [this]; exact k
/-- a byte without its sign, and the like -/
theorem zv_and (hB : zv_B cl FT KXf TBL MT y mm K rm good) {a b : Int} (hd : decode mm.2.1 pc = .ok (.iand, 1)) (hb0 : 0 ≤ b) (k : ∀ v : Int, 0 ≤ v → v ≤ b → good (pc + 1) L (.inl v :: S) F G) : good pc L (.inl b :: .inl a :: S) F G :=
  zv_bin hB hd rfl fun u v hu hv => by
    have := z_and_ok (a := z_full) (b := (b, b)) (x := u) (y := v) ⟨z_lo u, z_hi u⟩ ⟨by rw [hv]; exact Int.le_refl _, by rw [hv]; exact Int.le_refl _⟩
    exact k _ (zv_and1 hb0 this).1 (zv_and1 hb0 this).2
theorem zv_dup (hB : zv_B cl FT KXf TBL MT y mm K rm good) {v : zNV} (hd : decode mm.2.1 pc = .ok (.dup, 1)) (hv1 : zv_n1 v = true) (k : good (pc + 1) L (v :: v :: S) F G) : good pc L (v :: S) F G := by
  obtain ⟨p, l, e, R, s, m, args, below, meth, c, Q, OB, D, DA, sz, A, H0, Ts, cells, slots, ⟨hx, hb, hml, hD, hKS⟩, ⟨hsz, hXp, hX, -⟩, ⟨hwf, hinj, hge, hOB⟩, hg⟩ := hB
  refine (hg _ _ _ _ _).mpr fun H locs ls stk h1 h2 h3 h4 h5 => ?_
  obtain ⟨w, st, rfl, hv, h6⟩ := h5
  exact lv_dup hx hb hd (zv_v1 hv1 hv) ((hg _ _ _ _ _).mp k H locs ls _ h1 h2 h3 h4 ⟨_, _, rfl, hv, _, _, rfl, hv, h6⟩)
theorem zv_dupx1 (hB : zv_B cl FT KXf TBL MT y mm K rm good) {v u : zNV} (hd : decode mm.2.1 pc = .ok (.dup_x1, 1)) (hv1 : zv_n1 v = true) (hu1 : zv_n1 u = true) (k : good (pc + 1) L (v :: u :: v :: S) F G) : good pc L (v :: u :: S) F G := by
  obtain ⟨p, l, e, R, s, m, args, below, meth, c, Q, OB, D, DA, sz, A, H0, Ts, cells, slots, ⟨hx, hb, hml, hD, hKS⟩, ⟨hsz, hXp, hX, -⟩, ⟨hwf, hinj, hge, hOB⟩, hg⟩ := hB
  refine (hg _ _ _ _ _).mpr fun H locs ls stk h1 h2 h3 h4 h5 => ?_
  obtain ⟨w, st, rfl, hv, w2, st2, rfl, hu, h6⟩ := h5
  exact lv_dup_x1 hx hb hd (zv_v1 hv1 hv) (zv_v1 hu1 hu) ((hg _ _ _ _ _).mp k H locs ls _ h1 h2 h3 h4 ⟨_, _, rfl, hv, _, _, rfl, hu, _, _, rfl, hv, h6⟩)
theorem zv_dup2 (hB : zv_B cl FT KXf TBL MT y mm K rm good) {v u : zNV} (hd : decode mm.2.1 pc = .ok (.dup2, 1)) (hv1 : zv_n1 v = true) (hu1 : zv_n1 u = true) (k : good (pc + 1) L (v :: u :: v :: u :: S) F G) : good pc L (v :: u :: S) F G := by
  obtain ⟨p, l, e, R, s, m, args, below, meth, c, Q, OB, D, DA, sz, A, H0, Ts, cells, slots, ⟨hx, hb, hml, hD, hKS⟩, ⟨hsz, hXp, hX, -⟩, ⟨hwf, hinj, hge, hOB⟩, hg⟩ := hB
  refine (hg _ _ _ _ _).mpr fun H locs ls stk h1 h2 h3 h4 h5 => ?_
  obtain ⟨w, st, rfl, hv, w2, st2, rfl, hu, h6⟩ := h5
  exact lv_dup2_11 hx hb hd (zv_v1 hv1 hv) (zv_v1 hu1 hu) ((hg _ _ _ _ _).mp k H locs ls _ h1 h2 h3 h4 ⟨_, _, rfl, hv, _, _, rfl, hu, _, _, rfl, hv, _, _, rfl, hu, h6⟩)
theorem zv_pop (hB : zv_B cl FT KXf TBL MT y mm K rm good) {v : zNV} (hd : decode mm.2.1 pc = .ok (.pop, 1)) (hv1 : zv_n1 v = true) (k : good (pc + 1) L S F G) : good pc L (v :: S) F G := by
  obtain ⟨p, l, e, R, s, m, args, below, meth, c, Q, OB, D, DA, sz, A, H0, Ts, cells, slots, ⟨hx, hb, hml, hD, hKS⟩, ⟨hsz, hXp, hX, -⟩, ⟨hwf, hinj, hge, hOB⟩, hg⟩ := hB
  refine (hg _ _ _ _ _).mpr fun H locs ls stk h1 h2 h3 h4 h5 => ?_
  obtain ⟨w, st, rfl, hv, h6⟩ := h5
  exact lv_pop hx hb hd (zv_v1 hv1 hv) ((hg _ _ _ _ _).mp k H locs ls _ h1 h2 h3 h4 h6)
theorem zv_goto (hB : zv_B cl FT KXf TBL MT y mm K rm good) {off : Int} {t : Nat} (hd : decode mm.2.1 pc = .ok (.goto off, 3)) (ht : z_to pc off = some t) (k : good t L S F G) : good pc L S F G := by
  obtain ⟨p, l, e, R, s, m, args, below, meth, c, Q, OB, D, DA, sz, A, H0, Ts, cells, slots, ⟨hx, hb, hml, hD, hKS⟩, ⟨hsz, hXp, hX, -⟩, ⟨hwf, hinj, hge, hOB⟩, hg⟩ := hB
  refine (hg _ _ _ _ _).mpr fun H locs ls stk h1 h2 h3 h4 h5 => ?_
  exact lv_goto hx hb hd (z_to_ok ht) ((hg _ _ _ _ _).mp k H locs ls _ h1 h2 h3 h4 h5)
theorem zv_icmp (hB : zv_B cl FT KXf TBL MT y mm K rm good) {kc : zC} {off : Int} {t : Nat} {a b : Int} (hd : decode mm.2.1 pc = .ok (.if_icmp kc off, 3)) (ht : z_to pc off = some t) (k1 : z_rel kc a b → good t L S F G) (k2 : z_rel (z_not kc) a b → good (pc + 3) L S F G) : good pc L (.inl b :: .inl a :: S) F G := by
  obtain ⟨p, l, e, R, s, m, args, below, meth, c, Q, OB, D, DA, sz, A, H0, Ts, cells, slots, ⟨hx, hb, hml, hD, hKS⟩, ⟨hsz, hXp, hX, -⟩, ⟨hwf, hinj, hge, hOB⟩, hg⟩ := hB
  refine (hg _ _ _ _ _).mpr fun H locs ls stk h1 h2 h3 h4 h5 => ?_
  obtain ⟨w, st, rfl, ⟨v, rfl, hv⟩, w2, st2, rfl, ⟨u, rfl, hu⟩, h6⟩ := h5
  exact z_icmp_row hx hb hd (z_to_ok ht) (fun h => (hg _ _ _ _ _).mp (k1 (by rw [← hu, ← hv]; exact h)) H locs ls _ h1 h2 h3 h4 h6) (fun h => (hg _ _ _ _ _).mp (k2 (by rw [← hu, ← hv]; exact h)) H locs ls _ h1 h2 h3 h4 h6)
theorem zv_icnd (hB : zv_B cl FT KXf TBL MT y mm K rm good) {kc : zC} {off : Int} {t : Nat} {a : Int} (hd : decode mm.2.1 pc = .ok (.ifCond kc off, 3)) (ht : z_to pc off = some t) (k1 : z_rel kc a 0 → good t L S F G) (k2 : z_rel (z_not kc) a 0 → good (pc + 3) L S F G) : good pc L (.inl a :: S) F G := by
  obtain ⟨p, l, e, R, s, m, args, below, meth, c, Q, OB, D, DA, sz, A, H0, Ts, cells, slots, ⟨hx, hb, hml, hD, hKS⟩, ⟨hsz, hXp, hX, -⟩, ⟨hwf, hinj, hge, hOB⟩, hg⟩ := hB
  refine (hg _ _ _ _ _).mpr fun H locs ls stk h1 h2 h3 h4 h5 => ?_
  obtain ⟨w2, st2, rfl, ⟨u, rfl, hu⟩, h6⟩ := h5
  exact z_icnd_row hx hb hd (z_to_ok ht) (fun h => (hg _ _ _ _ _).mp (k1 (by rw [← hu]; exact h)) H locs ls _ h1 h2 h3 h4 h6) (fun h => (hg _ _ _ _ _).mp (k2 (by rw [← hu]; exact h)) H locs ls _ h1 h2 h3 h4 h6)
theorem zv_ceq (hB : zv_B cl FT KXf TBL MT y mm K rm good) {off : Int} {t : Nat} {a b : Int} (hd : decode mm.2.1 pc = .ok (.if_icmp .eq off, 3)) (ht : z_to pc off = some t) (k1 : a = b → good t L S F G) (k2 : a ≠ b → good (pc + 3) L S F G) : good pc L (.inl b :: .inl a :: S) F G := zv_icmp hB hd ht k1 k2
theorem zv_zeq (hB : zv_B cl FT KXf TBL MT y mm K rm good) {off : Int} {t : Nat} {a : Int} (hd : decode mm.2.1 pc = .ok (.ifCond .eq off, 3)) (ht : z_to pc off = some t) (k1 : a = 0 → good t L S F G) (k2 : a ≠ 0 → good (pc + 3) L S F G) : good pc L (.inl a :: S) F G := zv_icnd hB hd ht k1 k2
theorem zv_cne (hB : zv_B cl FT KXf TBL MT y mm K rm good) {off : Int} {t : Nat} {a b : Int} (hd : decode mm.2.1 pc = .ok (.if_icmp .ne off, 3)) (ht : z_to pc off = some t) (k1 : a ≠ b → good t L S F G) (k2 : a = b → good (pc + 3) L S F G) : good pc L (.inl b :: .inl a :: S) F G := zv_icmp hB hd ht k1 k2
theorem zv_zne (hB : zv_B cl FT KXf TBL MT y mm K rm good) {off : Int} {t : Nat} {a : Int} (hd : decode mm.2.1 pc = .ok (.ifCond .ne off, 3)) (ht : z_to pc off = some t) (k1 : a ≠ 0 → good t L S F G) (k2 : a = 0 → good (pc + 3) L S F G) : good pc L (.inl a :: S) F G := zv_icnd hB hd ht k1 k2
theorem zv_clt (hB : zv_B cl FT KXf TBL MT y mm K rm good) {off : Int} {t : Nat} {a b : Int} (hd : decode mm.2.1 pc = .ok (.if_icmp .lt off, 3)) (ht : z_to pc off = some t) (k1 : a < b → good t L S F G) (k2 : b ≤ a → good (pc + 3) L S F G) : good pc L (.inl b :: .inl a :: S) F G := zv_icmp hB hd ht k1 k2
theorem zv_zlt (hB : zv_B cl FT KXf TBL MT y mm K rm good) {off : Int} {t : Nat} {a : Int} (hd : decode mm.2.1 pc = .ok (.ifCond .lt off, 3)) (ht : z_to pc off = some t) (k1 : a < 0 → good t L S F G) (k2 : 0 ≤ a → good (pc + 3) L S F G) : good pc L (.inl a :: S) F G := zv_icnd hB hd ht k1 k2
theorem zv_cge (hB : zv_B cl FT KXf TBL MT y mm K rm good) {off : Int} {t : Nat} {a b : Int} (hd : decode mm.2.1 pc = .ok (.if_icmp .ge off, 3)) (ht : z_to pc off = some t) (k1 : b ≤ a → good t L S F G) (k2 : a < b → good (pc + 3) L S F G) : good pc L (.inl b :: .inl a :: S) F G := zv_icmp hB hd ht k1 k2
theorem zv_zge (hB : zv_B cl FT KXf TBL MT y mm K rm good) {off : Int} {t : Nat} {a : Int} (hd : decode mm.2.1 pc = .ok (.ifCond .ge off, 3)) (ht : z_to pc off = some t) (k1 : 0 ≤ a → good t L S F G) (k2 : a < 0 → good (pc + 3) L S F G) : good pc L (.inl a :: S) F G := zv_icnd hB hd ht k1 k2
theorem zv_cgt (hB : zv_B cl FT KXf TBL MT y mm K rm good) {off : Int} {t : Nat} {a b : Int} (hd : decode mm.2.1 pc = .ok (.if_icmp .gt off, 3)) (ht : z_to pc off = some t) (k1 : b < a → good t L S F G) (k2 : a ≤ b → good (pc + 3) L S F G) : good pc L (.inl b :: .inl a :: S) F G := zv_icmp hB hd ht k1 k2
theorem zv_zgt (hB : zv_B cl FT KXf TBL MT y mm K rm good) {off : Int} {t : Nat} {a : Int} (hd : decode mm.2.1 pc = .ok (.ifCond .gt off, 3)) (ht : z_to pc off = some t) (k1 : 0 < a → good t L S F G) (k2 : a ≤ 0 → good (pc + 3) L S F G) : good pc L (.inl a :: S) F G := zv_icnd hB hd ht k1 k2
theorem zv_cle (hB : zv_B cl FT KXf TBL MT y mm K rm good) {off : Int} {t : Nat} {a b : Int} (hd : decode mm.2.1 pc = .ok (.if_icmp .le off, 3)) (ht : z_to pc off = some t) (k1 : a ≤ b → good t L S F G) (k2 : b < a → good (pc + 3) L S F G) : good pc L (.inl b :: .inl a :: S) F G := zv_icmp hB hd ht k1 k2
theorem zv_zle (hB : zv_B cl FT KXf TBL MT y mm K rm good) {off : Int} {t : Nat} {a : Int} (hd : decode mm.2.1 pc = .ok (.ifCond .le off, 3)) (ht : z_to pc off = some t) (k1 : a ≤ 0 → good t L S F G) (k2 : 0 < a → good (pc + 3) L S F G) : good pc L (.inl a :: S) F G := zv_icnd hB hd ht k1 k2
end ZVMORE
end
section
/-! Rules over named cells: switches, fields, arrays. -/
/-- a switch, case by case -/
def zv_sw (pc : Nat) (good : Nat → Prop) (a dflt : Int) : List (Int × Int) → Prop
  | [] => ∃ t, z_to pc dflt = some t ∧ good t
  | q :: r => (a = q.1 → ∃ t, z_to pc q.2 = some t ∧ good t) ∧ (a ≠ q.1 → zv_sw pc good a dflt r)
theorem zv_sw_ok {pc : Nat} {good : Nat → Prop} {a dflt : Int} : ∀ {ps : List (Int × Int)}, zv_sw pc good a dflt ps → ∃ t, z_to pc (lookupswitch.offset ps dflt a) = some t ∧ good t
  | [], h => h
  | (k, o) :: r, h => by
    rw [lookupswitch.offset_cons]
    by_cases e : k = a
    · rw [if_pos e]; exact h.1 e.symm
    · rw [if_neg e]; exact zv_sw_ok (h.2 (fun q => e q.symm))
def zv_tp : Int → List Int → List (Int × Int)
  | _, [] => []
  | lo, o :: r => (lo, o) :: zv_tp (lo + 1) r
theorem zv_tp_in : ∀ {offs : List Int} {lo d a : Int} {i : Nat} {o : Int}, offs[i]? = some o → a = lo + i → lookupswitch.offset (zv_tp lo offs) d a = o
  | [], _, _, _, _, _, h, _ => by simp at h
  | x :: r, lo, d, a, 0, o, h, e => by
    have : x = o := by simpa using h
    unfold zv_tp
    rw [lookupswitch.offset_cons, if_pos (by rw [e]; simp), this]
  | x :: r, lo, d, a, i + 1, o, h, e => by
    unfold zv_tp
    rw [lookupswitch.offset_cons, if_neg (by rw [e]; omega)]
    exact zv_tp_in (i := i) (by simpa using h) (by rw [e]; omega)
theorem zv_tp_out : ∀ {offs : List Int} {lo d a : Int}, (a < lo ∨ lo + offs.length ≤ a) → lookupswitch.offset (zv_tp lo offs) d a = d
  | [], _, _, _, _ => rfl
  | x :: r, lo, d, a, h => by
    unfold zv_tp
    have h : a < lo ∨ lo + (r.length + 1 : Nat) ≤ a := h
    rw [lookupswitch.offset_cons, if_neg (by omega)]
    exact zv_tp_out (by omega)
/-- a field that can be set: whether it is a boolean -/
def zv_pk (cl : List vw_C) (FT : Nat → Nat → FieldType) (K : zK) (i : Nat) : Option Bool := match (k_FL K).find? (fun q => Nat.beq q.1 i) with
  | some q => (match cl[q.2.1]? with
    | some r => cond (r.2.1 q.2.2).2.2.2 none (match FT q.2.1 q.2.2 with
      | .int => some false
      | .boolean => some true
      | _ => none)
    | none => none)
  | none => none
theorem zv_wfI {y : zNL} (h : zv_wf y = true) {q u : Nat × Nat × Nat × Nat} (hq : q ∈ n_I y) (hu : u ∈ n_I y) : (q.2.2.2 = u.2.2.2 ↔ q.1 = u.1 ∧ q.2.2.1 = u.2.2.1) ∧ (q.1 = u.1 → q.2.1 = u.2.1) := by
  have h := (zv_wf0_of h).2
  unfold zv_wf0 at h
  simp only [Bool.and_eq_true] at h
  have h1 := List.all_eq_true.mp h.1.1.1 q hq
  simp only [Bool.and_eq_true] at h1
  have h2 := List.all_eq_true.mp h1.1.1.1 u hu
  simp only [Bool.and_eq_true, Bool.or_eq_true, Bool.not_eq_true', beq_iff_eq] at h2
  refine ⟨⟨fun e => ?_, fun e => ?_⟩, fun e => ?_⟩
  · have : Nat.beq q.2.2.2 u.2.2.2 = true := by rw [e]; exact Nat.beq_refl _
    rw [h2.1, Bool.and_eq_true] at this
    exact ⟨z_beq this.1, z_beq this.2⟩
  · refine z_beq ?_
    rw [h2.1, e.1, e.2, Nat.beq_refl, Nat.beq_refl]; rfl
  · rcases h2.2 with h3 | h3
    · rw [e, Nat.beq_refl] at h3; cases h3
    · exact z_beq h3
theorem zv_wfIR {y : zNL} (h : zv_wf y = true) {q u : Nat × Nat × Nat × Nat} (hq : q ∈ n_I y) (hu : u ∈ n_R y) : ¬ (q.1 = u.1 ∧ q.2.2.1 = u.2.2.1) ∧ (q.1 = u.1 → q.2.1 = u.2.1) := by
  have h := (zv_wf0_of h).2
  unfold zv_wf0 at h
  simp only [Bool.and_eq_true] at h
  have h1 := List.all_eq_true.mp h.1.1.1 q hq
  simp only [Bool.and_eq_true] at h1
  have h2 := List.all_eq_true.mp h1.1.2 u hu
  simp only [Bool.and_eq_true, Bool.or_eq_true, Bool.not_eq_true'] at h2
  refine ⟨fun e => ?_, fun e => ?_⟩
  · have := h2.1
    rw [e.1, e.2, Nat.beq_refl, Nat.beq_refl] at this
    cases this
  · rcases h2.2 with h3 | h3
    · rw [e, Nat.beq_refl] at h3; cases h3
    · exact z_beq h3
theorem zv_wfIn {y : zNL} (h : zv_wf y = true) {q : Nat × Nat × Nat × Nat} (hq : q ∈ n_I y) : q.1 < n_N y ∧ ∃ o ∈ n_O y, o.1 = q.1 ∧ o.2 = q.2.1 := by
  have h := (zv_wf0_of h).2
  unfold zv_wf0 at h
  simp only [Bool.and_eq_true] at h
  have h1 := List.all_eq_true.mp h.1.1.1 q hq
  simp only [Bool.and_eq_true] at h1
  obtain ⟨o, ho, ho2⟩ := List.any_eq_true.mp h1.2
  rw [Bool.and_eq_true] at ho2
  exact ⟨z_blt h1.1.1.2, o, ho, z_beq ho2.1, z_beq ho2.2⟩
theorem zv_wfR {y : zNL} (h : zv_wf y = true) {q : Nat × Nat × Nat × Nat} (hq : q ∈ n_R y) : q.1 < n_N y ∧ q.2.2.2 < n_N y := by
  have h := (zv_wf0_of h).2
  unfold zv_wf0 at h
  simp only [Bool.and_eq_true] at h
  have h1 := List.all_eq_true.mp h.1.1.2 q hq
  rw [Bool.and_eq_true] at h1
  exact ⟨z_blt h1.1, z_blt h1.2⟩
theorem zv_wfO {y : zNL} (h : zv_wf y = true) {q : Nat × Nat} (hq : q ∈ n_O y) : q.1 < n_N y ∧ (∀ u ∈ n_A y, q.1 ≠ u.1) ∧ ∀ u ∈ n_I y, q.1 = u.1 → q.2 = u.2.1 := by
  have h := (zv_wf0_of h).2
  unfold zv_wf0 at h
  simp only [Bool.and_eq_true] at h
  have h1 := List.all_eq_true.mp h.1.2 q hq
  simp only [Bool.and_eq_true] at h1
  refine ⟨z_blt h1.1.1.1, fun u hu e => ?_, fun u hu e => ?_⟩
  · have h2 := List.all_eq_true.mp h1.1.2 u hu
    rw [e, Nat.beq_refl] at h2; cases h2
  · have h2 := List.all_eq_true.mp h1.2 u hu
    simp only [Bool.or_eq_true, Bool.not_eq_true'] at h2
    rcases h2 with h3 | h3
    · rw [e, Nat.beq_refl] at h3; cases h3
    · exact z_beq h3
theorem zv_wfA {y : zNL} (h : zv_wf y = true) {q : Nat × Nat × Nat × Nat} (hq : q ∈ n_A y) : q.1 < n_N y ∧ (∀ u ∈ n_A y, (q.2.2.2 = u.2.2.2 ↔ q.1 = u.1) ∧ (q.1 = u.1 → q.2.1 = u.2.1 ∧ q.2.2.1 = u.2.2.1)) ∧ (∀ u ∈ n_I y, q.1 ≠ u.1) ∧ ∀ u ∈ n_R y, q.1 ≠ u.1 := by
  have h := (zv_wf0_of h).2
  unfold zv_wf0 at h
  simp only [Bool.and_eq_true] at h
  have h1 := List.all_eq_true.mp h.2 q hq
  simp only [Bool.and_eq_true] at h1
  refine ⟨z_blt h1.1.1.1, fun u hu => ?_, fun u hu e => ?_, fun u hu e => ?_⟩
  · have h2 := List.all_eq_true.mp h1.1.1.2 u hu
    simp only [Bool.and_eq_true, Bool.or_eq_true, Bool.not_eq_true', beq_iff_eq] at h2
    refine ⟨⟨fun e => ?_, fun e => ?_⟩, fun e => ?_⟩
    · refine z_beq ?_
      rw [← h2.1, e]; exact Nat.beq_refl _
    · refine z_beq ?_
      rw [h2.1, e]; exact Nat.beq_refl _
    · rcases h2.2 with h3 | h3
      · rw [e, Nat.beq_refl] at h3; cases h3
      · exact ⟨z_beq h3.1, z_beq h3.2⟩
  · have h2 := List.all_eq_true.mp h1.1.2 u hu
    rw [e, Nat.beq_refl] at h2; cases h2
  · have h2 := List.all_eq_true.mp h1.2 u hu
    rw [e, Nat.beq_refl] at h2; cases h2
/-- a field of references that can be set -/
def zv_pq (cl : List vw_C) (FT : Nat → Nat → FieldType) (K : zK) (i : Nat) : Option Bool := match (k_FL K).find? (fun q => Nat.beq q.1 i) with
  | some q => (match cl[q.2.1]? with
    | some r => cond (r.2.1 q.2.2).2.2.2 none (match FT q.2.1 q.2.2 with
      | .object _ => some true
      | .array _ => some true
      | _ => none)
    | none => none)
  | none => none
theorem zv_fi_lt {K : zK} {y : zNL} {i c j : Nat} (hwf : zv_wf y = true) (h : zv_fi K y i c = some j) : c < 5000 := by
  obtain ⟨ci, k, -, h2⟩ := zv_fi_ok h
  have h3 : c < n_N y := (zv_wfIn hwf h2).1
  have := (zv_wf0_of hwf).1
  omega
theorem zv_fr_lt {K : zK} {y : zNL} {i c j : Nat} (hwf : zv_wf y = true) (h : zv_fr K y i c = some j) : c < 5000 ∧ j < 5000 := by
  obtain ⟨ci, k, -, h2⟩ := zv_fr_ok h
  obtain ⟨h3, h4⟩ := zv_wfR hwf h2
  have h3 : c < n_N y := h3
  have h4 : j < n_N y := h4
  have := (zv_wf0_of hwf).1
  exact ⟨by omega, by omega⟩
theorem zv_ar_lt {y : zNL} {c : Nat} {q : Nat × Nat × Nat} (hwf : zv_wf y = true) (h : zv_ar y c = some q) : c < 5000 := by
  have h3 : c < n_N y := (zv_wfA hwf (zv_ar_ok h)).1
  have := (zv_wf0_of hwf).1
  omega
theorem zv_any_lt {y : zNL} {c k : Nat} (hwf : zv_wf y = true) (h : (n_O y).any (fun o => Nat.beq o.1 c && Nat.beq o.2 k) = true) : c < 5000 := by
  obtain ⟨o, ho, ho2⟩ := List.any_eq_true.mp h
  rw [Bool.and_eq_true] at ho2
  have h3 := (zv_wfO hwf ho).1
  have := (zv_wf0_of hwf).1
  rw [z_beq ho2.1] at h3
  omega
section ZVHEAP
variable {cl : List vw_C} {FT : Nat → Nat → FieldType} {KXf : (Nat → Nat) → Nat → State → Heap → Prop} {TBL : List Cond} {MT : List zM} {y : zNL} {mm : zM} {K : zK} {rm : Nat × Nat} {good : Nat → List zNV → List zNV → List zNV → List (Int → Int) → Prop}
variable {pc : Nat} {L S : List zNV} {F : List zNV} {G : List (Int → Int)}
theorem zv_lsw (hB : zv_B cl FT KXf TBL MT y mm K rm good) {dflt : Int} {ps : Array (Int × Int)} {len : Nat} {a : Int} (hd : decode mm.2.1 pc = .ok (.lookupswitch dflt ps, len)) (hp : (ps.toList.zip (ps.toList.drop 1)).all (fun (a, next) => a.1 < next.1) = true) (k : zv_sw pc (fun t => good t L S F G) a dflt ps.toList) : good pc L (.inl a :: S) F G := by
  obtain ⟨p, l, e, R, s, m, args, below, meth, c, Q, OB, D, DA, sz, A, H0, Ts, cells, slots, ⟨hx, hb, hml, hD, hKS⟩, ⟨hsz, hXp, hX, -⟩, ⟨hwf, hinj, hge, hOB⟩, hg⟩ := hB
  refine (hg _ _ _ _ _).mpr fun H locs ls stk h1 h2 h3 h4 h5 => ?_
  obtain ⟨w, st, rfl, ⟨x, rfl, rfl⟩, h6⟩ := h5
  obtain ⟨t, t1, t2⟩ := zv_sw_ok k
  exact lv_lookup hx hb hd hp rfl (z_to_ok t1) ((hg _ _ _ _ _).mp t2 H locs ls _ h1 h2 h3 h4 h6)
theorem zv_tsw (hB : zv_B cl FT KXf TBL MT y mm K rm good) {dflt lo hi : Int} {offs : Array Int} {len : Nat} {a : Int} (hd : decode mm.2.1 pc = .ok (.tableswitch dflt lo hi offs, len)) (hp : (z_ile lo (hi + 1) && z_ile (hi + 1) (lo + offs.toList.length) && z_ile (lo + offs.toList.length) (hi + 1)) = true) (k : zv_sw pc (fun t => good t L S F G) a dflt (zv_tp lo offs.toList)) : good pc L (.inl a :: S) F G := by
  obtain ⟨p, l, e, R, s, m, args, below, meth, c, Q, OB, D, DA, sz, A, H0, Ts, cells, slots, ⟨hx, hb, hml, hD, hKS⟩, ⟨hsz, hXp, hX, -⟩, ⟨hwf, hinj, hge, hOB⟩, hg⟩ := hB
  refine (hg _ _ _ _ _).mpr fun H locs ls stk h1 h2 h3 h4 h5 => ?_
  obtain ⟨w, st, rfl, ⟨x, rfl, rfl⟩, h6⟩ := h5
  obtain ⟨t, t1, t2⟩ := zv_sw_ok k
  simp only [Bool.and_eq_true] at hp
  have p1 := z_ile_ok hp.1.1
  have p2 := z_ile_ok hp.1.2
  have p3 := z_ile_ok hp.2
  have kk := (hg _ _ _ _ _).mp t2 H locs ls _ h1 h2 h3 h4 h6
  by_cases ho : x.toInt < lo ∨ hi < x.toInt
  · rw [zv_tp_out (by omega)] at t1
    exact lv_tableOut hx hb hd ho (z_to_ok t1) kk
  · have hlt : (x.toInt - lo).toNat < offs.toList.length := by omega
    have hgo := List.getElem?_eq_getElem hlt
    rw [zv_tp_in hgo (by omega)] at t1
    exact lv_tableIn hx hb hd (by omega) (by omega) (off := offs.toList[(x.toInt - lo).toNat]) (by rw [← Array.getElem?_toList]; exact hgo) (z_to_ok t1) kk
theorem zv_getf (hB : zv_B cl FT KXf TBL MT y mm K rm good) {i c j : Nat} {v : Int} (hd : decode mm.2.1 pc = .ok (.getfield i, 3)) (hi : zv_fi K y i c = some j) (hl : zv_l F j = some (.inl v)) (k : -2147483648 ≤ v → v ≤ 2147483647 → good (pc + 3) L (.inl v :: S) F G) : good pc L (.inr c :: S) F G := by
  obtain ⟨p, l, e, R, s, m, args, below, meth, c, Q, OB, D, DA, sz, A, H0, Ts, cells, slots, ⟨hx, hb, hml, hD, hKS⟩, ⟨hsz, hXp, hX, -⟩, ⟨hwf, hinj, hge, hOB⟩, hg⟩ := hB
  refine (hg _ _ _ _ _).mpr fun H locs ls stk h1 h2 h3 h4 h5 => ?_
  obtain ⟨w, st, rfl, hw, h6⟩ := h5
  have hw : w = .ref (A _) := zv_w_r hw (zv_fi_lt hwf hi)
  subst hw
  obtain ⟨ci, kf, f1, f2⟩ := zv_fi_ok hi
  obtain ⟨r, wx, fx, r1, r2, r3, r4, r5⟩ := h1.2.1 _ f2
  rw [hl] at r4
  cases r4
  obtain ⟨x, rfl, rfl⟩ := r5 trivial
  exact z_getrow hx hb hKS.1 hD f1 r3 hd ((hg _ _ _ _ _).mp (k (z_lo x) (z_hi x)) H locs ls _ h1 h2 h3 h4 ⟨_, _, rfl, ⟨x, rfl, rfl⟩, h6⟩)
theorem zv_getq (hB : zv_B cl FT KXf TBL MT y mm K rm good) {i c j v : Nat} (hd : decode mm.2.1 pc = .ok (.getfield i, 3)) (hi : zv_fi K y i c = some j) (hl : zv_l F j = some (.inr v)) (hv : Nat.blt v 1000 = true) (k : good (pc + 3) L (.inr v :: S) F G) : good pc L (.inr c :: S) F G := by
  obtain ⟨p, l, e, R, s, m, args, below, meth, c, Q, OB, D, DA, sz, A, H0, Ts, cells, slots, ⟨hx, hb, hml, hD, hKS⟩, ⟨hsz, hXp, hX, -⟩, ⟨hwf, hinj, hge, hOB⟩, hg⟩ := hB
  refine (hg _ _ _ _ _).mpr fun H locs ls stk h1 h2 h3 h4 h5 => ?_
  obtain ⟨w, st, rfl, hw, h6⟩ := h5
  have hw : w = .ref (A _) := zv_w_r hw (zv_fi_lt hwf hi)
  subst hw
  obtain ⟨ci, kf, f1, f2⟩ := zv_fi_ok hi
  obtain ⟨r, wx, fx, r1, r2, r3, r4, r5⟩ := h1.2.1 _ f2
  rw [hl] at r4
  cases r4
  have hv5 : v < 5000 := by have := z_blt hv; omega
  have hwx : wx = .ref (A v) := zv_w_r (r5 (z_blt hv)) hv5
  subst hwx
  exact z_getrow hx hb hKS.1 hD f1 r3 hd ((hg _ _ _ _ _).mp k H locs ls _ h1 h2 h3 h4 ⟨_, _, rfl, zv_w_mk hv5, h6⟩)
theorem zv_getr (hB : zv_B cl FT KXf TBL MT y mm K rm good) {i c j : Nat} (hd : decode mm.2.1 pc = .ok (.getfield i, 3)) (hi : zv_fr K y i c = some j) (k : good (pc + 3) L (.inr j :: S) F G) : good pc L (.inr c :: S) F G := by
  obtain ⟨p, l, e, R, s, m, args, below, meth, c, Q, OB, D, DA, sz, A, H0, Ts, cells, slots, ⟨hx, hb, hml, hD, hKS⟩, ⟨hsz, hXp, hX, -⟩, ⟨hwf, hinj, hge, hOB⟩, hg⟩ := hB
  refine (hg _ _ _ _ _).mpr fun H locs ls stk h1 h2 h3 h4 h5 => ?_
  obtain ⟨w, st, rfl, hw, h6⟩ := h5
  have hw : w = .ref (A _) := zv_w_r hw ((zv_fr_lt hwf hi).1)
  subst hw
  obtain ⟨ci, kf, f1, f2⟩ := zv_fr_ok hi
  obtain ⟨r, r1, r2, r3⟩ := h1.2.2.1 _ f2
  exact z_getrow hx hb hKS.1 hD f1 r3 hd ((hg _ _ _ _ _).mp k H locs ls _ h1 h2 h3 h4 ⟨_, _, rfl, zv_w_mk (zv_fr_lt hwf hi).2, h6⟩)
theorem zv_S_set {A : Nat → Nat} {sz : Nat} {H0 H H1 : Heap} {locs : List Loc} {a k : Nat} (h : va_S (fun q => sz ≤ q) H0 H locs) (ha : sz ≤ a) (e2 : H1.size = H.size) (e3 : ∀ b : Nat, b ≠ a → H1[b]? = H[b]?) : va_S (fun q => sz ≤ q) H0 H1 (locs ++ [⟨a, k⟩]) := by
  refine ⟨by rw [e2]; exact h.1, fun q h1 h2 => ?_, fun q hq => ?_⟩
  · rw [e3 q (fun e => h2 (by rw [e]; exact ha))]; exact h.2.1 q h1 h2
  · rcases List.mem_append.mp hq with hq | hq
    · exact h.2.2 q hq
    · rw [List.mem_singleton.mp hq]; exact ha
theorem zv_putf (hB : zv_B cl FT KXf TBL MT y mm K rm good) {i c j : Nat} {v : Int} {u : zNV} {bl : Bool} (hd : decode mm.2.1 pc = .ok (.putfield i, 3)) (hi : zv_fi K y i c = some j) (hp : zv_pk cl FT K i = some bl) (hv : bl = true → 0 ≤ v ∧ v ≤ 1) (hl : zv_l F j = some u) (k : good (pc + 3) L S (zv_s F j (.inl v)) G) : good pc L (.inl v :: .inr c :: S) F G := by
  obtain ⟨p, l, e, R, s, m, args, below, meth, cc, Q, OB, D, DA, sz, A, H0, Ts, cells, slots, ⟨hx, hb, hml, hD, hKS⟩, ⟨hsz, hXp, hX, -⟩, ⟨hwf, hinj, hge, hOB⟩, hg⟩ := hB
  refine (hg _ _ _ _ _).mpr fun H locs ls stk h1 h2 h3 h4 h5 => ?_
  obtain ⟨w, st, rfl, ⟨x, rfl, rfl⟩, w2, st2, rfl, hw, h6⟩ := h5
  have hw : w2 = .ref (A _) := zv_w_r hw (zv_fi_lt hwf hi)
  subst hw
  unfold zv_pk at hp
  unfold zv_fi at hi
  cases hq : (k_FL K).find? (fun q => Nat.beq q.1 i) with
  | none => rw [hq] at hp; cases hp
  | some q =>
    rw [hq] at hp hi
    have hm := List.mem_of_find?_eq_some hq
    have hp0 := List.find?_some hq
    have hp0 : Nat.beq q.1 i = true := hp0
    obtain ⟨q1, ci, kf⟩ := q
    have e1 : q1 = i := z_beq hp0
    subst e1
    have hi : ((n_I y).find? (fun u => Nat.beq u.1 c && Nat.beq u.2.1 ci && Nat.beq u.2.2.1 kf)).map (fun u => u.2.2.2) = some j := hi
    cases hu : (n_I y).find? (fun u => Nat.beq u.1 c && Nat.beq u.2.1 ci && Nat.beq u.2.2.1 kf) with
    | none => rw [hu] at hi; cases hi
    | some z =>
      rw [hu] at hi
      cases hi
      have um := List.mem_of_find?_eq_some hu
      have up := List.find?_some hu
      simp only [Bool.and_eq_true] at up
      obtain ⟨z1, z2, z3, z4⟩ := z
      have e2 : z1 = c := z_beq up.1.1
      have e3 : z2 = ci := z_beq up.1.2
      have e4 : z3 = kf := z_beq up.2
      subst e2; subst e3; subst e4
      have hp : (match cl[z2]? with
        | some r => cond (r.2.1 z3).2.2.2 none (match FT z2 z3 with
          | .int => some false
          | .boolean => some true
          | _ => none)
        | none => none) = some bl := hp
      obtain ⟨hlt, o, ho, ho1, ho2⟩ := zv_wfIn hwf um
      obtain ⟨r, V, r1, r2⟩ := h1.1 o ho
      rw [ho1, ho2] at r2
      rw [ho2] at r1
      rw [r1] at hp
      have hp : cond (r.2.1 z3).2.2.2 none (match FT z2 z3 with
          | .int => some false
          | .boolean => some true
          | _ => none) = some bl := hp
      cases hf : (r.2.1 z3).2.2.2 with
      | true => rw [hf] at hp; cases hp
      | false =>
        rw [hf] at hp
        have hp : (match FT z2 z3 with
          | .int => some false
          | .boolean => some true
          | _ => none) = some bl := hp
        have hn : narrow (FT z2 z3) (.int x) = .int x ∧ fits (FT z2 z3) (.int x) = true := by
          split at hp
          · rename_i hty; rw [hty]; exact ⟨rfl, rfl⟩
          · rename_i hty
            cases hp
            obtain ⟨b1, b2⟩ := hv rfl
            rw [hty]
            have hx : x.toInt = 0 ∨ x.toInt = 1 := by omega
            rcases hx with hx | hx
            · have : x = 0 := z_int0 hx
              subst this
              exact ⟨rfl, rfl⟩
            · have : x = 1 := Int32.toInt_inj.mp (by rw [hx]; rfl)
              subst this
              exact ⟨rfl, rfl⟩
          · cases hp
        refine z_putrow hx hb hKS.1 hD hm r1 r2 (Or.inl hf) hn hd fun H1 cell g1 g2 g3 g4 g5 => ?_
        have g1 : H[A z1]? = some cell := g1
        have g2 : H1[A z1]? = some (cell.setSlot (D.2 z2 z3) (.int x)) := g2
        have hap := z_apart hKS.1 hD r1
        have hne : ∀ b, b < n_N y → b ≠ z1 → A b ≠ A z1 := fun b hb1 hb2 hb3 => hb2 (hinj _ _ hb1 hlt hb3)
        have hz3 : z3 < r.2.2 := by
          obtain ⟨r', x', f', x1, x2, x3⟩ := h1.2.1 _ um
          rw [r1] at x1; cases x1; exact x2
        have slk : ∀ (k2 : Nat) (w : Value), k2 < r.2.2 → k2 ≠ z3 → z_sl H (A z1) (D.2 z2 k2) w → z_sl H1 (A z1) (D.2 z2 k2) w := by
          intro k2 w hk2 hk3 ⟨cell2, y1, y2, y3⟩
          rw [g1] at y1
          cases y1
          exact ⟨_, g2, y2, by rw [slot_ne _ _ (fun h7 => hap k2 z3 hk2 hz3 hk3 h7.symm)]; exact y3⟩
        refine (hg _ _ _ _ _).mp k H1 _ ls st2 ⟨fun q hq => ?_, fun q hq => ?_, fun q hq => ?_, fun q hq => ?_⟩ (zv_frm_tr h2 ⟨g3, fun b hb1 => g4 b (fun e => hb1 z1 hlt e.symm), fun q hq r' k2 w hr hk2 hk3 hk4 => ?_⟩) (zv_S_set (A := A) h3 (hge _ hlt) g3 g4) h4 h6
        · obtain ⟨w1, w2, w3⟩ := zv_wfO hwf hq
          by_cases e : q.1 = z1
          · have : q.2 = z2 := w3 _ um e
            rw [e, this]
            exact ⟨r, _, r1, g5⟩
          · obtain ⟨r', V', x1, x2⟩ := h1.1 q hq
            exact ⟨r', V', x1, x2.kept (g4 _ (hne _ w1 e))⟩
        · obtain ⟨r', x', f', x1, x2, x3, x4, x5⟩ := h1.2.1 q hq
          obtain ⟨w1, w2⟩ := zv_wfI hwf hq um
          by_cases e : q.1 = z1
          · have e2 : q.2.1 = z2 := w2 e
            by_cases e3 : q.2.2.1 = z3
            · have e4 : q.2.2.2 = z4 := w1.mpr ⟨e, e3⟩
              refine ⟨r', .int x, .inl x.toInt, x1, x2, ?_, ?_, fun _ => ⟨x, rfl, rfl⟩⟩
              · rw [e, e2, e3]
                obtain ⟨cell2, y1, y2, y3⟩ := g5
                refine ⟨cell2, y1, y3.1, ?_⟩
                rw [y3.2 _ hz3]
                simp [updV]
              · rw [e4]; exact zv_ls_eq hl
            · refine ⟨r', x', f', x1, x2, ?_, ?_, x5⟩
              · rw [e2] at x1
                rw [r1] at x1
                cases x1
                rw [e, e2] at x3 ⊢
                exact slk _ _ x2 e3 x3
              · rw [zv_ls_ne (fun h7 => e3 (w1.mp h7.symm).2)]; exact x4
          · refine ⟨r', x', f', x1, x2, z_sl_kept x3 (g4 _ (hne _ (zv_wfIn hwf hq).1 e)), ?_, x5⟩
            rw [zv_ls_ne (fun h7 => e (w1.mp h7.symm).1)]; exact x4
        · obtain ⟨r', x1, x2, x3⟩ := h1.2.2.1 q hq
          obtain ⟨w1, w2⟩ := zv_wfIR hwf um hq
          refine ⟨r', x1, x2, ?_⟩
          by_cases e : q.1 = z1
          · have e2 : q.2.1 = z2 := (w2 e.symm).symm
            rw [e2] at x1
            rw [r1] at x1
            cases x1
            rw [e, e2] at x3 ⊢
            exact slk _ _ x2 (fun h7 => w1 ⟨e.symm, h7.symm⟩) x3
          · exact z_sl_kept x3 (g4 _ (hne _ (zv_wfR hwf hq).1 e))
        · obtain ⟨f, g, x1, x2, x3⟩ := h1.2.2.2 q hq
          obtain ⟨w1, w2, w3, w4⟩ := zv_wfA hwf hq
          exact ⟨f, g, by rw [g4 _ (hne _ w1 (w3 _ um))]; exact x1, x2, x3⟩
        · by_cases e : q.1 = z1
          · have e2 : q.2 = z2 := (zv_wfO hwf hq).2.2 _ um e
            rw [e2] at hr
            rw [r1] at hr
            cases hr
            rw [e, e2] at hk4 ⊢
            exact slk _ _ hk2 (fun h7 => hk3 _ um e.symm h7.symm) hk4
          · exact z_sl_kept hk4 (g4 _ (hne _ (zv_wfO hwf hq).1 e))
theorem zv_putq (hB : zv_B cl FT KXf TBL MT y mm K rm good) {i c j v : Nat} {u : zNV} (hd : decode mm.2.1 pc = .ok (.putfield i, 3)) (hi : zv_fi K y i c = some j) (hp : zv_pq cl FT K i = some true) (hv : v < 1000) (hl : zv_l F j = some u) (k : good (pc + 3) L S (zv_s F j (.inr v)) G) : good pc L (.inr v :: .inr c :: S) F G := by
  obtain ⟨p, l, e, R, s, m, args, below, meth, cc, Q, OB, D, DA, sz, A, H0, Ts, cells, slots, ⟨hx, hb, hml, hD, hKS⟩, ⟨hsz, hXp, hX, -⟩, ⟨hwf, hinj, hge, hOB⟩, hg⟩ := hB
  refine (hg _ _ _ _ _).mpr fun H locs ls stk h1 h2 h3 h4 h5 => ?_
  obtain ⟨w, st, rfl, hw0, w2, st2, rfl, hw, h6⟩ := h5
  have hw : w2 = .ref (A _) := zv_w_r hw (zv_fi_lt hwf hi)
  have hw0 : w = .ref (A v) := zv_w_r hw0 (by omega)
  subst hw
  subst hw0
  unfold zv_pq at hp
  unfold zv_fi at hi
  cases hq : (k_FL K).find? (fun q => Nat.beq q.1 i) with
  | none => rw [hq] at hp; cases hp
  | some q =>
    rw [hq] at hp hi
    have hm := List.mem_of_find?_eq_some hq
    have hp0 := List.find?_some hq
    have hp0 : Nat.beq q.1 i = true := hp0
    obtain ⟨q1, ci, kf⟩ := q
    have e1 : q1 = i := z_beq hp0
    subst e1
    have hi : ((n_I y).find? (fun u => Nat.beq u.1 c && Nat.beq u.2.1 ci && Nat.beq u.2.2.1 kf)).map (fun u => u.2.2.2) = some j := hi
    cases hu : (n_I y).find? (fun u => Nat.beq u.1 c && Nat.beq u.2.1 ci && Nat.beq u.2.2.1 kf) with
    | none => rw [hu] at hi; cases hi
    | some z =>
      rw [hu] at hi
      cases hi
      have um := List.mem_of_find?_eq_some hu
      have up := List.find?_some hu
      simp only [Bool.and_eq_true] at up
      obtain ⟨z1, z2, z3, z4⟩ := z
      have e2 : z1 = c := z_beq up.1.1
      have e3 : z2 = ci := z_beq up.1.2
      have e4 : z3 = kf := z_beq up.2
      subst e2; subst e3; subst e4
      have hp : (match cl[z2]? with
        | some r => cond (r.2.1 z3).2.2.2 none (match FT z2 z3 with
          | .object _ => some true
          | .array _ => some true
          | _ => none)
        | none => none) = some true := hp
      obtain ⟨hlt, o, ho, ho1, ho2⟩ := zv_wfIn hwf um
      obtain ⟨r, V, r1, r2⟩ := h1.1 o ho
      rw [ho1, ho2] at r2
      rw [ho2] at r1
      rw [r1] at hp
      have hp : cond (r.2.1 z3).2.2.2 none (match FT z2 z3 with
          | .object _ => some true
          | .array _ => some true
          | _ => none) = some true := hp
      cases hf : (r.2.1 z3).2.2.2 with
      | true => rw [hf] at hp; cases hp
      | false =>
        rw [hf] at hp
        have hp : (match FT z2 z3 with
          | .object _ => some true
          | .array _ => some true
          | _ => none) = some true := hp
        have hn : narrow (FT z2 z3) (.ref (A v)) = .ref (A v) ∧ fits (FT z2 z3) (.ref (A v)) = true := by
          split at hp
          · rename_i hty; rw [hty]; exact ⟨rfl, rfl⟩
          · rename_i hty; rw [hty]; exact ⟨rfl, rfl⟩
          · cases hp
        refine z_putrow hx hb hKS.1 hD hm r1 r2 (Or.inl hf) hn hd fun H1 cell g1 g2 g3 g4 g5 => ?_
        have g1 : H[A z1]? = some cell := g1
        have g2 : H1[A z1]? = some (cell.setSlot (D.2 z2 z3) (.ref (A v))) := g2
        have hap := z_apart hKS.1 hD r1
        have hne : ∀ b, b < n_N y → b ≠ z1 → A b ≠ A z1 := fun b hb1 hb2 hb3 => hb2 (hinj _ _ hb1 hlt hb3)
        have hz3 : z3 < r.2.2 := by
          obtain ⟨r', x', f', x1, x2, x3⟩ := h1.2.1 _ um
          rw [r1] at x1; cases x1; exact x2
        have slk : ∀ (k2 : Nat) (w : Value), k2 < r.2.2 → k2 ≠ z3 → z_sl H (A z1) (D.2 z2 k2) w → z_sl H1 (A z1) (D.2 z2 k2) w := by
          intro k2 w hk2 hk3 ⟨cell2, y1, y2, y3⟩
          rw [g1] at y1
          cases y1
          exact ⟨_, g2, y2, by rw [slot_ne _ _ (fun h7 => hap k2 z3 hk2 hz3 hk3 h7.symm)]; exact y3⟩
        refine (hg _ _ _ _ _).mp k H1 _ ls st2 ⟨fun q hq => ?_, fun q hq => ?_, fun q hq => ?_, fun q hq => ?_⟩ (zv_frm_tr h2 ⟨g3, fun b hb1 => g4 b (fun e => hb1 z1 hlt e.symm), fun q hq r' k2 w hr hk2 hk3 hk4 => ?_⟩) (zv_S_set (A := A) h3 (hge _ hlt) g3 g4) h4 h6
        · obtain ⟨w1, w2, w3⟩ := zv_wfO hwf hq
          by_cases e : q.1 = z1
          · have : q.2 = z2 := w3 _ um e
            rw [e, this]
            exact ⟨r, _, r1, g5⟩
          · obtain ⟨r', V', x1, x2⟩ := h1.1 q hq
            exact ⟨r', V', x1, x2.kept (g4 _ (hne _ w1 e))⟩
        · obtain ⟨r', x', f', x1, x2, x3, x4, x5⟩ := h1.2.1 q hq
          obtain ⟨w1, w2⟩ := zv_wfI hwf hq um
          by_cases e : q.1 = z1
          · have e2 : q.2.1 = z2 := w2 e
            by_cases e3 : q.2.2.1 = z3
            · have e4 : q.2.2.2 = z4 := w1.mpr ⟨e, e3⟩
              refine ⟨r', .ref (A v), .inr v, x1, x2, ?_, ?_, fun _ => zv_w_mk (by omega)⟩
              · rw [e, e2, e3]
                obtain ⟨cell2, y1, y2, y3⟩ := g5
                refine ⟨cell2, y1, y3.1, ?_⟩
                rw [y3.2 _ hz3]
                simp [updV]
              · rw [e4]; exact zv_ls_eq hl
            · refine ⟨r', x', f', x1, x2, ?_, ?_, x5⟩
              · rw [e2] at x1
                rw [r1] at x1
                cases x1
                rw [e, e2] at x3 ⊢
                exact slk _ _ x2 e3 x3
              · rw [zv_ls_ne (fun h7 => e3 (w1.mp h7.symm).2)]; exact x4
          · refine ⟨r', x', f', x1, x2, z_sl_kept x3 (g4 _ (hne _ (zv_wfIn hwf hq).1 e)), ?_, x5⟩
            rw [zv_ls_ne (fun h7 => e (w1.mp h7.symm).1)]; exact x4
        · obtain ⟨r', x1, x2, x3⟩ := h1.2.2.1 q hq
          obtain ⟨w1, w2⟩ := zv_wfIR hwf um hq
          refine ⟨r', x1, x2, ?_⟩
          by_cases e : q.1 = z1
          · have e2 : q.2.1 = z2 := (w2 e.symm).symm
            rw [e2] at x1
            rw [r1] at x1
            cases x1
            rw [e, e2] at x3 ⊢
            exact slk _ _ x2 (fun h7 => w1 ⟨e.symm, h7.symm⟩) x3
          · exact z_sl_kept x3 (g4 _ (hne _ (zv_wfR hwf hq).1 e))
        · obtain ⟨f, g, x1, x2, x3⟩ := h1.2.2.2 q hq
          obtain ⟨w1, w2, w3, w4⟩ := zv_wfA hwf hq
          exact ⟨f, g, by rw [g4 _ (hne _ w1 (w3 _ um))]; exact x1, x2, x3⟩
        · by_cases e : q.1 = z1
          · have e2 : q.2 = z2 := (zv_wfO hwf hq).2.2 _ um e
            rw [e2] at hr
            rw [r1] at hr
            cases hr
            rw [e, e2] at hk4 ⊢
            exact slk _ _ hk2 (fun h7 => hk3 _ um e.symm h7.symm) hk4
          · exact z_sl_kept hk4 (g4 _ (hne _ (zv_wfO hwf hq).1 e))
end ZVHEAP
end
section
/-! Rules over named cells: arrays, calls, a method's contract. -/
section ZVARR
variable {cl : List vw_C} {FT : Nat → Nat → FieldType} {KXf : (Nat → Nat) → Nat → State → Heap → Prop} {TBL : List Cond} {MT : List zM} {y : zNL} {mm : zM} {K : zK} {rm : Nat × Nat} {good : Nat → List zNV → List zNV → List zNV → List (Int → Int) → Prop}
variable {pc : Nat} {L S : List zNV} {F : List zNV} {G : List (Int → Int)}
theorem zv_ix {x : Int32} {n : Nat} (h1 : 0 ≤ x.toInt) (h2 : x.toInt < n) : ¬ (x < 0 ∨ n ≤ x.toNatClampNeg) ∧ x.toInt.toNat < n := by
  refine ⟨fun h => ?_, by omega⟩
  rcases h with h | h
  · have := Int32.lt_iff_toInt_lt.mp h
    have z0 : (0 : Int32).toInt = 0 := rfl
    omega
  · rw [z_clamp] at h; omega
theorem zv_iald (hB : zv_B cl FT KXf TBL MT y mm K rm good) {c n j : Nat} {a : Int} {g : Int → Int} (hd : decode mm.2.1 pc = .ok (.iaload, 1)) (ha : zv_ar y c = some (0, n, j)) (hl : zv_l G j = some g) (ha1 : 0 ≤ a) (ha2 : a < n) (k : -2147483648 ≤ g a → g a ≤ 2147483647 → good (pc + 1) L (.inl (g a) :: S) F G) : good pc L (.inl a :: .inr c :: S) F G := by
  obtain ⟨p, l, e, R, s, m, args, below, meth, cc, Q, OB, D, DA, sz, A, H0, Ts, cells, slots, ⟨hx, hb, hml, hD, hKS⟩, ⟨hsz, hXp, hX, -⟩, ⟨hwf, hinj, hge, hOB⟩, hg⟩ := hB
  refine (hg _ _ _ _ _).mpr fun H locs ls stk h1 h2 h3 h4 h5 => ?_
  obtain ⟨w, st, rfl, ⟨x, rfl, rfl⟩, w2, st2, rfl, hw, h6⟩ := h5
  have hw : w2 = .ref (A _) := zv_w_r hw (zv_ar_lt hwf ha)
  subst hw
  obtain ⟨f, g2, x1, x2, x3⟩ := h1.2.2.2 _ (zv_ar_ok ha)
  rw [hl] at x2
  cases x2
  obtain ⟨b1, b2⟩ := zv_ix ha1 ha2
  obtain ⟨v, v1, v2⟩ := x3 x.toInt.toNat b2
  have ev : ((x.toInt.toNat : Nat) : Int) = x.toInt := Int.toNat_of_nonneg ha1
  rw [ev] at v2
  refine W.iald hx hb x1 (z_isarr hD (k := 0) (by omega) n f) (fun q => by cases q) (by rw [arrV_size]; exact b1) (v := .int v) (by rw [z_clamp, arrV_read _ _ b2, v1]) rfl rfl hd ?_
  rw [← v2] at k
  exact (hg _ _ _ _ _).mp (k (z_lo v) (z_hi v)) H locs ls _ h1 h2 h3 h4 ⟨_, _, rfl, ⟨v, rfl, rfl⟩, h6⟩
theorem zv_bald (hB : zv_B cl FT KXf TBL MT y mm K rm good) {c n j : Nat} {a : Int} {g : Int → Int} (hd : decode mm.2.1 pc = .ok (.baload, 1)) (ha : zv_ar y c = some (1, n, j)) (hl : zv_l G j = some g) (ha1 : 0 ≤ a) (ha2 : a < n) (k : -2147483648 ≤ g a → g a ≤ 2147483647 → good (pc + 1) L (.inl (g a) :: S) F G) : good pc L (.inl a :: .inr c :: S) F G := by
  obtain ⟨p, l, e, R, s, m, args, below, meth, cc, Q, OB, D, DA, sz, A, H0, Ts, cells, slots, ⟨hx, hb, hml, hD, hKS⟩, ⟨hsz, hXp, hX, -⟩, ⟨hwf, hinj, hge, hOB⟩, hg⟩ := hB
  refine (hg _ _ _ _ _).mpr fun H locs ls stk h1 h2 h3 h4 h5 => ?_
  obtain ⟨w, st, rfl, ⟨x, rfl, rfl⟩, w2, st2, rfl, hw, h6⟩ := h5
  have hw : w2 = .ref (A _) := zv_w_r hw (zv_ar_lt hwf ha)
  subst hw
  obtain ⟨f, g2, x1, x2, x3⟩ := h1.2.2.2 _ (zv_ar_ok ha)
  rw [hl] at x2
  cases x2
  obtain ⟨b1, b2⟩ := zv_ix ha1 ha2
  obtain ⟨v, v1, v2⟩ := x3 x.toInt.toNat b2
  have ev : ((x.toInt.toNat : Nat) : Int) = x.toInt := Int.toNat_of_nonneg ha1
  rw [ev] at v2
  refine W.bald hx hb x1 (z_isarr hD (k := 1) (by omega) n f) (fun q => by cases q) (by rw [arrV_size]; exact b1) (v := .int v) (by rw [z_clamp, arrV_read _ _ b2, v1]) rfl rfl hd ?_
  rw [← v2] at k
  exact (hg _ _ _ _ _).mp (k (z_lo v) (z_hi v)) H locs ls _ h1 h2 h3 h4 ⟨_, _, rfl, ⟨v, rfl, rfl⟩, h6⟩
theorem zv_iast (hB : zv_B cl FT KXf TBL MT y mm K rm good) {c n j : Nat} {a v : Int} {g : Int → Int} (hd : decode mm.2.1 pc = .ok (.iastore, 1)) (ha : zv_ar y c = some (0, n, j)) (hl : zv_l G j = some g) (ha1 : 0 ≤ a) (ha2 : a < n) (k : good (pc + 1) L S F (zv_s G j (zv_up g a v))) : good pc L (.inl v :: .inl a :: .inr c :: S) F G := by
  obtain ⟨p, l, e, R, s, m, args, below, meth, cc, Q, OB, D, DA, sz, A, H0, Ts, cells, slots, ⟨hx, hb, hml, hD, hKS⟩, ⟨hsz, hXp, hX, -⟩, ⟨hwf, hinj, hge, hOB⟩, hg⟩ := hB
  refine (hg _ _ _ _ _).mpr fun H locs ls stk h1 h2 h3 h4 h5 => ?_
  obtain ⟨w0, st0, rfl, ⟨u, rfl, rfl⟩, w, st, rfl, ⟨x, rfl, rfl⟩, w2, st2, rfl, hw, h6⟩ := h5
  have hw : w2 = .ref (A _) := zv_w_r hw (zv_ar_lt hwf ha)
  subst hw
  have hm := zv_ar_ok ha
  obtain ⟨f, g2, x1, x2, x3⟩ := h1.2.2.2 _ hm
  rw [hl] at x2
  cases x2
  obtain ⟨b1, b2⟩ := zv_ix ha1 ha2
  obtain ⟨a1, a2, a3, a4⟩ := zv_wfA hwf hm
  have a1 : c < n_N y := a1
  refine W.iast hx hb x1 (z_isarr hD (k := 0) (by omega) n f) (fun q => by cases q) (by rw [arrV_size]; exact b1) rfl rfl hd fun H1 e1 e2 e3 => ?_
  have e1' : H1[A c]? = some (arrV (DA 0) n (updV f x.toNatClampNeg (.int u))) := by rw [e1, arrV_store]
  have hne : ∀ b, b < n_N y → b ≠ c → A b ≠ A c := fun b hb1 hb2 hb3 => hb2 (hinj _ _ hb1 a1 hb3)
  refine (hg _ _ _ _ _).mp k H1 _ ls st2 ⟨fun q hq => ?_, fun q hq => ?_, fun q hq => ?_, fun q hq => ?_⟩ (zv_frm_tr h2 ⟨e2, fun b hb1 => e3 b (fun e => hb1 c a1 e.symm), fun q hq r' k2 w hr hk2 hk3 hk4 => ?_⟩) (zv_S_set (A := A) h3 (hge _ a1) e2 e3) h4 h6
  · obtain ⟨w1, w2, w3⟩ := zv_wfO hwf hq
    obtain ⟨r', V', y1, y2⟩ := h1.1 q hq
    exact ⟨r', V', y1, y2.kept (e3 _ (hne _ w1 (w2 _ hm)))⟩
  · obtain ⟨r', x', f', y1, y2, y3, y4⟩ := h1.2.1 q hq
    exact ⟨r', x', f', y1, y2, z_sl_kept y3 (e3 _ (hne _ (zv_wfIn hwf hq).1 (fun e => a3 _ hq e.symm))), y4⟩
  · obtain ⟨r', y1, y2, y3⟩ := h1.2.2.1 q hq
    exact ⟨r', y1, y2, z_sl_kept y3 (e3 _ (hne _ (zv_wfR hwf hq).1 (fun e => a4 _ hq e.symm)))⟩
  · obtain ⟨f2, g2, y1, y2, y3⟩ := h1.2.2.2 q hq
    obtain ⟨w1, w2, w3, w4⟩ := zv_wfA hwf hq
    by_cases e : q.1 = c
    · obtain ⟨v1, v2⟩ := a2 q hq
      obtain ⟨v3, v4⟩ := v2 e.symm
      have v5 : j = q.2.2.2 := v1.mpr e.symm
      have v3 : 0 = q.2.1 := v3
      have v4 : n = q.2.2.1 := v4
      refine ⟨_, _, by rw [e, ← v3, ← v4]; exact e1', by rw [← v5]; exact zv_ls_eq hl, fun i hi => ?_⟩
      rw [← v4] at hi
      rw [← v3]
      obtain ⟨z, z1, z2⟩ := x3 i hi
      by_cases ei : i = x.toInt.toNat
      · refine ⟨u, ?_, ?_⟩
        · rw [z_clamp, ei]; simp [updV]
        · rw [ei, Int.toNat_of_nonneg ha1, zv_up_s]
      · refine ⟨z, ?_, ?_⟩
        · have hne2 : ¬ i = x.toNatClampNeg := ei
          simp [updV, hne2, z1]
        · rw [zv_up_n (by omega)]; exact z2
    · refine ⟨f2, g2, by rw [e3 _ (hne _ w1 e)]; exact y1, ?_, y3⟩
      rw [zv_ls_ne (fun h7 => e ((w2 _ hm).1.mp h7.symm))]
      exact y2
  · exact z_sl_kept hk4 (e3 _ (hne _ (zv_wfO hwf hq).1 ((zv_wfO hwf hq).2.1 _ hm)))
end ZVARR
/-! Contracts over named cells. -/
def zv_rv (r : Option Int) (v : Option Value) : Prop := match r, v with
  | none, none => True
  | some x, some w => ∃ z : Int32, w = .int z ∧ z.toInt = x
  | _, _ => False
def zv_ro (r : Option Int) (S : List zNV) : List zNV := match r with
  | none => S
  | some x => .inl x :: S
abbrev zNP : Type := List zNV → List zNV → List (Int → Int) → Prop
abbrev zNQ : Type := List zNV → List zNV → List (Int → Int) → Option Int → List zNV → List (Int → Int) → Prop
def zv_Pre (D : va_G) (DA : Nat → ClassId) (cl : List vw_C) (y : zNL) (sz : Nat) (KX : State → Heap → Prop) (A : Nat → Nat) (va : List zNV) (F : List zNV) (G : List (Int → Int)) (args : Array Value) (U : State) : Prop :=
  ∃ vals : List Value, args = vals.toArray ∧ zv_st A va vals ∧ zv_rep D DA cl y A F G U.heap ∧ sz ≤ U.heap.size ∧ va_K D cl (z_tys DA) U ∧ KX U U.heap
def zv_Post (D : va_G) (DA : Nat → ClassId) (cl : List vw_C) (y : zNL) (A : Nat → Nat) (va : List zNV) (F : List zNV) (G : List (Int → Int)) (Qs : zNQ) (_args : Array Value) (st : State) (o : Outcome) (t : State) : Prop :=
  ∃ r v F' G', o = .returned v ∧ zv_rv r v ∧ zv_rep D DA cl y A F' G' t.heap ∧ zv_frm D cl y A st.heap t.heap ∧ Qs va F G r F' G'
def zv_OK (TBL : List Cond) (cl : List vw_C) (KXf : (Nat → Nat) → Nat → State → Heap → Prop) (y : zNL) (mm : zM) (rm : Nat × Nat) (P : zNP) (Qs : zNQ) : Prop :=
  ∀ (l : Launch) (OB : Nat → Nat) (D : va_G) (DA : Nat → ClassId) (sz : Nat) (A : Nat → Nat) (va : List zNV) (F : List zNV) (G : List (Int → Int)), P va F G → (∀ a b, a < n_N y → b < n_N y → A a = A b → a = b) → (∀ a, a < n_N y → sz ≤ A a) → (∀ k, A (900 + k) = OB k) →
    Met l mm.1 (Cond.code mm.1 mm.2.1 mm.2.2.1 mm.2.2.2.1 :: TBL) { frames := rm.1, cells := 0, slots := 0, locals := rm.2 } (zv_Pre D DA cl y sz (KXf OB sz) A va F G) (zv_Post D DA cl y A va F G Qs) 0 0 (fun q => sz ≤ q)
theorem zv_l_get {α : Type} : ∀ {L : List α} {i : Nat}, zv_l L i = L[i]?
  | [], _ => rfl
  | _ :: _, 0 => rfl
  | _ :: L, i + 1 => by
    show zv_l L i = _
    rw [zv_l_get]; rfl
theorem zv_st_len {A : Nat → Nat} : ∀ {va : List zNV} {vals : List Value}, zv_st A va vals → vals.length = va.length
  | [], k, h => by
    have h : k = [] := h
    rw [h]; rfl
  | v :: S, k, ⟨w, k', e, _, h⟩ => by rw [e]; simp [zv_st_len h]
theorem zv_st_get {A : Nat → Nat} : ∀ {va : List zNV} {vals : List Value}, zv_st A va vals → ∀ {i : Nat} {v : zNV}, va[i]? = some v → ∃ w, vals[i]? = some w ∧ zv_v A v w
  | [], _, _, _, _, h2 => by simp at h2
  | v :: S, k, ⟨w, k', e, hv, h⟩, 0, u, h2 => by
    have : v = u := by simpa using h2
    subst this; subst e
    exact ⟨w, rfl, hv⟩
  | v :: S, k, ⟨w, k', e, hv, h⟩, i + 1, u, h2 => by
    subst e
    obtain ⟨x, x1, x2⟩ := zv_st_get h (i := i) (by simpa using h2)
    exact ⟨x, by simpa using x1, x2⟩
theorem zv_st_cat {A : Nat → Nat} : ∀ {va : List zNV} {vals : List Value}, va.all zv_n1 = true → zv_st A va vals → ∀ v ∈ vals, v.category = 1
  | [], k, _, h, v, hv => by
    have h : k = [] := h
    rw [h] at hv; exact absurd hv List.not_mem_nil
  | x :: S, k, hn, ⟨w, k', e, hx, h⟩, v, hv => by
    subst e
    rw [List.all_cons, Bool.and_eq_true] at hn
    rcases List.mem_cons.mp hv with rfl | hv
    · exact zv_v1 hn.1 hx
    · exact zv_st_cat hn.2 h v hv
theorem zv_st_app {A : Nat → Nat} : ∀ {va vb : List zNV} {k : List Value}, zv_st A (va ++ vb) k → ∃ x z, k = x ++ z ∧ zv_st A va x ∧ zv_st A vb z
  | [], vb, k, h => ⟨[], k, rfl, rfl, h⟩
  | v :: va, vb, k, ⟨w, k', e, hv, h⟩ => by
    obtain ⟨x, z, e2, h1, h2⟩ := zv_st_app (va := va) (vb := vb) h
    exact ⟨w :: x, z, by rw [e, e2]; rfl, ⟨w, x, rfl, hv, h1⟩, h2⟩
theorem zv_st_mk {A : Nat → Nat} : ∀ {va vb : List zNV} {x z : List Value}, zv_st A va x → zv_st A vb z → zv_st A (va ++ vb) (x ++ z)
  | [], vb, x, z, h, h2 => by
    have h : x = [] := h
    rw [h]; exact h2
  | v :: va, vb, x, z, ⟨w, k', e, hv, h⟩, h2 => by
    subst e
    exact ⟨w, k' ++ z, rfl, hv, zv_st_mk h h2⟩
theorem zv_st_rev {A : Nat → Nat} : ∀ {va : List zNV} {x : List Value}, zv_st A va x → zv_st A va.reverse x.reverse
  | [], x, h => by
    have h : x = [] := h
    rw [h]; rfl
  | v :: va, x, ⟨w, k', e, hv, h⟩ => by
    subst e
    rw [List.reverse_cons, List.reverse_cons]
    exact zv_st_mk (zv_st_rev h) ⟨w, [], rfl, hv, rfl⟩
theorem zv_sum1 : ∀ {k : List Value}, (∀ v ∈ k, v.category = 1) → (k.map fun v => v.category).sum = k.length
  | [], _ => rfl
  | v :: k, h => by
    rw [List.map_cons, List.sum_cons, h v List.mem_cons_self, zv_sum1 (fun x hx => h x (List.mem_cons_of_mem _ hx))]
    simp [Nat.add_comm]
theorem zv_blind {D : va_G} {DA : Nat → ClassId} {cl : List vw_C} {y : zNL} {sz : Nat} {A : Nat → Nat} {va : List zNV} {F : List zNV} {G : List (Int → Int)} {KX : State → Heap → Prop} (hXp : z_KXp sz KX) : FrameBlind (zv_Pre D DA cl y sz KX A va F G) := by
  intro a U gf mk h
  obtain ⟨vals, h1, h2, h3, h4, h5, h6⟩ := h
  exact ⟨vals, h1, h2, h3, h4, va_K.moved (u := U) (U := U.calling gf mk a) (Vm.Alike.refl U.vm) h5, hXp.2.2 U (U.calling gf mk a) _ rfl h6⟩
end
section
/-! Calls over named cells; a method's contract. -/
/-- the method that is called -/
def zv_lk (K : zK) (MT : List zM) (kinds : Nat → Bool) (i : Nat) : Option zM := match (k_LK K).find? (fun q => Nat.beq q.1 i && kinds q.2.1) with
  | some q => MT[q.2.2]?
  | none => none
section ZVCALL
variable {cl : List vw_C} {FT : Nat → Nat → FieldType} {KXf : (Nat → Nat) → Nat → State → Heap → Prop} {TBL : List Cond} {MT : List zM} {y : zNL} {mm : zM} {K : zK} {rm : Nat × Nat} {good : Nat → List zNV → List zNV → List zNV → List (Int → Int) → Prop}
variable {pc : Nat} {L S : List zNV} {F : List zNV} {G : List (Int → Int)}
theorem zv_lk_ok {kinds : Nat → Bool} {i : Nat} {mm2 : zM} {Ts : List Cond} {own : String} (hKS : z_KS Ts TBL cl FT own MT K) (h : zv_lk K MT kinds i = some mm2) (hk : ∀ k, kinds k = true → k ≤ 4) :
    ∃ k, kinds k = true ∧ z_lk Ts own k i mm2.1 mm2.2.1 mm2.2.2.1 mm2.2.2.2.1 mm2.2.2.2.2.1 ∧ (k = 0 → ∃ r, cl[mm2.2.2.2.2.2]? = some r ∧ r.1 = mm2.1.cls) := by
  unfold zv_lk at h
  split at h
  · rename_i q hq
    have hm := List.mem_of_find?_eq_some hq
    have hp := List.find?_some hq
    have hp : (Nat.beq q.1 i && kinds q.2.1) = true := hp
    rw [Bool.and_eq_true] at hp
    obtain ⟨m3, x1, x2, x3⟩ := (hKS.2.2.1 q hm).2.2 (hk _ hp.2)
    rw [h] at x1
    cases x1
    rw [z_beq hp.1] at x2
    exact ⟨q.2.1, hp.2, x2, x3⟩
  · cases h
theorem zv_after {p : Program} {l : Launch} {e : Env} {R : Room} {s : State} {m : MethodId} {args : Array Value} {below : List Frame} {meth : Method} {c : Code} {Q : State → Prop} {sz : Nat} {H0 H : Heap} {locs : List Loc} {cells slots : Nat} {ls : Array Slot} {st0 rest : List Value} {Qz : State → Outcome → State → Prop}
    (hr : va_Run p l e R s m args below meth c H locs cells slots 0 0 (F0 m pc ls st0) rest Qz (fun q => sz ≤ q)) (hS : va_S (fun q => sz ≤ q) H0 H locs)
    (hQ : ∀ (v : Option Value) (s1 t : State), s1.heap = H → Qz s1 (.returned v) t → t.heap.size = H.size ∧ ∀ q : Nat, ¬ sz ≤ q → t.heap[q]? = H[q]?)
    (kk : ∀ (v : Option Value) (s1 t : State) (locs1 : List Loc), s1.heap = H → Qz s1 (.returned v) t → va_S (fun q => sz ≤ q) H0 t.heap locs1 → W p l e R s m args below meth c t.heap locs1 cells slots Q (F0 m (pc + 3) ls (v.toList ++ rest))) : W p l e R s m args below meth c H locs cells slots Q (F0 m pc ls st0) := by
  intro T1 hT X
  obtain ⟨v, st₀, t, T', L, h0, X', hL, e1, e2, hq, st⟩ := hr T1 hT X
  obtain ⟨q1, q2⟩ := hQ v st₀ t h0 hq
  obtain ⟨t2, a1, b1⟩ := kk v st₀ t (locs ++ L) h0 hq ⟨by rw [q1]; exact hS.1, fun q h1 h2 => by rw [q2 q h2]; exact hS.2.1 q h1 h2, fun q hq => by
      rcases List.mem_append.mp hq with h | h
      · exact hS.2.2 q h
      · exact hL q h⟩ T' e1 X'
  exact ⟨t2, st t2 a1, b1⟩
theorem zv_inv0 (hB : zv_B cl FT KXf TBL MT y mm K rm good) {i c : Nat} {mm2 : zM} {rm2 : Nat × Nat} {P2 : zNP} {Q2 : zNQ} {va : List zNV} (hok : zv_OK TBL cl KXf y mm2 rm2 P2 Q2) (hd : decode mm.2.1 pc = .ok (.invokevirtual i, 3)) (hl : zv_lk K MT (fun k => Nat.beq k 0) i = some mm2)
    (hc : (n_O y).any (fun o => Nat.beq o.1 c && Nat.beq o.2 mm2.2.2.2.2.2) = true) (hn : Nat.beq va.length mm2.2.2.2.2.1 = true) (hS : (Nat.ble S.length 8 && S.all zv_n1) = true) (hr : (Nat.ble (rm2.1 + 1) rm.1 && Nat.ble (8 + (mm2.2.2.1 + 11) + rm2.2) rm.2) = true)
    (hP : P2 (.inr c :: va) F G) (k : ∀ r F' G', Q2 (.inr c :: va) F G r F' G' → good (pc + 3) L (zv_ro r S) F' G') : good pc L (va.reverse ++ .inr c :: S) F G := by
  obtain ⟨p, l, e, R, s, m, args, below, meth, cc, Q, OB, D, DA, sz, A, H0, Ts, cells, slots, ⟨hx, hb, hml, hD, hKS⟩, ⟨hsz, hXp, hX, hrf, hrl, hrc, hrs⟩, ⟨hwf, hinj, hge, hOB⟩, hg⟩ := hB
  refine (hg _ _ _ _ _).mpr fun H locs ls stk h1 h2 h3 h4 h5 => ?_
  obtain ⟨kd, kd1, hlk, hci⟩ := zv_lk_ok hKS hl (fun k hk => by rw [z_beq hk]; omega)
  have : kd = 0 := z_beq kd1
  subst this
  obtain ⟨hcode, hini, hmh, hnp, k1, k2, k3⟩ := hlk
  obtain ⟨hts, hown, hK, htys⟩ := hD
  obtain ⟨va1, st1, rfl, hv1, w0, st2, rfl, hw, h6⟩ := zv_st_app h5
  have hc5 : c < 5000 := zv_any_lt hwf hc
  have hw : w0 = .ref (A c) := zv_w_r hw hc5
  subst hw
  have hrev : ∃ vb, va1 = vb.reverse ∧ zv_st A va vb := ⟨va1.reverse, by rw [List.reverse_reverse], by have := zv_st_rev hv1; rwa [List.reverse_reverse] at this⟩
  obtain ⟨vb, rfl, hvb⟩ := hrev
  obtain ⟨o, ho, ho2⟩ := List.any_eq_true.mp hc
  rw [Bool.and_eq_true] at ho2
  obtain ⟨o1, o2⟩ := o
  have e1 : o1 = c := z_beq ho2.1
  have e2 : o2 = mm2.2.2.2.2.2 := z_beq ho2.2
  subst e1; subst e2
  obtain ⟨r, V, y3, ⟨cell, y5, y6, y7, y8⟩⟩ := h1.1 _ ho
  obtain ⟨r2, hr2, hr3⟩ := hci rfl
  have y3 : cl[mm2.2.2.2.2.2]? = some r := y3
  rw [y3] at hr2
  cases hr2
  have hnp2 : ∀ sig, parseMethodDescriptor mm2.1.desc = some sig → mm2.2.2.2.2.1 = sig.parameters.length := by
    intro sig hsig
    rw [hsig] at hnp
    exact (Option.some.inj hnp).symm
  have hgd := hKS.2.2.2.2.2.1
  have hwsG : ∀ w ∈ (Cond.code mm2.1 mm2.2.1 mm2.2.2.1 mm2.2.2.2.1 :: TBL), ∀ (a' : Array Value) (U : State), s.WarmedH U.vm → w.before a' U = true := by
    refine z_pay hts (fun w hw => ?_)
    rcases List.mem_cons.mp hw with rfl | hw
    · exact ⟨hcode, rfl⟩
    · exact ⟨(hgd w hw).1, (hgd w hw).2⟩
  rw [Bool.and_eq_true] at hr
  have r1 := Nat.le_of_ble_eq_true hr.1
  have r2 := Nat.le_of_ble_eq_true hr.2
  have hH : sz ≤ H.size := by rw [h2.1]; exact hsz
  have hXH : KXf OB sz s H := hXp.2.1 s H0 H hX h3.1 h3.2.1
  have hlen := zv_st_len hvb
  have hst : zv_st A (.inr o1 :: va) (.ref (A o1) :: vb) := ⟨_, _, rfl, zv_w_mk hc5, hvb⟩
  have hpre : ∀ U : State, U.heap = H → s.WarmedH U.vm → zv_Pre D DA cl y sz (KXf OB sz) A (.inr o1 :: va) F G (Value.ref (A o1) :: vb).toArray U := fun U hU hW => ⟨_, rfl, hst, by rw [hU]; exact h1, by rw [hU]; exact hH, va_K.moved hW.alike hK, by rw [hU]; exact hXp.1 s U H hXH hW⟩
  have hsum : (st2.map fun v => v.category).sum ≤ 8 := by
    rw [Bool.and_eq_true] at hS
    rw [zv_sum1 (zv_st_cat hS.2 h6), zv_st_len h6]
    exact Nat.le_of_ble_eq_true hS.1
  refine zv_after (va_runV (b := A o1) (As := vb) (rest := st2) (C := mm2.1.cls) (n := mm2.2.2.2.2.1) ⟨hx, hb, hml, hown, hts⟩ (hok l OB D DA sz A _ F G hP hinj hge hOB) ⟨⟨rfl, rfl, by show rm2.1 + 1 ≤ _; omega, by show 8 + (mm2.2.2.1 + 11) + rm2.2 ≤ _; omega, hwsG, List.mem_cons_self, hts _ hcode, hts _ hini, hmh, hnp2, hts _ k1⟩, hts _ k2, hts _ k3⟩ ⟨zv_blind hXp, ⟨cell, y5, by rw [y7]; rfl, by rw [← hr3, y6]; exact (hK.1 _ _ y3).2.1⟩, hpre⟩ rfl (hlen.trans (z_beq hn)) (by obtain ⟨lv, z1, _⟩ := h4; exact z1.1) rfl (lv_room hsum) hd ⟨hrc, hrs⟩) h3 ?_ ?_
  · intro v s1 t hs1 hq
    obtain ⟨r', v', F', G', e0, q1, q2, q3, q4⟩ := hq
    rw [hs1] at q3
    exact ⟨q3.1, fun q hq => q3.2.1 q (fun c2 hc2 e => hq (by rw [← e]; exact hge _ hc2))⟩
  · intro v s1 t locs1 hs1 hq hS1
    obtain ⟨r', v', F', G', e0, q1, q2, q3, q4⟩ := hq
    have e0 : v = v' := Outcome.returned.inj e0
    subst e0
    rw [hs1] at q3
    refine (hg _ _ _ _ _).mp (k r' F' G' q4) t.heap locs1 ls _ q2 (zv_frm_tr h2 q3) hS1 h4 ?_
    match r', v, q1 with
    | none, none, _ => exact h6
    | some x, some w, ⟨z, z1, z2⟩ => exact ⟨w, st2, rfl, ⟨z, z1, z2⟩, h6⟩
theorem zv_inv1 (hB : zv_B cl FT KXf TBL MT y mm K rm good) {i : Nat} {mm2 : zM} {rm2 : Nat × Nat} {P2 : zNP} {Q2 : zNQ} {va : List zNV} (hok : zv_OK TBL cl KXf y mm2 rm2 P2 Q2) (hd : decode mm.2.1 pc = .ok (.invokestatic i, 3)) (hl : zv_lk K MT (fun k => Nat.beq k 1 || Nat.beq k 4) i = some mm2)
    (hn : Nat.beq va.length mm2.2.2.2.2.1 = true) (hS : (Nat.ble S.length 8 && S.all zv_n1) = true) (hr : (Nat.ble (rm2.1 + 1) rm.1 && Nat.ble (8 + (mm2.2.2.1 + 11) + rm2.2) rm.2) = true)
    (hP : P2 va F G) (k : ∀ r F' G', Q2 va F G r F' G' → good (pc + 3) L (zv_ro r S) F' G') : good pc L (va.reverse ++ S) F G := by
  obtain ⟨p, l, e, R, s, m, args, below, meth, cc, Q, OB, D, DA, sz, A, H0, Ts, cells, slots, ⟨hx, hb, hml, hD, hKS⟩, ⟨hsz, hXp, hX, hrf, hrl, hrc, hrs⟩, ⟨hwf, hinj, hge, hOB⟩, hg⟩ := hB
  refine (hg _ _ _ _ _).mpr fun H locs ls stk h1 h2 h3 h4 h5 => ?_
  obtain ⟨kd, kd1, hlk, hci⟩ := zv_lk_ok hKS hl (fun k hk => by
    rw [Bool.or_eq_true] at hk
    rcases hk with hk | hk <;> (rw [z_beq hk]; omega))
  obtain ⟨hcode, hini, hmh, hnp, hkind⟩ := hlk
  obtain ⟨hts, hown, hK, htys⟩ := hD
  obtain ⟨va1, st2, rfl, hv1, h6⟩ := zv_st_app h5
  have hrev : ∃ vb, va1 = vb.reverse ∧ zv_st A va vb := ⟨va1.reverse, by rw [List.reverse_reverse], by have := zv_st_rev hv1; rwa [List.reverse_reverse] at this⟩
  obtain ⟨vb, rfl, hvb⟩ := hrev
  have hnp2 : ∀ sig, parseMethodDescriptor mm2.1.desc = some sig → mm2.2.2.2.2.1 = sig.parameters.length := by
    intro sig hsig
    rw [hsig] at hnp
    exact (Option.some.inj hnp).symm
  have hgd := hKS.2.2.2.2.2.1
  have hwsG : ∀ w ∈ (Cond.code mm2.1 mm2.2.1 mm2.2.2.1 mm2.2.2.2.1 :: TBL), ∀ (a' : Array Value) (U : State), s.WarmedH U.vm → w.before a' U = true := by
    refine z_pay hts (fun w hw => ?_)
    rcases List.mem_cons.mp hw with rfl | hw
    · exact ⟨hcode, rfl⟩
    · exact ⟨(hgd w hw).1, (hgd w hw).2⟩
  rw [Bool.and_eq_true] at hr
  have r1 := Nat.le_of_ble_eq_true hr.1
  have r2 := Nat.le_of_ble_eq_true hr.2
  have hH : sz ≤ H.size := by rw [h2.1]; exact hsz
  have hXH : KXf OB sz s H := hXp.2.1 s H0 H hX h3.1 h3.2.1
  have hlen := zv_st_len hvb
  have hpre : ∀ U : State, U.heap = H → s.WarmedH U.vm → zv_Pre D DA cl y sz (KXf OB sz) A va F G vb.toArray U := fun U hU hW => ⟨_, rfl, hvb, by rw [hU]; exact h1, by rw [hU]; exact hH, va_K.moved hW.alike hK, by rw [hU]; exact hXp.1 s U H hXH hW⟩
  have hsum : (st2.map fun v => v.category).sum ≤ 8 := by
    rw [Bool.and_eq_true] at hS
    rw [zv_sum1 (zv_st_cat hS.2 h6), zv_st_len h6]
    exact Nat.le_of_ble_eq_true hS.1
  have run : va_Run p l e R s m args below meth cc H locs cells slots 0 0 (F0 m pc ls (vb.reverse ++ st2)) st2 (zv_Post D DA cl y A va F G Q2 vb.toArray) (fun q => sz ≤ q) := by
    rw [Bool.or_eq_true] at kd1
    rcases kd1 with kd1 | kd1
    · have : kd = 1 := z_beq kd1
      subst this
      obtain ⟨k1, k2⟩ := hkind
      exact va_runS (As := vb) (rest := st2) (n := mm2.2.2.2.2.1) ⟨hx, hb, hml, hown, hts⟩ (hok l OB D DA sz A _ F G hP hinj hge hOB) ⟨⟨rfl, rfl, by show rm2.1 + 1 ≤ _; omega, by show 8 + (mm2.2.2.1 + 11) + rm2.2 ≤ _; omega, hwsG, List.mem_cons_self, hts _ hcode, hts _ hini, hmh, hnp2, hts _ k1⟩, hts _ k2⟩ ⟨zv_blind hXp, hpre⟩ rfl (hlen.trans (z_beq hn)) (by obtain ⟨lv, z1, _⟩ := h4; exact z1.1) rfl (lv_room hsum) hd ⟨hrc, hrs⟩
    · have : kd = 4 := z_beq kd1
      subst this
      obtain ⟨⟨host, k1⟩, k2⟩ := hkind
      exact va_runSN (As := vb) (rest := st2) (n := mm2.2.2.2.2.1) ⟨hx, hb, hml, hown, hts⟩ (hok l OB D DA sz A _ F G hP hinj hge hOB) ⟨⟨⟨rfl, rfl, by show rm2.1 + 1 ≤ _; omega, by show 8 + (mm2.2.2.1 + 11) + rm2.2 ≤ _; omega, hwsG, List.mem_cons_self⟩, hts _ hcode, hts _ hini, hmh, hnp2, hts _ k1⟩, hts _ k2, trivial⟩ ⟨zv_blind hXp, hpre⟩ rfl (hlen.trans (z_beq hn)) (by obtain ⟨lv, z1, _⟩ := h4; exact z1.1) rfl (lv_room hsum) hd ⟨hrc, hrs⟩
  refine zv_after run h3 ?_ ?_
  · intro v s1 t hs1 hq
    obtain ⟨r', v', F', G', e0, q1, q2, q3, q4⟩ := hq
    rw [hs1] at q3
    exact ⟨q3.1, fun q hq => q3.2.1 q (fun c2 hc2 e => hq (by rw [← e]; exact hge _ hc2))⟩
  · intro v s1 t locs1 hs1 hq hS1
    obtain ⟨r', v', F', G', e0, q1, q2, q3, q4⟩ := hq
    have e0 : v = v' := Outcome.returned.inj e0
    subst e0
    rw [hs1] at q3
    refine (hg _ _ _ _ _).mp (k r' F' G' q4) t.heap locs1 ls _ q2 (zv_frm_tr h2 q3) hS1 h4 ?_
    match r', v, q1 with
    | none, none, _ => exact h6
    | some x, some w, ⟨z, z1, z2⟩ => exact ⟨w, st2, rfl, ⟨z, z1, z2⟩, h6⟩
/-- what a method may answer by its type -/
def zv_rt (ret : Option FieldType) (r : Option Int) : Prop := match ret, r with
  | none, none => True
  | some .int, some _ => True
  | some .boolean, some v => 0 ≤ v ∧ v ≤ 1
  | _, _ => False
theorem zv_meth {P : zNP} {Qs : zNQ} {n : Nat} (hpl : plainFor mm.1 = true) (hKS : z_KS (Cond.code mm.1 mm.2.1 mm.2.2.1 mm.2.2.2.1 :: TBL) TBL cl FT mm.1.cls MT K) (hXp : ∀ OB sz, z_KXp sz (KXf OB sz)) (hwf : zv_wf y = true) (hn : ∀ va F G, P va F G → va.length = n) (hn1 : ∀ va F G, P va F G → va.all zv_n1 = true) (hnl : Nat.ble n mm.2.2.1 = true)
    (body : ∀ (good : Nat → List zNV → List zNV → List zNV → List (Int → Int) → Prop) (va : List zNV) (F : List zNV) (G : List (Int → Int)), zv_B cl FT KXf TBL MT y mm K rm good → (∀ pc L v F' G', decode mm.2.1 pc = .ok (.ireturn, 1) → zv_rt mm.2.2.2.1 (some v) → Qs va F G (some v) F' G' → good pc L [.inl v] F' G') → (∀ pc L F' G', decode mm.2.1 pc = .ok (.return_, 1) → zv_rt mm.2.2.2.1 none → Qs va F G none F' G' → good pc L [] F' G') →
      P va F G → good 0 (va ++ List.replicate (mm.2.2.1 - n) (.inr 1000)) [] F G) : zv_OK TBL cl KXf y mm rm P Qs := by
  intro l OB D DA sz A va F G hP hinj hge hOB
  refine va_MetF (cc := mm.2.1) (maxL := mm.2.2.1) (ret := mm.2.2.2.1) hpl rfl ?_
  intro p e s m args below meth c s₁ B hml hPre
  obtain ⟨vals, e0, hst, hrep, hsz, hK, hX⟩ := hPre
  subst e0
  have hlen := zv_st_len hst
  have hcat := zv_st_cat (hn1 va F G hP) hst
  have hn0 := hn va F G hP
  have hnl := Nat.le_of_ble_eq_true hnl
  have hts : ∀ w ∈ (Cond.code mm.1 mm.2.1 mm.2.2.1 mm.2.2.2.1 :: TBL), w.before vals.toArray s = true := atoms_spec (ws := Cond.code mm.1 mm.2.1 mm.2.2.1 mm.2.2.2.1 :: TBL) B.pre
  have hown : s.vm.findClass mm.1.cls = some m.cls := findClass_of_methodNamed B.named
  have hD : z_Dy s m vals.toArray (Cond.code mm.1 mm.2.1 mm.2.2.1 mm.2.2.2.1 :: TBL) mm.1.cls D cl DA (z_tys DA) := ⟨hts, hown, hK, z_tys_ok DA⟩
  rw [lg_entry_eq]
  have hb2 := body (fun pc L S F2 G2 => ∀ H locs ls stk, zv_rep D DA cl y A F2 G2 H → zv_frm D cl y A s.heap H → va_S (fun q => sz ≤ q) s.heap H locs → zv_lv mm.2.2.1 ls A L → zv_st A S stk → W p l e { frames := rm.1, cells := 0, slots := 0, locals := rm.2 } s m vals.toArray below meth c H locs 0 0 (MQ below (zv_Post D DA cl y A va F G Qs) vals.toArray s 0 0 (fun q => sz ≤ q)) (F0 m pc ls stk)) va F G
    ⟨p, l, e, _, s, m, vals.toArray, below, meth, c, _, OB, D, DA, sz, A, s.heap, _, 0, 0, ⟨B.exec, B.bytes, hml, hD, hKS⟩, ⟨hsz, hXp OB sz, hX, Nat.le_refl _, Nat.le_refl _, Nat.zero_le _, Nat.zero_le _⟩, ⟨hwf, hinj, hge, hOB⟩, fun _ _ _ _ _ => Iff.rfl⟩ ?_ ?_ hP
  · refine hb2 s.heap [] _ [] hrep zv_frm_rf va_S.rf ?_ rfl
    obtain ⟨a1, a2, a3⟩ := z_args1 vals 0 hcat
    refine ⟨_, lv_entry vals (by rw [a1, hlen, hn0]; exact hnl), a2, fun i v hi hv => ?_⟩
    rw [zv_l_get] at hi
    by_cases hlt : i < va.length
    · rw [List.getElem?_append_left hlt] at hi
      obtain ⟨w, w1, w2⟩ := zv_st_get hst hi
      have := a3 i w w1
      rw [Nat.zero_add] at this
      exact ⟨w, w2, this⟩
    · rw [List.getElem?_append_right (by omega), List.getElem?_replicate] at hi
      split at hi
      · cases hi
        have hv : (1000 : Nat) < 1000 := hv
        omega
      · cases hi
  · intro pc L v F' G' hd hrt hq H locs ls stk h1 h2 h3 h4 h5
    obtain ⟨w, st2, rfl, ⟨x, rfl, rfl⟩, h6⟩ := h5
    have h6 : st2 = [] := h6
    subst h6
    unfold zv_rt at hrt
    split at hrt
    · rename_i e; cases e
    · rename_i hr _
      exact W.iret B.exec B.bytes (B.returns.trans hr) (fun t ht _ => ⟨some x.toInt, _, F', G', rfl, ⟨x, rfl, rfl⟩, by rw [ht]; exact h1, by rw [ht]; exact h2, hq⟩) (fun q hq => h3.2.2 q hq) hd B.notSynchronized
    · rename_i v2 hr e
      cases e
      have hnr : narrow .boolean (.int x) = .int x := by
        have hx : x.toInt = 0 ∨ x.toInt = 1 := by omega
        rcases hx with hx | hx
        · have : x = 0 := z_int0 hx
          subst this
          rfl
        · have : x = 1 := Int32.toInt_inj.mp (by rw [hx]; rfl)
          subst this
          rfl
      exact W.zret B.exec B.bytes (B.returns.trans hr) hnr (fun t ht _ => ⟨some x.toInt, _, F', G', rfl, ⟨x, rfl, rfl⟩, by rw [ht]; exact h1, by rw [ht]; exact h2, hq⟩) (fun q hq => h3.2.2 q hq) hd B.notSynchronized
    · exact absurd hrt (fun h => h)
  · intro pc L F' G' hd hrt hq H locs ls stk h1 h2 h3 h4 h5
    have h5 : stk = [] := h5
    subst h5
    have hr : mm.2.2.2.1 = none := by
      unfold zv_rt at hrt
      split at hrt
      · rename_i hr _; exact hr
      · rename_i e; cases e
      · rename_i e; cases e
      · exact absurd hrt (fun h => h)
    exact W.vret B.exec B.bytes (B.returns.trans hr) (fun t ht _ => ⟨none, none, F', G', rfl, trivial, by rw [ht]; exact h1, by rw [ht]; exact h2, hq⟩) (fun q hq => h3.2.2 q hq) hd B.notSynchronized
end ZVCALL
end
section
/-! Divisions of numbers that are not below 0; calls by how many arguments there are. -/
theorem zv_div_eq {u v : Int32} {a b : Int} (hu : u.toInt = a) (hv : v.toInt = b) (ha : 0 ≤ a) (hb : 0 < b) : (u / v).toInt = a / b := by
  have h1 := z_hi u
  have h2 : a / b ≤ a := by
    rcases Int.lt_or_le b 2 with h | h
    · have : b = 1 := by omega
      subst this; simp
    · exact Int.ediv_le_self b ha
  have h3 : 0 ≤ a / b := Int.ediv_nonneg ha (by omega)
  rw [Int32.toInt_div, hu, hv, Int.tdiv_eq_ediv_of_nonneg ha]
  exact z_bmod (by omega) (by omega)
theorem zv_rem_eq {u v : Int32} {a b : Int} (hu : u.toInt = a) (hv : v.toInt = b) (ha : 0 ≤ a) (hb : 0 < b) : (u - u / v * v).toInt = a % b := by
  have h1 := z_hi u
  have hq := zv_div_eq hu hv ha hb
  have e := Int.mul_ediv_add_emod a b
  have h3 : 0 ≤ a % b := Int.emod_nonneg _ (by omega)
  have h4 : 0 ≤ a / b := Int.ediv_nonneg ha (by omega)
  have h5 : 0 ≤ a / b * b := Int.mul_nonneg h4 (by omega)
  have e2 : b * (a / b) = a / b * b := Int.mul_comm _ _
  have hm : (u / v * v).toInt = a / b * b := by
    rw [Int32.toInt_mul, hq, hv]
    exact z_bmod (by omega) (by omega)
  rw [Int32.toInt_sub, hm, hu]
  have : a - a / b * b = a % b := by omega
  rw [this]
  exact z_bmod (by omega) (by omega)
section ZVDIV
variable {cl : List vw_C} {FT : Nat → Nat → FieldType} {KXf : (Nat → Nat) → Nat → State → Heap → Prop} {TBL : List Cond} {MT : List zM} {y : zNL} {mm : zM} {K : zK} {rm : Nat × Nat} {good : Nat → List zNV → List zNV → List zNV → List (Int → Int) → Prop}
variable {pc : Nat} {L S : List zNV} {F : List zNV} {G : List (Int → Int)}
theorem zv_idiv (hB : zv_B cl FT KXf TBL MT y mm K rm good) {a b : Int} (hd : decode mm.2.1 pc = .ok (.idiv, 1)) (ha : 0 ≤ a) (hb : 0 < b) (k : good (pc + 1) L (.inl (a / b) :: S) F G) : good pc L (.inl b :: .inl a :: S) F G :=
  zv_bin0 hB hd rfl (by omega) fun u v hu hv => by
    show good _ _ (.inl (u / v).toInt :: _) _ _
    rw [zv_div_eq hu hv ha hb]; exact k
theorem zv_irem (hB : zv_B cl FT KXf TBL MT y mm K rm good) {a b : Int} (hd : decode mm.2.1 pc = .ok (.irem, 1)) (ha : 0 ≤ a) (hb : 0 < b) (k : good (pc + 1) L (.inl (a % b) :: S) F G) : good pc L (.inl b :: .inl a :: S) F G :=
  zv_bin0 hB hd rfl (by omega) fun u v hu hv => by
    show good _ _ (.inl (u - u / v * v).toInt :: _) _ _
    rw [zv_rem_eq hu hv ha hb]; exact k
section ZVARITY
variable {i : Nat} {mm2 : zM} {rm2 : Nat × Nat} {P2 : zNP} {Q2 : zNQ} {c : Nat} {a b d e : zNV}
theorem zv_iv0 (hB : zv_B cl FT KXf TBL MT y mm K rm good) (hok : zv_OK TBL cl KXf y mm2 rm2 P2 Q2) (hd : decode mm.2.1 pc = .ok (.invokevirtual i, 3)) (hl : zv_lk K MT (fun k => Nat.beq k 0) i = some mm2) (hc : ((n_O y).any (fun o => Nat.beq o.1 c && Nat.beq o.2 mm2.2.2.2.2.2) && Nat.beq 0 mm2.2.2.2.2.1 && (Nat.ble S.length 8 && S.all zv_n1) && (Nat.ble (rm2.1 + 1) rm.1 && Nat.ble (8 + (mm2.2.2.1 + 11) + rm2.2) rm.2)) = true)
    (hP : P2 [.inr c] F G) (k : ∀ r F' G', Q2 [.inr c] F G r F' G' → good (pc + 3) L (zv_ro r S) F' G') : good pc L (.inr c :: S) F G := by
  rw [Bool.and_eq_true, Bool.and_eq_true, Bool.and_eq_true] at hc
  exact zv_inv0 (va := []) hB hok hd hl hc.1.1.1 hc.1.1.2 hc.1.2 hc.2 hP k
theorem zv_iv1 (hB : zv_B cl FT KXf TBL MT y mm K rm good) (hok : zv_OK TBL cl KXf y mm2 rm2 P2 Q2) (hd : decode mm.2.1 pc = .ok (.invokevirtual i, 3)) (hl : zv_lk K MT (fun k => Nat.beq k 0) i = some mm2) (hc : ((n_O y).any (fun o => Nat.beq o.1 c && Nat.beq o.2 mm2.2.2.2.2.2) && Nat.beq 1 mm2.2.2.2.2.1 && (Nat.ble S.length 8 && S.all zv_n1) && (Nat.ble (rm2.1 + 1) rm.1 && Nat.ble (8 + (mm2.2.2.1 + 11) + rm2.2) rm.2)) = true)
    (hP : P2 [.inr c, a] F G) (k : ∀ r F' G', Q2 [.inr c, a] F G r F' G' → good (pc + 3) L (zv_ro r S) F' G') : good pc L (a :: .inr c :: S) F G := by
  rw [Bool.and_eq_true, Bool.and_eq_true, Bool.and_eq_true] at hc
  exact zv_inv0 (va := [a]) hB hok hd hl hc.1.1.1 hc.1.1.2 hc.1.2 hc.2 hP k
theorem zv_iv2 (hB : zv_B cl FT KXf TBL MT y mm K rm good) (hok : zv_OK TBL cl KXf y mm2 rm2 P2 Q2) (hd : decode mm.2.1 pc = .ok (.invokevirtual i, 3)) (hl : zv_lk K MT (fun k => Nat.beq k 0) i = some mm2) (hc : ((n_O y).any (fun o => Nat.beq o.1 c && Nat.beq o.2 mm2.2.2.2.2.2) && Nat.beq 2 mm2.2.2.2.2.1 && (Nat.ble S.length 8 && S.all zv_n1) && (Nat.ble (rm2.1 + 1) rm.1 && Nat.ble (8 + (mm2.2.2.1 + 11) + rm2.2) rm.2)) = true)
    (hP : P2 [.inr c, a, b] F G) (k : ∀ r F' G', Q2 [.inr c, a, b] F G r F' G' → good (pc + 3) L (zv_ro r S) F' G') : good pc L (b :: a :: .inr c :: S) F G := by
  rw [Bool.and_eq_true, Bool.and_eq_true, Bool.and_eq_true] at hc
  exact zv_inv0 (va := [a, b]) hB hok hd hl hc.1.1.1 hc.1.1.2 hc.1.2 hc.2 hP k
theorem zv_iv3 (hB : zv_B cl FT KXf TBL MT y mm K rm good) (hok : zv_OK TBL cl KXf y mm2 rm2 P2 Q2) (hd : decode mm.2.1 pc = .ok (.invokevirtual i, 3)) (hl : zv_lk K MT (fun k => Nat.beq k 0) i = some mm2) (hc : ((n_O y).any (fun o => Nat.beq o.1 c && Nat.beq o.2 mm2.2.2.2.2.2) && Nat.beq 3 mm2.2.2.2.2.1 && (Nat.ble S.length 8 && S.all zv_n1) && (Nat.ble (rm2.1 + 1) rm.1 && Nat.ble (8 + (mm2.2.2.1 + 11) + rm2.2) rm.2)) = true)
    (hP : P2 [.inr c, a, b, d] F G) (k : ∀ r F' G', Q2 [.inr c, a, b, d] F G r F' G' → good (pc + 3) L (zv_ro r S) F' G') : good pc L (d :: b :: a :: .inr c :: S) F G := by
  rw [Bool.and_eq_true, Bool.and_eq_true, Bool.and_eq_true] at hc
  exact zv_inv0 (va := [a, b, d]) hB hok hd hl hc.1.1.1 hc.1.1.2 hc.1.2 hc.2 hP k
theorem zv_it1 (hB : zv_B cl FT KXf TBL MT y mm K rm good) (hok : zv_OK TBL cl KXf y mm2 rm2 P2 Q2) (hd : decode mm.2.1 pc = .ok (.invokestatic i, 3)) (hl : zv_lk K MT (fun k => Nat.beq k 1 || Nat.beq k 4) i = some mm2) (hc : (Nat.beq 1 mm2.2.2.2.2.1 && (Nat.ble S.length 8 && S.all zv_n1) && (Nat.ble (rm2.1 + 1) rm.1 && Nat.ble (8 + (mm2.2.2.1 + 11) + rm2.2) rm.2)) = true)
    (hP : P2 [a] F G) (k : ∀ r F' G', Q2 [a] F G r F' G' → good (pc + 3) L (zv_ro r S) F' G') : good pc L (a :: S) F G := by
  rw [Bool.and_eq_true, Bool.and_eq_true] at hc
  exact zv_inv1 (va := [a]) hB hok hd hl hc.1.1 hc.1.2 hc.2 hP k
theorem zv_it2 (hB : zv_B cl FT KXf TBL MT y mm K rm good) (hok : zv_OK TBL cl KXf y mm2 rm2 P2 Q2) (hd : decode mm.2.1 pc = .ok (.invokestatic i, 3)) (hl : zv_lk K MT (fun k => Nat.beq k 1 || Nat.beq k 4) i = some mm2) (hc : (Nat.beq 2 mm2.2.2.2.2.1 && (Nat.ble S.length 8 && S.all zv_n1) && (Nat.ble (rm2.1 + 1) rm.1 && Nat.ble (8 + (mm2.2.2.1 + 11) + rm2.2) rm.2)) = true)
    (hP : P2 [a, b] F G) (k : ∀ r F' G', Q2 [a, b] F G r F' G' → good (pc + 3) L (zv_ro r S) F' G') : good pc L (b :: a :: S) F G := by
  rw [Bool.and_eq_true, Bool.and_eq_true] at hc
  exact zv_inv1 (va := [a, b]) hB hok hd hl hc.1.1 hc.1.2 hc.2 hP k
theorem zv_it3 (hB : zv_B cl FT KXf TBL MT y mm K rm good) (hok : zv_OK TBL cl KXf y mm2 rm2 P2 Q2) (hd : decode mm.2.1 pc = .ok (.invokestatic i, 3)) (hl : zv_lk K MT (fun k => Nat.beq k 1 || Nat.beq k 4) i = some mm2) (hc : (Nat.beq 3 mm2.2.2.2.2.1 && (Nat.ble S.length 8 && S.all zv_n1) && (Nat.ble (rm2.1 + 1) rm.1 && Nat.ble (8 + (mm2.2.2.1 + 11) + rm2.2) rm.2)) = true)
    (hP : P2 [a, b, d] F G) (k : ∀ r F' G', Q2 [a, b, d] F G r F' G' → good (pc + 3) L (zv_ro r S) F' G') : good pc L (d :: b :: a :: S) F G := by
  rw [Bool.and_eq_true, Bool.and_eq_true] at hc
  exact zv_inv1 (va := [a, b, d]) hB hok hd hl hc.1.1 hc.1.2 hc.2 hP k
theorem zv_it4 (hB : zv_B cl FT KXf TBL MT y mm K rm good) (hok : zv_OK TBL cl KXf y mm2 rm2 P2 Q2) (hd : decode mm.2.1 pc = .ok (.invokestatic i, 3)) (hl : zv_lk K MT (fun k => Nat.beq k 1 || Nat.beq k 4) i = some mm2) (hc : (Nat.beq 4 mm2.2.2.2.2.1 && (Nat.ble S.length 8 && S.all zv_n1) && (Nat.ble (rm2.1 + 1) rm.1 && Nat.ble (8 + (mm2.2.2.1 + 11) + rm2.2) rm.2)) = true)
    (hP : P2 [a, b, d, e] F G) (k : ∀ r F' G', Q2 [a, b, d, e] F G r F' G' → good (pc + 3) L (zv_ro r S) F' G') : good pc L (e :: d :: b :: a :: S) F G := by
  rw [Bool.and_eq_true, Bool.and_eq_true] at hc
  exact zv_inv1 (va := [a, b, d, e]) hB hok hd hl hc.1.1 hc.1.2 hc.2 hP k
end ZVARITY
end ZVDIV
end
