/-! The program's own tables: classes, fields, methods, types. -/
def z_F0 : List (String × String × String × Bool) := [("StarTales", "sky", "LStarTales$Sky;", true), ("StarTales", "keptSky", "LStarTales$Sky;", true), ("StarTales", "ahead", "LStarTales$Sky;", true), ("StarTales", "sea", "LStarTales$Sea;", true), ("StarTales", "keptSea", "LStarTales$Sea;", true), ("StarTales", "isKept", "Z", false), ("StarTales", "tape", "LStarTales$Tape;", true), ("StarTales", "ruling", "LStarTales$Law;", false), ("StarTales", "spareLaw", "LStarTales$Law;", false), ("StarTales", "lawReader", "LStarTales$LawReader;", true), ("StarTales", "telling", "LStarTales$Tale;", false), ("StarTales", "spareTale", "LStarTales$Tale;", false), ("StarTales", "view", "LStarTales$View;", true), ("StarTales", "otherView", "LStarTales$View;", true), ("StarTales", "matcher", "LStarTales$Matcher;", true), ("StarTales", "pilot", "LStarTales$Pilot;", true), ("StarTales", "patches", "LStarTales$Patches;", true), ("StarTales", "chooser", "LStarTales$Chooser;", true), ("StarTales", "spots", "[I", true)]
def z_F1 : List (String × String × String × Bool) := [("StarTales$Sky", "told", "I", false), ("StarTales$Sky", "column", "[I", true), ("StarTales$Sky", "row", "[I", true), ("StarTales$Sky", "bright", "[I", true), ("StarTales$Sky", "walkColumns", "[I", true), ("StarTales$Sky", "walkRows", "[I", true), ("StarTales$Sky", "hour", "I", false), ("StarTales$Sky", "night", "I", false), ("StarTales$Sky", "clouds", "I", false), ("StarTales$Sky", "sightColumns", "I", false), ("StarTales$Sky", "sightRows", "I", false), ("StarTales$Sky", "chance", "I", false)]
def z_F2 : List (String × String × String × Bool) := [("StarTales$Sea", "landRow", "[I", true), ("StarTales$Sea", "shipsTold", "I", false), ("StarTales$Sea", "shipPlace", "[I", true)]
def z_F3 : List (String × String × String × Bool) := [("StarTales$Tape", "bytes", "[I", true), ("StarTales$Tape", "size", "I", false)]
def z_F4 : List (String × String × String × Bool) := [("StarTales$Law", "kinds", "[I", true), ("StarTales$Law", "values", "[I", true), ("StarTales$Law", "steps", "I", false), ("StarTales$Law", "clauseKind", "[I", true), ("StarTales$Law", "amountFrom", "[I", true), ("StarTales$Law", "conditionFrom", "[I", true), ("StarTales$Law", "conditionEnd", "[I", true), ("StarTales$Law", "clauses", "I", false), ("StarTales$Law", "tellsSeen", "Z", false), ("StarTales$Law", "tellsLines", "Z", false), ("StarTales$Law", "seenByPlace", "Z", false), ("StarTales$Law", "linesByPlace", "Z", false), ("StarTales$Law", "letters", "[I", true), ("StarTales$Law", "stack", "[I", true), ("StarTales$Law", "answer", "I", false)]
def z_F5 : List (String × String × String × Bool) := [("StarTales$LawReader", "text", "[I", true), ("StarTales$LawReader", "length", "I", false), ("StarTales$LawReader", "at", "I", false), ("StarTales$LawReader", "fault", "I", false), ("StarTales$LawReader", "law", "LStarTales$Law;", false)]
def z_F6 : List (String × String × String × Bool) := [("StarTales$Tale", "lines", "I", false), ("StarTales$Tale", "names", "I", false), ("StarTales$Tale", "near", "[I", true)]
def z_F7 : List (String × String × String × Bool) := [("StarTales$View", "sky", "LStarTales$Sky;", false), ("StarTales$View", "law", "LStarTales$Law;", false), ("StarTales$View", "x", "I", false), ("StarTales$View", "y", "I", false), ("StarTales$View", "shown", "I", false), ("StarTales$View", "joined", "[I", true), ("StarTales$View", "starsAsked", "I", false), ("StarTales$View", "starsHold", "I", false), ("StarTales$View", "pairsAsked", "[I", true), ("StarTales$View", "pairsHold", "[I", true)]
def z_F8 : List (String × String × String × Bool) := [("StarTales$Matcher", "may", "[I", true), ("StarTales$Matcher", "twins", "[I", true), ("StarTales$Matcher", "starOf", "[I", true), ("StarTales$Matcher", "tale", "LStarTales$Tale;", false), ("StarTales$Matcher", "joined", "[I", false), ("StarTales$Matcher", "fewest", "I", false), ("StarTales$Matcher", "deadEnds", "I", false)]
def z_F9 : List (String × String × String × Bool) := [("StarTales$Pilot", "hoursTaken", "I", false), ("StarTales$Pilot", "firstStar", "I", false), ("StarTales$Pilot", "turn", "I", false), ("StarTales$Pilot", "secondStar", "I", false), ("StarTales$Pilot", "brought", "[I", true), ("StarTales$Pilot", "legStar", "[I", true), ("StarTales$Pilot", "legHours", "[I", true), ("StarTales$Pilot", "legEnd", "[I", true), ("StarTales$Pilot", "legNow", "[I", true), ("StarTales$Pilot", "legs", "I", false), ("StarTales$Pilot", "best", "I", false), ("StarTales$Pilot", "stepped", "[I", true), ("StarTales$Pilot", "hoursFromOne", "[I", true), ("StarTales$Pilot", "hoursFromOther", "[I", true), ("StarTales$Pilot", "queue", "[I", true)]
def z_F10 : List (String × String × String × Bool) := [("StarTales$Patches", "shownAt", "[I", true), ("StarTales$Patches", "markAt", "[J", true), ("StarTales$Patches", "told", "[I", true), ("StarTales$Patches", "toldParts", "I", false), ("StarTales$Patches", "someParts", "[I", true), ("StarTales$Patches", "otherParts", "[I", true), ("StarTales$Patches", "sky", "LStarTales$Sky;", true)]
def z_F11 : List (String × String × String × Bool) := [("StarTales$Chooser", "shown", "[I", true), ("StarTales$Chooser", "parts", "[I", true), ("StarTales$Chooser", "partsUpTo", "[I", true), ("StarTales$Chooser", "worth", "[I", true), ("StarTales$Chooser", "weight", "[I", true), ("StarTales$Chooser", "bestWorth", "[I", true), ("StarTales$Chooser", "bestBits", "[I", true)]
def z_F12 : List (String × String × String × Bool) := [("StarTalesModel", "now", "[I", true), ("StarTalesModel", "aside", "[I", true), ("StarTalesModel", "kept", "[I", true), ("StarTalesModel", "tape", "[B", true), ("StarTalesModel", "taped", "I", false), ("StarTalesModel", "place0", "I", false), ("StarTalesModel", "length0", "I", false), ("StarTalesModel", "fault", "I", false), ("StarTalesModel", "open", "I", false), ("StarTalesModel", "codeMany", "I", false), ("StarTalesModel", "waiting", "I", false), ("StarTalesModel", "saidMany", "I", false), ("StarTalesModel", "number0", "I", false), ("StarTalesModel", "clauses", "I", false), ("StarTalesModel", "said", "[I", true), ("StarTalesModel", "waits", "[I", true), ("StarTalesModel", "saidLetter", "[I", true), ("StarTalesModel", "saidFrom", "[I", true), ("StarTalesModel", "saidHalf", "[I", true), ("StarTalesModel", "saidTo", "[I", true), ("StarTalesModel", "codes", "[I", true), ("StarTalesModel", "clauseOf", "[I", true), ("StarTalesModel", "codeFrom", "[I", true), ("StarTalesModel", "codeHalf", "[I", true), ("StarTalesModel", "codeTo", "[I", true), ("StarTalesModel", "stack", "[I", true), ("StarTalesModel", "facts", "[I", true), ("StarTalesModel", "seen0", "I", false), ("StarTalesModel", "linesOf", "[I", true), ("StarTalesModel", "figures", "I", false), ("StarTalesModel", "largest", "I", false), ("StarTalesModel", "taleLines", "I", false), ("StarTalesModel", "newLines", "I", false), ("StarTalesModel", "namesIn", "I", false), ("StarTalesModel", "fromName", "[I", true), ("StarTalesModel", "toName", "[I", true), ("StarTalesModel", "newFrom", "[I", true), ("StarTalesModel", "newTo", "[I", true), ("StarTalesModel", "nameAt", "[I", true), ("StarTalesModel", "starFor", "[I", true), ("StarTalesModel", "firstFor", "[I", true), ("StarTalesModel", "nameMany", "I", false), ("StarTalesModel", "partsOf", "[I", true), ("StarTalesModel", "partMany", "[I", true), ("StarTalesModel", "parts", "[I", true), ("StarTalesModel", "toldParts", "[I", true), ("StarTalesModel", "namedAt", "[I", true), ("StarTalesModel", "unlike", "[I", true), ("StarTalesModel", "unlikeMany", "I", false), ("StarTalesModel", "worthOf", "[I", true), ("StarTalesModel", "heavyOf", "[I", true), ("StarTalesModel", "mostBy", "[I", true), ("StarTalesModel", "farA", "[I", true), ("StarTalesModel", "farB", "[I", true), ("StarTalesModel", "queue", "[I", true), ("StarTalesModel", "twoHours", "I", false), ("StarTalesModel", "twoFirst", "I", false), ("StarTalesModel", "twoFor", "I", false), ("StarTalesModel", "twoSecond", "I", false), ("StarTalesModel", "otherLines", "[I", true), ("StarTalesModel", "logTold", "[I", true), ("StarTalesModel", "logHow", "[I", true), ("StarTalesModel", "whereAt", "[I", true), ("StarTalesModel", "isKept", "Z", false)]
def z_cl : List vw_C := [("StarTales", (fun k => z_F0.getD k ("", "", "", false)), 19), ("StarTales$Sky", (fun k => z_F1.getD k ("", "", "", false)), 12), ("StarTales$Sea", (fun k => z_F2.getD k ("", "", "", false)), 3), ("StarTales$Tape", (fun k => z_F3.getD k ("", "", "", false)), 2), ("StarTales$Law", (fun k => z_F4.getD k ("", "", "", false)), 15), ("StarTales$LawReader", (fun k => z_F5.getD k ("", "", "", false)), 5), ("StarTales$Tale", (fun k => z_F6.getD k ("", "", "", false)), 3), ("StarTales$View", (fun k => z_F7.getD k ("", "", "", false)), 10), ("StarTales$Matcher", (fun k => z_F8.getD k ("", "", "", false)), 7), ("StarTales$Pilot", (fun k => z_F9.getD k ("", "", "", false)), 15), ("StarTales$Patches", (fun k => z_F10.getD k ("", "", "", false)), 7), ("StarTales$Chooser", (fun k => z_F11.getD k ("", "", "", false)), 7), ("StarTalesModel", (fun k => z_F12.getD k ("", "", "", false)), 64)]
def z_FTL : List (List FieldType) := [[.object "StarTales$Sky", .object "StarTales$Sky", .object "StarTales$Sky", .object "StarTales$Sea", .object "StarTales$Sea", .boolean, .object "StarTales$Tape", .object "StarTales$Law", .object "StarTales$Law", .object "StarTales$LawReader", .object "StarTales$Tale", .object "StarTales$Tale", .object "StarTales$View", .object "StarTales$View", .object "StarTales$Matcher", .object "StarTales$Pilot", .object "StarTales$Patches", .object "StarTales$Chooser", .array .int], [.int, .array .int, .array .int, .array .int, .array .int, .array .int, .int, .int, .int, .int, .int, .int], [.array .int, .int, .array .int], [.array .int, .int], [.array .int, .array .int, .int, .array .int, .array .int, .array .int, .array .int, .int, .boolean, .boolean, .boolean, .boolean, .array .int, .array .int, .int], [.array .int, .int, .int, .int, .object "StarTales$Law"], [.int, .int, .array .int], [.object "StarTales$Sky", .object "StarTales$Law", .int, .int, .int, .array .int, .int, .int, .array .int, .array .int], [.array .int, .array .int, .array .int, .object "StarTales$Tale", .array .int, .int, .int], [.int, .int, .int, .int, .array .int, .array .int, .array .int, .array .int, .array .int, .int, .int, .array .int, .array .int, .array .int, .array .int], [.array .int, .array .long, .array .int, .int, .array .int, .array .int, .object "StarTales$Sky"], [.array .int, .array .int, .array .int, .array .int, .array .int, .array .int, .array .int], [.array .int, .array .int, .array .int, .array .byte, .int, .int, .int, .int, .int, .int, .int, .int, .int, .int, .array .int, .array .int, .array .int, .array .int, .array .int, .array .int, .array .int, .array .int, .array .int, .array .int, .array .int, .array .int, .array .int, .int, .array .int, .int, .int, .int, .int, .int, .array .int, .array .int, .array .int, .array .int, .array .int, .array .int, .array .int, .int, .array .int, .array .int, .array .int, .array .int, .array .int, .array .int, .int, .array .int, .array .int, .array .int, .array .int, .array .int, .array .int, .int, .int, .int, .int, .array .int, .array .int, .array .int, .array .int, .boolean]]
def z_FT (ci k : Nat) : FieldType := (z_FTL.getD ci []).getD k .int
def z_TYs : List zTy := [.inr (0, (24, 24), [((0, 23), .inl (.ofNat 0, .ofNat 0))]), .inr (0, (24, 24), [((0, 23), .inl (.ofNat 0, .ofNat 0))]), .inr (0, (24, 24), [((0, 23), .inl (.ofNat 0, .ofNat 0))]), .inr (0, (24, 24), [((0, 23), .inl (.ofNat 0, .ofNat 0))]), .inr (0, (24, 24), [((0, 23), .inl (.ofNat 0, .ofNat 0))]), .inl (1, [.inl (.ofNat 0, .ofNat 0), .inr (.inl 0), .inr (.inl 1), .inr (.inl 2), .inr (.inl 3), .inr (.inl 4), .inl (.ofNat 0, .ofNat 0), .inl (.ofNat 0, .ofNat 0), .inl (.ofNat 0, .ofNat 0), .inl (.ofNat 4, .ofNat 4), .inl (.ofNat 3, .ofNat 3), .inl (.ofNat 1, .ofNat 1)]), .inr (0, (24, 24), [((0, 23), .inl (.ofNat 0, .ofNat 0))]), .inr (0, (24, 24), [((0, 23), .inl (.ofNat 0, .ofNat 0))]), .inr (0, (24, 24), [((0, 23), .inl (.ofNat 0, .ofNat 0))]), .inr (0, (24, 24), [((0, 23), .inl (.ofNat 0, .ofNat 0))]), .inr (0, (24, 24), [((0, 23), .inl (.ofNat 0, .ofNat 0))]), .inl (1, [.inl (.ofNat 0, .ofNat 0), .inr (.inl 6), .inr (.inl 7), .inr (.inl 8), .inr (.inl 9), .inr (.inl 10), .inl (.ofNat 0, .ofNat 0), .inl (.ofNat 0, .ofNat 0), .inl (.ofNat 0, .ofNat 0), .inl (.ofNat 4, .ofNat 4), .inl (.ofNat 3, .ofNat 3), .inl (.ofNat 1, .ofNat 1)]), .inr (0, (24, 24), [((0, 23), .inl (.ofNat 0, .ofNat 0))]), .inr (0, (24, 24), [((0, 23), .inl (.ofNat 0, .ofNat 0))]), .inr (0, (24, 24), [((0, 23), .inl (.ofNat 0, .ofNat 0))]), .inr (0, (24, 24), [((0, 23), .inl (.ofNat 0, .ofNat 0))]), .inr (0, (24, 24), [((0, 23), .inl (.ofNat 0, .ofNat 0))]), .inl (1, [.inl (.ofNat 0, .ofNat 0), .inr (.inl 12), .inr (.inl 13), .inr (.inl 14), .inr (.inl 15), .inr (.inl 16), .inl (.ofNat 0, .ofNat 0), .inl (.ofNat 0, .ofNat 0), .inl (.ofNat 0, .ofNat 0), .inl (.ofNat 4, .ofNat 4), .inl (.ofNat 3, .ofNat 3), .inl (.ofNat 1, .ofNat 1)]), .inr (0, (12, 12), [((0, 11), .inl (.ofNat 0, .ofNat 0))]), .inr (0, (6, 6), [((0, 5), .inl (.ofNat 0, .ofNat 0))]), .inl (2, [.inr (.inl 18), .inl (.ofNat 0, .ofNat 0), .inr (.inl 19)]), .inr (0, (12, 12), [((0, 11), .inl (.ofNat 0, .ofNat 0))]), .inr (0, (6, 6), [((0, 5), .inl (.ofNat 0, .ofNat 0))]), .inl (2, [.inr (.inl 21), .inl (.ofNat 0, .ofNat 0), .inr (.inl 22)]), .inr (0, (220, 220), [((0, 219), .inl (.ofNat 0, .ofNat 0))]), .inl (3, [.inr (.inl 24), .inl (.ofNat 0, .ofNat 0)]), .inr (0, (200, 200), [((0, 199), .inl (.ofNat 0, .ofNat 0))]), .inr (0, (200, 200), [((0, 199), .inl (.ofNat 0, .ofNat 0))]), .inr (0, (14, 14), [((0, 13), .inl (.ofNat 0, .ofNat 0))]), .inr (0, (14, 14), [((0, 13), .inl (.ofNat 0, .ofNat 0))]), .inr (0, (14, 14), [((0, 13), .inl (.ofNat 0, .ofNat 0))]), .inr (0, (14, 14), [((0, 13), .inl (.ofNat 0, .ofNat 0))]), .inr (0, (13, 13), [((0, 12), .inl (.ofNat 0, .ofNat 23))]), .inr (0, (40, 40), [((0, 39), .inl (.ofNat 0, .ofNat 0))]), .inl (4, [.inr (.inl 26), .inr (.inl 27), .inl (.ofNat 0, .ofNat 0), .inr (.inl 28), .inr (.inl 29), .inr (.inl 30), .inr (.inl 31), .inl (.ofNat 0, .ofNat 0), .inl (.ofNat 0, .ofNat 0), .inl (.ofNat 0, .ofNat 0), .inl (.ofNat 0, .ofNat 0), .inl (.ofNat 0, .ofNat 0), .inr (.inl 32), .inr (.inl 33), .inl (.ofNat 0, .ofNat 0)]), .inr (0, (200, 200), [((0, 199), .inl (.ofNat 0, .ofNat 0))]), .inr (0, (200, 200), [((0, 199), .inl (.ofNat 0, .ofNat 0))]), .inr (0, (14, 14), [((0, 13), .inl (.ofNat 0, .ofNat 0))]), .inr (0, (14, 14), [((0, 13), .inl (.ofNat 0, .ofNat 0))]), .inr (0, (14, 14), [((0, 13), .inl (.ofNat 0, .ofNat 0))]), .inr (0, (14, 14), [((0, 13), .inl (.ofNat 0, .ofNat 0))]), .inr (0, (13, 13), [((0, 12), .inl (.ofNat 0, .ofNat 0))]), .inr (0, (40, 40), [((0, 39), .inl (.ofNat 0, .ofNat 0))]), .inl (4, [.inr (.inl 35), .inr (.inl 36), .inl (.ofNat 0, .ofNat 0), .inr (.inl 37), .inr (.inl 38), .inr (.inl 39), .inr (.inl 40), .inl (.ofNat 0, .ofNat 0), .inl (.ofNat 0, .ofNat 0), .inl (.ofNat 0, .ofNat 0), .inl (.ofNat 0, .ofNat 0), .inl (.ofNat 0, .ofNat 0), .inr (.inl 41), .inr (.inl 42), .inl (.ofNat 0, .ofNat 0)]), .inl (5, [.inr (.inl 24), .inl (.ofNat 0, .ofNat 0), .inl (.ofNat 0, .ofNat 0), .inl (.ofNat 0, .ofNat 0), .inr (.inl 43)]), .inr (0, (8, 8), [((0, 7), .inl (.ofNat 0, .ofNat 0))]), .inl (6, [.inl (.ofNat 0, .ofNat 0), .inl (.ofNat 0, .ofNat 0), .inr (.inl 45)]), .inr (0, (8, 8), [((0, 7), .inl (.ofNat 0, .ofNat 0))]), .inl (6, [.inl (.ofNat 0, .ofNat 0), .inl (.ofNat 0, .ofNat 0), .inr (.inl 47)]), .inr (0, (24, 24), [((0, 23), .inl (.ofNat 0, .ofNat 0))]), .inr (0, (24, 24), [((0, 23), .inl (.ofNat 0, .ofNat 0))]), .inr (0, (24, 24), [((0, 23), .inl (.ofNat 0, .ofNat 0))]), .inl (7, [.inr (.inl 5), .inr (.inl 34), .inl (.ofNat 0, .ofNat 23), .inl (.ofNat 0, .ofNat 11), .inl (.ofNat 0, .ofNat 0), .inr (.inl 49), .inl (.ofNat 0, .ofNat 0), .inl (.ofNat 0, .ofNat 0), .inr (.inl 50), .inr (.inl 51)]), .inr (0, (24, 24), [((0, 23), .inl (.ofNat 0, .ofNat 0))]), .inr (0, (24, 24), [((0, 23), .inl (.ofNat 0, .ofNat 0))]), .inr (0, (24, 24), [((0, 23), .inl (.ofNat 0, .ofNat 0))]), .inl (7, [.inr (.inl 5), .inr (.inl 34), .inl (.ofNat 0, .ofNat 23), .inl (.ofNat 0, .ofNat 11), .inl (.ofNat 0, .ofNat 0), .inr (.inl 53), .inl (.ofNat 0, .ofNat 0), .inl (.ofNat 0, .ofNat 0), .inr (.inl 54), .inr (.inl 55)]), .inr (0, (72, 72), [((0, 71), .inl (.ofNat 0, .ofNat 0))]), .inr (0, (24, 24), [((0, 23), .inl (.ofNat 0, .ofNat 0))]), .inr (0, (8, 8), [((0, 7), .inl (.ofNat 0, .ofNat 0))]), .inl (8, [.inr (.inl 57), .inr (.inl 58), .inr (.inl 59), .inr (.inl 46), .inr (.inl 49), .inl (.negSucc 0, .negSucc 0), .inl (.ofNat 0, .ofNat 0)]), .inr (0, (24, 24), [((0, 23), .inl (.ofNat 0, .ofNat 0))]), .inr (0, (264, 264), [((0, 263), .inl (.ofNat 0, .ofNat 0))]), .inr (0, (264, 264), [((0, 263), .inl (.ofNat 0, .ofNat 0))]), .inr (0, (264, 264), [((0, 263), .inl (.ofNat 0, .ofNat 0))]), .inr (0, (264, 264), [((0, 263), .inl (.ofNat 0, .ofNat 0))]), .inr (0, (288, 288), [((0, 287), .inl (.ofNat 0, .ofNat 0))]), .inr (0, (288, 288), [((0, 287), .inl (.ofNat 0, .ofNat 0))]), .inr (0, (288, 288), [((0, 287), .inl (.ofNat 0, .ofNat 0))]), .inr (0, (288, 288), [((0, 287), .inl (.ofNat 0, .ofNat 0))]), .inl (9, [.inl (.ofNat 0, .ofNat 0), .inl (.negSucc 0, .negSucc 0), .inl (.ofNat 0, .ofNat 0), .inl (.negSucc 0, .negSucc 0), .inr (.inl 61), .inr (.inl 62), .inr (.inl 63), .inr (.inl 64), .inr (.inl 65), .inl (.ofNat 0, .ofNat 0), .inl (.negSucc 0, .negSucc 0), .inr (.inl 66), .inr (.inl 67), .inr (.inl 68), .inr (.inl 69)]), .inr (0, (288, 288), [((0, 287), .inl (.ofNat 0, .ofNat 0))]), .inr (2, (288, 288), [((0, 287), .inr (.inr 0))]), .inr (0, (12, 12), [((0, 11), .inl (.ofNat 0, .ofNat 0))]), .inr (0, (24, 24), [((0, 23), .inl (.ofNat 0, .ofNat 0))]), .inr (0, (24, 24), [((0, 23), .inl (.ofNat 0, .ofNat 0))]), .inl (10, [.inr (.inl 71), .inr (.inl 72), .inr (.inl 73), .inl (.ofNat 0, .ofNat 0), .inr (.inl 74), .inr (.inl 75), .inr (.inl 5)]), .inr (0, (8, 8), [((0, 7), .inl (.ofNat 0, .ofNat 0))]), .inr (0, (24, 24), [((0, 23), .inl (.ofNat 0, .ofNat 0))]), .inr (0, (24, 24), [((0, 23), .inl (.ofNat 0, .ofNat 0))]), .inr (0, (24, 24), [((0, 23), .inl (.ofNat 0, .ofNat 0))]), .inr (0, (24, 24), [((0, 23), .inl (.ofNat 0, .ofNat 0))]), .inr (0, (1000, 1000), [((0, 999), .inl (.ofNat 0, .ofNat 0))]), .inr (0, (1000, 1000), [((0, 999), .inl (.ofNat 0, .ofNat 0))]), .inl (11, [.inr (.inl 77), .inr (.inl 78), .inr (.inl 79), .inr (.inl 80), .inr (.inl 81), .inr (.inl 82), .inr (.inl 83)]), .inr (0, (288, 288), [((0, 287), .inl (.ofNat 0, .ofNat 0))]), .inl (0, [.inr (.inl 5), .inr (.inl 11), .inr (.inl 17), .inr (.inl 20), .inr (.inl 23), .inl (.ofNat 0, .ofNat 0), .inr (.inl 25), .inr (.inl 34), .inr (.inl 43), .inr (.inl 44), .inr (.inl 46), .inr (.inl 48), .inr (.inl 52), .inr (.inl 56), .inr (.inl 60), .inr (.inl 70), .inr (.inl 76), .inr (.inl 84), .inr (.inl 85)]), .inr (0, (422, 422), [((0, 23), .inl (.ofNat 0, .ofNat 0)), ((24, 47), .inl (.ofNat 0, .ofNat 0)), ((48, 71), .inl (.ofNat 0, .ofNat 0)), ((72, 95), .inl (.ofNat 0, .ofNat 0)), ((96, 119), .inl (.ofNat 0, .ofNat 0)), ((120, 125), .inl (.ofNat 0, .ofNat 0)), ((126, 126), .inl (.ofNat 0, .ofNat 0)), ((127, 127), .inl (.ofNat 0, .ofNat 0)), ((128, 128), .inl (.ofNat 0, .ofNat 0)), ((129, 129), .inl (.ofNat 0, .ofNat 0)), ((130, 130), .inl (.ofNat 0, .ofNat 0)), ((131, 131), .inl (.ofNat 0, .ofNat 4)), ((132, 132), .inl (.ofNat 0, .ofNat 3)), ((133, 133), .inl (.ofNat 0, .ofNat 1)), ((134, 421), .inl (.ofNat 0, .ofNat 0)), ((0, 421), .inl (.ofNat 0, .ofNat 4))]), .inr (0, (422, 422), [((0, 23), .inl (.ofNat 0, .ofNat 0)), ((24, 47), .inl (.ofNat 0, .ofNat 0)), ((48, 71), .inl (.ofNat 0, .ofNat 0)), ((72, 95), .inl (.ofNat 0, .ofNat 0)), ((96, 119), .inl (.ofNat 0, .ofNat 0)), ((120, 125), .inl (.ofNat 0, .ofNat 0)), ((126, 126), .inl (.ofNat 0, .ofNat 0)), ((127, 127), .inl (.ofNat 0, .ofNat 0)), ((128, 128), .inl (.ofNat 0, .ofNat 0)), ((129, 129), .inl (.ofNat 0, .ofNat 0)), ((130, 130), .inl (.ofNat 0, .ofNat 0)), ((131, 131), .inl (.ofNat 0, .ofNat 0)), ((132, 132), .inl (.ofNat 0, .ofNat 0)), ((133, 133), .inl (.ofNat 0, .ofNat 0)), ((134, 421), .inl (.ofNat 0, .ofNat 0)), ((0, 421), .inl (.ofNat 0, .ofNat 0))]), .inr (0, (422, 422), [((0, 23), .inl (.ofNat 0, .ofNat 0)), ((24, 47), .inl (.ofNat 0, .ofNat 0)), ((48, 71), .inl (.ofNat 0, .ofNat 0)), ((72, 95), .inl (.ofNat 0, .ofNat 0)), ((96, 119), .inl (.ofNat 0, .ofNat 0)), ((120, 125), .inl (.ofNat 0, .ofNat 0)), ((126, 126), .inl (.ofNat 0, .ofNat 0)), ((127, 127), .inl (.ofNat 0, .ofNat 0)), ((128, 128), .inl (.ofNat 0, .ofNat 0)), ((129, 129), .inl (.ofNat 0, .ofNat 0)), ((130, 130), .inl (.ofNat 0, .ofNat 0)), ((131, 131), .inl (.ofNat 0, .ofNat 0)), ((132, 132), .inl (.ofNat 0, .ofNat 0)), ((133, 133), .inl (.ofNat 0, .ofNat 0)), ((134, 421), .inl (.ofNat 0, .ofNat 0)), ((0, 421), .inl (.ofNat 0, .ofNat 0))]), .inr (1, (220, 220), [((0, 219), .inl (.ofNat 0, .ofNat 0))]), .inr (0, (220, 220), [((0, 219), .inl (.ofNat 0, .ofNat 0))]), .inr (0, (220, 220), [((0, 219), .inl (.ofNat 0, .ofNat 0))]), .inr (0, (14, 14), [((0, 13), .inl (.ofNat 0, .ofNat 0))]), .inr (0, (14, 14), [((0, 13), .inl (.ofNat 0, .ofNat 0))]), .inr (0, (14, 14), [((0, 13), .inl (.ofNat 0, .ofNat 0))]), .inr (0, (14, 14), [((0, 13), .inl (.ofNat 0, .ofNat 0))]), .inr (0, (220, 220), [((0, 219), .inl (.ofNat 0, .ofNat 0))]), .inr (0, (14, 14), [((0, 13), .inl (.ofNat 0, .ofNat 0))]), .inr (0, (14, 14), [((0, 13), .inl (.ofNat 0, .ofNat 0))]), .inr (0, (14, 14), [((0, 13), .inl (.ofNat 0, .ofNat 0))]), .inr (0, (14, 14), [((0, 13), .inl (.ofNat 0, .ofNat 0))]), .inr (0, (220, 220), [((0, 219), .inl (.ofNat 0, .ofNat 0))]), .inr (0, (13, 13), [((0, 12), .inl (.ofNat 0, .ofNat 23))]), .inr (0, (24, 24), [((0, 23), .inl (.ofNat 0, .ofNat 0))]), .inr (0, (12, 12), [((0, 11), .inl (.ofNat 0, .ofNat 0))]), .inr (0, (12, 12), [((0, 11), .inl (.ofNat 0, .ofNat 0))]), .inr (0, (12, 12), [((0, 11), .inl (.ofNat 0, .ofNat 0))]), .inr (0, (12, 12), [((0, 11), .inl (.ofNat 0, .ofNat 0))]), .inr (0, (8, 8), [((0, 7), .inl (.ofNat 0, .ofNat 0))]), .inr (0, (8, 8), [((0, 7), .inl (.ofNat 0, .ofNat 0))]), .inr (0, (8, 8), [((0, 7), .inl (.ofNat 0, .ofNat 0))]), .inr (0, (6912, 6912), [((0, 6911), .inl (.ofNat 0, .ofNat 0))]), .inr (0, (288, 288), [((0, 287), .inl (.ofNat 0, .ofNat 0))]), .inr (0, (24, 24), [((0, 23), .inl (.ofNat 0, .ofNat 0))]), .inr (0, (12, 12), [((0, 11), .inl (.ofNat 0, .ofNat 0))]), .inr (0, (8, 8), [((0, 7), .inl (.ofNat 0, .ofNat 0))]), .inr (0, (28, 28), [((0, 27), .inl (.ofNat 0, .ofNat 0))]), .inr (0, (24, 24), [((0, 23), .inl (.ofNat 0, .ofNat 0))]), .inr (0, (24, 24), [((0, 23), .inl (.ofNat 0, .ofNat 0))]), .inr (0, (25000, 25000), [((0, 24999), .inl (.ofNat 0, .ofNat 0))]), .inr (0, (288, 288), [((0, 287), .inl (.ofNat 0, .ofNat 0))]), .inr (0, (288, 288), [((0, 287), .inl (.ofNat 0, .ofNat 0))]), .inr (0, (288, 288), [((0, 287), .inl (.ofNat 0, .ofNat 0))]), .inr (0, (24, 24), [((0, 23), .inl (.ofNat 0, .ofNat 0))]), .inr (0, (12, 12), [((0, 11), .inl (.ofNat 0, .ofNat 0))]), .inr (0, (12, 12), [((0, 11), .inl (.ofNat 0, .ofNat 0))]), .inr (0, (288, 288), [((0, 287), .inl (.ofNat 0, .ofNat 0))]), .inl (12, [.inr (.inl 87), .inr (.inl 88), .inr (.inl 89), .inr (.inl 90), .inl (.ofNat 0, .ofNat 0), .inl (.ofNat 0, .ofNat 0), .inl (.ofNat 0, .ofNat 0), .inl (.ofNat 0, .ofNat 0), .inl (.ofNat 0, .ofNat 0), .inl (.ofNat 0, .ofNat 0), .inl (.ofNat 0, .ofNat 0), .inl (.ofNat 0, .ofNat 0), .inl (.ofNat 0, .ofNat 0), .inl (.ofNat 0, .ofNat 0), .inr (.inl 91), .inr (.inl 92), .inr (.inl 93), .inr (.inl 94), .inr (.inl 95), .inr (.inl 96), .inr (.inl 97), .inr (.inl 98), .inr (.inl 99), .inr (.inl 100), .inr (.inl 101), .inr (.inl 102), .inr (.inl 103), .inl (.ofNat 0, .ofNat 0), .inr (.inl 104), .inl (.ofNat 0, .ofNat 0), .inl (.ofNat 0, .ofNat 0), .inl (.ofNat 0, .ofNat 0), .inl (.ofNat 0, .ofNat 0), .inl (.ofNat 0, .ofNat 0), .inr (.inl 105), .inr (.inl 106), .inr (.inl 107), .inr (.inl 108), .inr (.inl 109), .inr (.inl 110), .inr (.inl 111), .inl (.ofNat 0, .ofNat 0), .inr (.inl 112), .inr (.inl 113), .inr (.inl 114), .inr (.inl 115), .inr (.inl 116), .inr (.inl 117), .inl (.ofNat 0, .ofNat 0), .inr (.inl 118), .inr (.inl 119), .inr (.inl 120), .inr (.inl 121), .inr (.inl 122), .inr (.inl 123), .inl (.ofNat 0, .ofNat 0), .inl (.ofNat 0, .ofNat 0), .inl (.ofNat 0, .ofNat 0), .inl (.ofNat 0, .ofNat 0), .inr (.inl 124), .inr (.inl 125), .inr (.inl 126), .inr (.inl 127), .inl (.ofNat 0, .ofNat 0)]), .inl (0, [.inr (.inl 130), .inr (.inl 136), .inr (.inl 130), .inr (.inl 142), .inr (.inl 145), .inl (.ofNat 0, .ofNat 1), .inr (.inl 148), .inr (.inl 150), .inr (.inl 159), .inr (.inl 168), .inr (.inl 169), .inr (.inl 171), .inr (.inl 173), .inr (.inl 177), .inr (.inl 181), .inr (.inl 185), .inr (.inl 195), .inr (.inl 201), .inr (.inl 209)]), .inl (1, [.inl (.ofNat 0, .ofNat 0), .inr (.inl 131), .inr (.inl 132), .inr (.inl 133), .inr (.inl 134), .inr (.inl 135), .inl (.ofNat 0, .ofNat 0), .inl (.negSucc 2147483647, .ofNat 2147483647), .inl (.ofNat 0, .ofNat 0), .inl (.ofNat 4, .ofNat 4), .inl (.ofNat 3, .ofNat 3), .inl (.ofNat 1, .ofNat 1)]), .inr (0, (24, 24), [((0, 23), .inl (.ofNat 0, .ofNat 0))]), .inr (0, (24, 24), [((0, 23), .inl (.ofNat 0, .ofNat 0))]), .inr (0, (24, 24), [((0, 23), .inl (.ofNat 0, .ofNat 0))]), .inr (0, (24, 24), [((0, 23), .inl (.ofNat 0, .ofNat 0))]), .inr (0, (24, 24), [((0, 23), .inl (.ofNat 0, .ofNat 0))]), .inl (1, [.inl (.ofNat 0, .ofNat 0), .inr (.inl 137), .inr (.inl 138), .inr (.inl 139), .inr (.inl 140), .inr (.inl 141), .inl (.ofNat 0, .ofNat 0), .inl (.ofNat 0, .ofNat 0), .inl (.ofNat 0, .ofNat 0), .inl (.ofNat 4, .ofNat 4), .inl (.ofNat 3, .ofNat 3), .inl (.ofNat 1, .ofNat 1)]), .inr (0, (24, 24), [((0, 23), .inl (.ofNat 0, .ofNat 0))]), .inr (0, (24, 24), [((0, 23), .inl (.ofNat 0, .ofNat 0))]), .inr (0, (24, 24), [((0, 23), .inl (.ofNat 0, .ofNat 0))]), .inr (0, (24, 24), [((0, 23), .inl (.ofNat 0, .ofNat 0))]), .inr (0, (24, 24), [((0, 23), .inl (.ofNat 0, .ofNat 0))]), .inl (2, [.inr (.inl 143), .inl (.ofNat 0, .ofNat 0), .inr (.inl 144)]), .inr (0, (12, 12), [((0, 11), .inl (.ofNat 0, .ofNat 0))]), .inr (0, (6, 6), [((0, 5), .inl (.ofNat 0, .ofNat 0))]), .inl (2, [.inr (.inl 146), .inl (.ofNat 0, .ofNat 0), .inr (.inl 147)]), .inr (0, (12, 12), [((0, 11), .inl (.ofNat 0, .ofNat 0))]), .inr (0, (6, 6), [((0, 5), .inl (.ofNat 0, .ofNat 0))]), .inl (3, [.inr (.inl 149), .inl (.ofNat 0, .ofNat 0)]), .inr (0, (220, 220), [((0, 219), .inl (.ofNat 0, .ofNat 0))]), .inl (4, [.inr (.inl 151), .inr (.inl 152), .inl (.ofNat 0, .ofNat 0), .inr (.inl 153), .inr (.inl 154), .inr (.inl 155), .inr (.inl 156), .inl (.ofNat 0, .ofNat 0), .inl (.ofNat 0, .ofNat 0), .inl (.ofNat 0, .ofNat 0), .inl (.ofNat 0, .ofNat 0), .inl (.ofNat 0, .ofNat 0), .inr (.inl 157), .inr (.inl 158), .inl (.ofNat 0, .ofNat 0)]), .inr (0, (200, 200), [((0, 199), .inl (.ofNat 0, .ofNat 0))]), .inr (0, (200, 200), [((0, 199), .inl (.ofNat 0, .ofNat 0))]), .inr (0, (14, 14), [((0, 13), .inl (.ofNat 0, .ofNat 0))]), .inr (0, (14, 14), [((0, 13), .inl (.ofNat 0, .ofNat 0))]), .inr (0, (14, 14), [((0, 13), .inl (.ofNat 0, .ofNat 0))]), .inr (0, (14, 14), [((0, 13), .inl (.ofNat 0, .ofNat 0))]), .inr (0, (13, 13), [((0, 12), .inl (.negSucc 2147483647, .ofNat 2147483647))]), .inr (0, (40, 40), [((0, 39), .inl (.ofNat 0, .ofNat 0))]), .inl (4, [.inr (.inl 160), .inr (.inl 161), .inl (.ofNat 0, .ofNat 0), .inr (.inl 162), .inr (.inl 163), .inr (.inl 164), .inr (.inl 165), .inl (.ofNat 0, .ofNat 0), .inl (.ofNat 0, .ofNat 0), .inl (.ofNat 0, .ofNat 0), .inl (.ofNat 0, .ofNat 0), .inl (.ofNat 0, .ofNat 0), .inr (.inl 166), .inr (.inl 167), .inl (.ofNat 0, .ofNat 0)]), .inr (0, (200, 200), [((0, 199), .inl (.ofNat 0, .ofNat 0))]), .inr (0, (200, 200), [((0, 199), .inl (.ofNat 0, .ofNat 0))]), .inr (0, (14, 14), [((0, 13), .inl (.ofNat 0, .ofNat 0))]), .inr (0, (14, 14), [((0, 13), .inl (.ofNat 0, .ofNat 0))]), .inr (0, (14, 14), [((0, 13), .inl (.ofNat 0, .ofNat 0))]), .inr (0, (14, 14), [((0, 13), .inl (.ofNat 0, .ofNat 0))]), .inr (0, (13, 13), [((0, 12), .inl (.ofNat 0, .ofNat 0))]), .inr (0, (40, 40), [((0, 39), .inl (.ofNat 0, .ofNat 0))]), .inl (5, [.inr (.inl 149), .inl (.ofNat 0, .ofNat 0), .inl (.ofNat 0, .ofNat 0), .inl (.ofNat 0, .ofNat 0), .inr (.inl 159)]), .inl (6, [.inl (.ofNat 0, .ofNat 0), .inl (.ofNat 0, .ofNat 0), .inr (.inl 170)]), .inr (0, (8, 8), [((0, 7), .inl (.ofNat 0, .ofNat 0))]), .inl (6, [.inl (.ofNat 0, .ofNat 0), .inl (.ofNat 0, .ofNat 0), .inr (.inl 172)]), .inr (0, (8, 8), [((0, 7), .inl (.ofNat 0, .ofNat 0))]), .inl (7, [.inr (.inl 130), .inr (.inl 150), .inl (.ofNat 0, .ofNat 23), .inl (.ofNat 0, .ofNat 11), .inl (.ofNat 0, .ofNat 0), .inr (.inl 174), .inl (.ofNat 0, .ofNat 0), .inl (.ofNat 0, .ofNat 0), .inr (.inl 175), .inr (.inl 176)]), .inr (0, (24, 24), [((0, 23), .inl (.ofNat 0, .ofNat 0))]), .inr (0, (24, 24), [((0, 23), .inl (.ofNat 0, .ofNat 0))]), .inr (0, (24, 24), [((0, 23), .inl (.ofNat 0, .ofNat 0))]), .inl (7, [.inr (.inl 130), .inr (.inl 150), .inl (.ofNat 0, .ofNat 23), .inl (.ofNat 0, .ofNat 11), .inl (.ofNat 0, .ofNat 0), .inr (.inl 178), .inl (.ofNat 0, .ofNat 0), .inl (.ofNat 0, .ofNat 0), .inr (.inl 179), .inr (.inl 180)]), .inr (0, (24, 24), [((0, 23), .inl (.ofNat 0, .ofNat 0))]), .inr (0, (24, 24), [((0, 23), .inl (.ofNat 0, .ofNat 0))]), .inr (0, (24, 24), [((0, 23), .inl (.ofNat 0, .ofNat 0))]), .inl (8, [.inr (.inl 182), .inr (.inl 183), .inr (.inl 184), .inr (.inl 169), .inr (.inl 174), .inl (.negSucc 0, .negSucc 0), .inl (.ofNat 0, .ofNat 0)]), .inr (0, (72, 72), [((0, 71), .inl (.ofNat 0, .ofNat 0))]), .inr (0, (24, 24), [((0, 23), .inl (.ofNat 0, .ofNat 0))]), .inr (0, (8, 8), [((0, 7), .inl (.ofNat 0, .ofNat 0))]), .inl (9, [.inl (.ofNat 0, .ofNat 0), .inl (.negSucc 0, .negSucc 0), .inl (.ofNat 0, .ofNat 0), .inl (.negSucc 0, .negSucc 0), .inr (.inl 186), .inr (.inl 187), .inr (.inl 188), .inr (.inl 189), .inr (.inl 190), .inl (.ofNat 0, .ofNat 0), .inl (.negSucc 0, .negSucc 0), .inr (.inl 191), .inr (.inl 192), .inr (.inl 193), .inr (.inl 194)]), .inr (0, (24, 24), [((0, 23), .inl (.ofNat 0, .ofNat 0))]), .inr (0, (264, 264), [((0, 263), .inl (.ofNat 0, .ofNat 0))]), .inr (0, (264, 264), [((0, 263), .inl (.ofNat 0, .ofNat 0))]), .inr (0, (264, 264), [((0, 263), .inl (.ofNat 0, .ofNat 0))]), .inr (0, (264, 264), [((0, 263), .inl (.ofNat 0, .ofNat 0))]), .inr (0, (288, 288), [((0, 287), .inl (.ofNat 0, .ofNat 0))]), .inr (0, (288, 288), [((0, 287), .inl (.ofNat 0, .ofNat 0))]), .inr (0, (288, 288), [((0, 287), .inl (.ofNat 0, .ofNat 0))]), .inr (0, (288, 288), [((0, 287), .inl (.ofNat 0, .ofNat 0))]), .inl (10, [.inr (.inl 196), .inr (.inl 197), .inr (.inl 198), .inl (.ofNat 0, .ofNat 0), .inr (.inl 199), .inr (.inl 200), .inr (.inl 130)]), .inr (0, (288, 288), [((0, 287), .inl (.ofNat 0, .ofNat 0))]), .inr (2, (288, 288), [((0, 287), .inr (.inr 0))]), .inr (0, (12, 12), [((0, 11), .inl (.ofNat 0, .ofNat 0))]), .inr (0, (24, 24), [((0, 23), .inl (.ofNat 0, .ofNat 0))]), .inr (0, (24, 24), [((0, 23), .inl (.ofNat 0, .ofNat 0))]), .inl (11, [.inr (.inl 202), .inr (.inl 203), .inr (.inl 204), .inr (.inl 205), .inr (.inl 206), .inr (.inl 207), .inr (.inl 208)]), .inr (0, (8, 8), [((0, 7), .inl (.ofNat 0, .ofNat 0))]), .inr (0, (24, 24), [((0, 23), .inl (.ofNat 0, .ofNat 0))]), .inr (0, (24, 24), [((0, 23), .inl (.ofNat 0, .ofNat 0))]), .inr (0, (24, 24), [((0, 23), .inl (.ofNat 0, .ofNat 0))]), .inr (0, (24, 24), [((0, 23), .inl (.ofNat 0, .ofNat 0))]), .inr (0, (1000, 1000), [((0, 999), .inl (.ofNat 0, .ofNat 0))]), .inr (0, (1000, 1000), [((0, 999), .inl (.ofNat 0, .ofNat 0))]), .inr (0, (288, 288), [((0, 287), .inl (.ofNat 0, .ofNat 0))]), .inl (12, [.inr (.inl 211), .inr (.inl 212), .inr (.inl 213), .inr (.inl 214), .inl (.ofNat 0, .ofNat 0), .inl (.ofNat 0, .ofNat 0), .inl (.ofNat 0, .ofNat 0), .inl (.ofNat 0, .ofNat 0), .inl (.ofNat 0, .ofNat 0), .inl (.ofNat 0, .ofNat 0), .inl (.ofNat 0, .ofNat 0), .inl (.ofNat 0, .ofNat 0), .inl (.ofNat 0, .ofNat 0), .inl (.ofNat 0, .ofNat 0), .inr (.inl 215), .inr (.inl 216), .inr (.inl 217), .inr (.inl 218), .inr (.inl 219), .inr (.inl 220), .inr (.inl 221), .inr (.inl 222), .inr (.inl 223), .inr (.inl 224), .inr (.inl 225), .inr (.inl 226), .inr (.inl 227), .inl (.ofNat 0, .ofNat 0), .inr (.inl 228), .inl (.ofNat 0, .ofNat 0), .inl (.ofNat 0, .ofNat 0), .inl (.ofNat 0, .ofNat 0), .inl (.ofNat 0, .ofNat 0), .inl (.ofNat 0, .ofNat 0), .inr (.inl 229), .inr (.inl 230), .inr (.inl 231), .inr (.inl 232), .inr (.inl 233), .inr (.inl 234), .inr (.inl 235), .inl (.ofNat 0, .ofNat 0), .inr (.inl 236), .inr (.inl 237), .inr (.inl 238), .inr (.inl 239), .inr (.inl 240), .inr (.inl 241), .inl (.ofNat 0, .ofNat 0), .inr (.inl 242), .inr (.inl 243), .inr (.inl 244), .inr (.inl 245), .inr (.inl 246), .inr (.inl 247), .inl (.ofNat 0, .ofNat 0), .inl (.ofNat 0, .ofNat 0), .inl (.ofNat 0, .ofNat 0), .inl (.ofNat 0, .ofNat 0), .inr (.inl 248), .inr (.inl 249), .inr (.inl 250), .inr (.inl 251), .inl (.ofNat 0, .ofNat 1)]), .inr (0, (422, 422), [((0, 23), .inl (.ofNat 0, .ofNat 0)), ((24, 47), .inl (.ofNat 0, .ofNat 0)), ((48, 71), .inl (.ofNat 0, .ofNat 0)), ((72, 95), .inl (.ofNat 0, .ofNat 0)), ((96, 119), .inl (.ofNat 0, .ofNat 0)), ((120, 125), .inl (.ofNat 0, .ofNat 0)), ((126, 126), .inl (.ofNat 0, .ofNat 0)), ((127, 127), .inl (.ofNat 0, .ofNat 0)), ((128, 128), .inl (.ofNat 0, .ofNat 0)), ((129, 129), .inl (.negSucc 2147483647, .ofNat 2147483647)), ((130, 130), .inl (.ofNat 0, .ofNat 0)), ((131, 131), .inl (.ofNat 0, .ofNat 4)), ((132, 132), .inl (.ofNat 0, .ofNat 3)), ((133, 133), .inl (.ofNat 0, .ofNat 1)), ((134, 421), .inl (.ofNat 0, .ofNat 0)), ((0, 421), .inl (.negSucc 2147483647, .ofNat 2147483647))]), .inr (0, (422, 422), [((0, 23), .inl (.ofNat 0, .ofNat 0)), ((24, 47), .inl (.ofNat 0, .ofNat 0)), ((48, 71), .inl (.ofNat 0, .ofNat 0)), ((72, 95), .inl (.ofNat 0, .ofNat 0)), ((96, 119), .inl (.ofNat 0, .ofNat 0)), ((120, 125), .inl (.ofNat 0, .ofNat 0)), ((126, 126), .inl (.ofNat 0, .ofNat 0)), ((127, 127), .inl (.ofNat 0, .ofNat 0)), ((128, 128), .inl (.ofNat 0, .ofNat 0)), ((129, 129), .inl (.negSucc 2147483647, .ofNat 2147483647)), ((130, 130), .inl (.ofNat 0, .ofNat 0)), ((131, 131), .inl (.ofNat 0, .ofNat 4)), ((132, 132), .inl (.ofNat 0, .ofNat 3)), ((133, 133), .inl (.ofNat 0, .ofNat 1)), ((134, 421), .inl (.ofNat 0, .ofNat 0)), ((0, 421), .inl (.negSucc 2147483647, .ofNat 2147483647))]), .inr (0, (422, 422), [((0, 23), .inl (.ofNat 0, .ofNat 0)), ((24, 47), .inl (.ofNat 0, .ofNat 0)), ((48, 71), .inl (.ofNat 0, .ofNat 0)), ((72, 95), .inl (.ofNat 0, .ofNat 0)), ((96, 119), .inl (.ofNat 0, .ofNat 0)), ((120, 125), .inl (.ofNat 0, .ofNat 0)), ((126, 126), .inl (.ofNat 0, .ofNat 0)), ((127, 127), .inl (.ofNat 0, .ofNat 0)), ((128, 128), .inl (.ofNat 0, .ofNat 0)), ((129, 129), .inl (.negSucc 2147483647, .ofNat 2147483647)), ((130, 130), .inl (.ofNat 0, .ofNat 0)), ((131, 131), .inl (.ofNat 0, .ofNat 4)), ((132, 132), .inl (.ofNat 0, .ofNat 3)), ((133, 133), .inl (.ofNat 0, .ofNat 1)), ((134, 421), .inl (.ofNat 0, .ofNat 0)), ((0, 421), .inl (.negSucc 2147483647, .ofNat 2147483647))]), .inr (1, (220, 220), [((0, 219), .inl (.ofNat 0, .ofNat 0))]), .inr (0, (220, 220), [((0, 219), .inl (.ofNat 0, .ofNat 0))]), .inr (0, (220, 220), [((0, 219), .inl (.ofNat 0, .ofNat 0))]), .inr (0, (14, 14), [((0, 13), .inl (.ofNat 0, .ofNat 0))]), .inr (0, (14, 14), [((0, 13), .inl (.ofNat 0, .ofNat 0))]), .inr (0, (14, 14), [((0, 13), .inl (.ofNat 0, .ofNat 0))]), .inr (0, (14, 14), [((0, 13), .inl (.ofNat 0, .ofNat 0))]), .inr (0, (220, 220), [((0, 219), .inl (.ofNat 0, .ofNat 0))]), .inr (0, (14, 14), [((0, 13), .inl (.ofNat 0, .ofNat 0))]), .inr (0, (14, 14), [((0, 13), .inl (.ofNat 0, .ofNat 0))]), .inr (0, (14, 14), [((0, 13), .inl (.ofNat 0, .ofNat 0))]), .inr (0, (14, 14), [((0, 13), .inl (.ofNat 0, .ofNat 0))]), .inr (0, (220, 220), [((0, 219), .inl (.ofNat 0, .ofNat 0))]), .inr (0, (13, 13), [((0, 12), .inl (.ofNat 0, .ofNat 23))]), .inr (0, (24, 24), [((0, 23), .inl (.ofNat 0, .ofNat 0))]), .inr (0, (12, 12), [((0, 11), .inl (.ofNat 0, .ofNat 0))]), .inr (0, (12, 12), [((0, 11), .inl (.ofNat 0, .ofNat 0))]), .inr (0, (12, 12), [((0, 11), .inl (.ofNat 0, .ofNat 0))]), .inr (0, (12, 12), [((0, 11), .inl (.ofNat 0, .ofNat 0))]), .inr (0, (8, 8), [((0, 7), .inl (.ofNat 0, .ofNat 0))]), .inr (0, (8, 8), [((0, 7), .inl (.ofNat 0, .ofNat 0))]), .inr (0, (8, 8), [((0, 7), .inl (.ofNat 0, .ofNat 0))]), .inr (0, (6912, 6912), [((0, 6911), .inl (.ofNat 0, .ofNat 0))]), .inr (0, (288, 288), [((0, 287), .inl (.ofNat 0, .ofNat 0))]), .inr (0, (24, 24), [((0, 23), .inl (.ofNat 0, .ofNat 0))]), .inr (0, (12, 12), [((0, 11), .inl (.ofNat 0, .ofNat 0))]), .inr (0, (8, 8), [((0, 7), .inl (.ofNat 0, .ofNat 0))]), .inr (0, (28, 28), [((0, 27), .inl (.ofNat 0, .ofNat 0))]), .inr (0, (24, 24), [((0, 23), .inl (.ofNat 0, .ofNat 0))]), .inr (0, (24, 24), [((0, 23), .inl (.ofNat 0, .ofNat 0))]), .inr (0, (25000, 25000), [((0, 24999), .inl (.ofNat 0, .ofNat 0))]), .inr (0, (288, 288), [((0, 287), .inl (.ofNat 0, .ofNat 0))]), .inr (0, (288, 288), [((0, 287), .inl (.ofNat 0, .ofNat 0))]), .inr (0, (288, 288), [((0, 287), .inl (.ofNat 0, .ofNat 0))]), .inr (0, (24, 24), [((0, 23), .inl (.ofNat 0, .ofNat 0))]), .inr (0, (12, 12), [((0, 11), .inl (.ofNat 0, .ofNat 0))]), .inr (0, (12, 12), [((0, 11), .inl (.ofNat 0, .ofNat 0))]), .inr (0, (288, 288), [((0, 287), .inl (.ofNat 0, .ofNat 0))]), .inl (0, [.inr (.inl 253), .inr (.inl 259), .inr (.inl 265), .inr (.inl 271), .inr (.inl 274), .inl (.ofNat 0, .ofNat 0), .inr (.inl 277), .inr (.inl 279), .inr (.inl 288), .inr (.inl 297), .inr (.inl 298), .inr (.inl 300), .inr (.inl 302), .inr (.inl 306), .inr (.inl 310), .inr (.inl 314), .inr (.inl 324), .inr (.inl 330), .inr (.inl 338)]), .inl (1, [.inl (.ofNat 0, .ofNat 16777215), .inr (.inl 254), .inr (.inl 255), .inr (.inl 256), .inr (.inl 257), .inr (.inl 258), .inl (.ofNat 0, .ofNat 24), .inl (.ofNat 0, .ofNat 11), .inl (.ofNat 0, .ofNat 16777215), .inl (.ofNat 0, .ofNat 11), .inl (.ofNat 0, .ofNat 11), .inl (.ofNat 0, .ofNat 65535)]), .inr (0, (24, 24), [((0, 23), .inl (.ofNat 0, .ofNat 23))]), .inr (0, (24, 24), [((0, 23), .inl (.ofNat 0, .ofNat 11))]), .inr (0, (24, 24), [((0, 23), .inl (.ofNat 0, .ofNat 9))]), .inr (0, (24, 24), [((0, 23), .inl (.ofNat 0, .ofNat 0))]), .inr (0, (24, 24), [((0, 23), .inl (.ofNat 0, .ofNat 0))]), .inl (1, [.inl (.ofNat 0, .ofNat 0), .inr (.inl 260), .inr (.inl 261), .inr (.inl 262), .inr (.inl 263), .inr (.inl 264), .inl (.ofNat 0, .ofNat 0), .inl (.ofNat 0, .ofNat 0), .inl (.ofNat 0, .ofNat 0), .inl (.ofNat 4, .ofNat 4), .inl (.ofNat 3, .ofNat 3), .inl (.ofNat 1, .ofNat 1)]), .inr (0, (24, 24), [((0, 23), .inl (.ofNat 0, .ofNat 0))]), .inr (0, (24, 24), [((0, 23), .inl (.ofNat 0, .ofNat 0))]), .inr (0, (24, 24), [((0, 23), .inl (.ofNat 0, .ofNat 0))]), .inr (0, (24, 24), [((0, 23), .inl (.ofNat 0, .ofNat 0))]), .inr (0, (24, 24), [((0, 23), .inl (.ofNat 0, .ofNat 0))]), .inl (1, [.inl (.ofNat 0, .ofNat 0), .inr (.inl 266), .inr (.inl 267), .inr (.inl 268), .inr (.inl 269), .inr (.inl 270), .inl (.ofNat 0, .ofNat 0), .inl (.ofNat 0, .ofNat 0), .inl (.ofNat 0, .ofNat 0), .inl (.ofNat 4, .ofNat 4), .inl (.ofNat 3, .ofNat 3), .inl (.ofNat 1, .ofNat 1)]), .inr (0, (24, 24), [((0, 23), .inl (.ofNat 0, .ofNat 0))]), .inr (0, (24, 24), [((0, 23), .inl (.ofNat 0, .ofNat 0))]), .inr (0, (24, 24), [((0, 23), .inl (.ofNat 0, .ofNat 0))]), .inr (0, (24, 24), [((0, 23), .inl (.ofNat 0, .ofNat 0))]), .inr (0, (24, 24), [((0, 23), .inl (.ofNat 0, .ofNat 0))]), .inl (2, [.inr (.inl 272), .inl (.ofNat 0, .ofNat 63), .inr (.inl 273)]), .inr (0, (12, 12), [((0, 11), .inl (.ofNat 0, .ofNat 16777215))]), .inr (0, (6, 6), [((0, 5), .inl (.ofNat 0, .ofNat 287))]), .inl (2, [.inr (.inl 275), .inl (.ofNat 0, .ofNat 0), .inr (.inl 276)]), .inr (0, (12, 12), [((0, 11), .inl (.ofNat 0, .ofNat 0))]), .inr (0, (6, 6), [((0, 5), .inl (.ofNat 0, .ofNat 0))]), .inl (3, [.inr (.inl 278), .inl (.ofNat 0, .ofNat 204)]), .inr (0, (220, 220), [((0, 219), .inl (.ofNat 0, .ofNat 255))]), .inl (4, [.inr (.inl 280), .inr (.inl 281), .inl (.ofNat 0, .ofNat 0), .inr (.inl 282), .inr (.inl 283), .inr (.inl 284), .inr (.inl 285), .inl (.ofNat 0, .ofNat 0), .inl (.ofNat 0, .ofNat 0), .inl (.ofNat 0, .ofNat 0), .inl (.ofNat 0, .ofNat 0), .inl (.ofNat 0, .ofNat 0), .inr (.inl 286), .inr (.inl 287), .inl (.ofNat 0, .ofNat 0)]), .inr (0, (200, 200), [((0, 199), .inl (.ofNat 0, .ofNat 0))]), .inr (0, (200, 200), [((0, 199), .inl (.ofNat 0, .ofNat 0))]), .inr (0, (14, 14), [((0, 13), .inl (.ofNat 0, .ofNat 0))]), .inr (0, (14, 14), [((0, 13), .inl (.ofNat 0, .ofNat 0))]), .inr (0, (14, 14), [((0, 13), .inl (.ofNat 0, .ofNat 0))]), .inr (0, (14, 14), [((0, 13), .inl (.ofNat 0, .ofNat 0))]), .inr (0, (13, 13), [((0, 12), .inl (.ofNat 0, .ofNat 23))]), .inr (0, (40, 40), [((0, 39), .inl (.ofNat 0, .ofNat 0))]), .inl (4, [.inr (.inl 289), .inr (.inl 290), .inl (.ofNat 0, .ofNat 0), .inr (.inl 291), .inr (.inl 292), .inr (.inl 293), .inr (.inl 294), .inl (.ofNat 0, .ofNat 0), .inl (.ofNat 0, .ofNat 0), .inl (.ofNat 0, .ofNat 0), .inl (.ofNat 0, .ofNat 0), .inl (.ofNat 0, .ofNat 0), .inr (.inl 295), .inr (.inl 296), .inl (.ofNat 0, .ofNat 0)]), .inr (0, (200, 200), [((0, 199), .inl (.ofNat 0, .ofNat 0))]), .inr (0, (200, 200), [((0, 199), .inl (.ofNat 0, .ofNat 0))]), .inr (0, (14, 14), [((0, 13), .inl (.ofNat 0, .ofNat 0))]), .inr (0, (14, 14), [((0, 13), .inl (.ofNat 0, .ofNat 0))]), .inr (0, (14, 14), [((0, 13), .inl (.ofNat 0, .ofNat 0))]), .inr (0, (14, 14), [((0, 13), .inl (.ofNat 0, .ofNat 0))]), .inr (0, (13, 13), [((0, 12), .inl (.ofNat 0, .ofNat 0))]), .inr (0, (40, 40), [((0, 39), .inl (.ofNat 0, .ofNat 0))]), .inl (5, [.inr (.inl 278), .inl (.ofNat 0, .ofNat 0), .inl (.ofNat 0, .ofNat 0), .inl (.ofNat 0, .ofNat 0), .inr (.inl 288)]), .inl (6, [.inl (.ofNat 0, .ofNat 0), .inl (.ofNat 0, .ofNat 0), .inr (.inl 299)]), .inr (0, (8, 8), [((0, 7), .inl (.ofNat 0, .ofNat 0))]), .inl (6, [.inl (.ofNat 0, .ofNat 0), .inl (.ofNat 0, .ofNat 0), .inr (.inl 301)]), .inr (0, (8, 8), [((0, 7), .inl (.ofNat 0, .ofNat 0))]), .inl (7, [.inr (.inl 253), .inr (.inl 279), .inl (.ofNat 0, .ofNat 23), .inl (.ofNat 0, .ofNat 11), .inl (.ofNat 0, .ofNat 0), .inr (.inl 303), .inl (.ofNat 0, .ofNat 0), .inl (.ofNat 0, .ofNat 0), .inr (.inl 304), .inr (.inl 305)]), .inr (0, (24, 24), [((0, 23), .inl (.ofNat 0, .ofNat 0))]), .inr (0, (24, 24), [((0, 23), .inl (.ofNat 0, .ofNat 0))]), .inr (0, (24, 24), [((0, 23), .inl (.ofNat 0, .ofNat 0))]), .inl (7, [.inr (.inl 253), .inr (.inl 279), .inl (.ofNat 0, .ofNat 23), .inl (.ofNat 0, .ofNat 11), .inl (.ofNat 0, .ofNat 0), .inr (.inl 307), .inl (.ofNat 0, .ofNat 0), .inl (.ofNat 0, .ofNat 0), .inr (.inl 308), .inr (.inl 309)]), .inr (0, (24, 24), [((0, 23), .inl (.ofNat 0, .ofNat 0))]), .inr (0, (24, 24), [((0, 23), .inl (.ofNat 0, .ofNat 0))]), .inr (0, (24, 24), [((0, 23), .inl (.ofNat 0, .ofNat 0))]), .inl (8, [.inr (.inl 311), .inr (.inl 312), .inr (.inl 313), .inr (.inl 298), .inr (.inl 303), .inl (.negSucc 0, .negSucc 0), .inl (.ofNat 0, .ofNat 0)]), .inr (0, (72, 72), [((0, 71), .inl (.ofNat 0, .ofNat 0))]), .inr (0, (24, 24), [((0, 23), .inl (.ofNat 0, .ofNat 0))]), .inr (0, (8, 8), [((0, 7), .inl (.ofNat 0, .ofNat 0))]), .inl (9, [.inl (.ofNat 0, .ofNat 0), .inl (.negSucc 0, .negSucc 0), .inl (.ofNat 0, .ofNat 0), .inl (.negSucc 0, .negSucc 0), .inr (.inl 315), .inr (.inl 316), .inr (.inl 317), .inr (.inl 318), .inr (.inl 319), .inl (.ofNat 0, .ofNat 0), .inl (.negSucc 0, .negSucc 0), .inr (.inl 320), .inr (.inl 321), .inr (.inl 322), .inr (.inl 323)]), .inr (0, (24, 24), [((0, 23), .inl (.ofNat 0, .ofNat 0))]), .inr (0, (264, 264), [((0, 263), .inl (.ofNat 0, .ofNat 0))]), .inr (0, (264, 264), [((0, 263), .inl (.ofNat 0, .ofNat 0))]), .inr (0, (264, 264), [((0, 263), .inl (.ofNat 0, .ofNat 0))]), .inr (0, (264, 264), [((0, 263), .inl (.ofNat 0, .ofNat 0))]), .inr (0, (288, 288), [((0, 287), .inl (.ofNat 0, .ofNat 0))]), .inr (0, (288, 288), [((0, 287), .inl (.ofNat 0, .ofNat 0))]), .inr (0, (288, 288), [((0, 287), .inl (.ofNat 0, .ofNat 0))]), .inr (0, (288, 288), [((0, 287), .inl (.ofNat 0, .ofNat 0))]), .inl (10, [.inr (.inl 325), .inr (.inl 326), .inr (.inl 327), .inl (.ofNat 0, .ofNat 0), .inr (.inl 328), .inr (.inl 329), .inr (.inl 253)]), .inr (0, (288, 288), [((0, 287), .inl (.ofNat 0, .ofNat 0))]), .inr (2, (288, 288), [((0, 287), .inr (.inr 0))]), .inr (0, (12, 12), [((0, 11), .inl (.ofNat 0, .ofNat 0))]), .inr (0, (24, 24), [((0, 23), .inl (.ofNat 0, .ofNat 0))]), .inr (0, (24, 24), [((0, 23), .inl (.ofNat 0, .ofNat 0))]), .inl (11, [.inr (.inl 331), .inr (.inl 332), .inr (.inl 333), .inr (.inl 334), .inr (.inl 335), .inr (.inl 336), .inr (.inl 337)]), .inr (0, (8, 8), [((0, 7), .inl (.ofNat 0, .ofNat 0))]), .inr (0, (24, 24), [((0, 23), .inl (.ofNat 0, .ofNat 0))]), .inr (0, (24, 24), [((0, 23), .inl (.ofNat 0, .ofNat 0))]), .inr (0, (24, 24), [((0, 23), .inl (.ofNat 0, .ofNat 0))]), .inr (0, (24, 24), [((0, 23), .inl (.ofNat 0, .ofNat 0))]), .inr (0, (1000, 1000), [((0, 999), .inl (.ofNat 0, .ofNat 0))]), .inr (0, (1000, 1000), [((0, 999), .inl (.ofNat 0, .ofNat 0))]), .inr (0, (288, 288), [((0, 287), .inl (.ofNat 0, .ofNat 0))]), .inl (12, [.inr (.inl 340), .inr (.inl 341), .inr (.inl 342), .inr (.inl 343), .inl (.ofNat 0, .ofNat 204), .inl (.ofNat 0, .ofNat 0), .inl (.ofNat 0, .ofNat 0), .inl (.ofNat 0, .ofNat 0), .inl (.ofNat 0, .ofNat 0), .inl (.ofNat 0, .ofNat 0), .inl (.ofNat 0, .ofNat 0), .inl (.ofNat 0, .ofNat 0), .inl (.ofNat 0, .ofNat 0), .inl (.ofNat 0, .ofNat 0), .inr (.inl 344), .inr (.inl 345), .inr (.inl 346), .inr (.inl 347), .inr (.inl 348), .inr (.inl 349), .inr (.inl 350), .inr (.inl 351), .inr (.inl 352), .inr (.inl 353), .inr (.inl 354), .inr (.inl 355), .inr (.inl 356), .inl (.ofNat 0, .ofNat 0), .inr (.inl 357), .inl (.ofNat 0, .ofNat 0), .inl (.ofNat 0, .ofNat 0), .inl (.ofNat 0, .ofNat 0), .inl (.ofNat 0, .ofNat 0), .inl (.ofNat 0, .ofNat 0), .inr (.inl 358), .inr (.inl 359), .inr (.inl 360), .inr (.inl 361), .inr (.inl 362), .inr (.inl 363), .inr (.inl 364), .inl (.ofNat 0, .ofNat 0), .inr (.inl 365), .inr (.inl 366), .inr (.inl 367), .inr (.inl 368), .inr (.inl 369), .inr (.inl 370), .inl (.ofNat 0, .ofNat 0), .inr (.inl 371), .inr (.inl 372), .inr (.inl 373), .inr (.inl 374), .inr (.inl 375), .inr (.inl 376), .inl (.ofNat 0, .ofNat 0), .inl (.ofNat 0, .ofNat 0), .inl (.ofNat 0, .ofNat 0), .inl (.ofNat 0, .ofNat 0), .inr (.inl 377), .inr (.inl 378), .inr (.inl 379), .inr (.inl 380), .inl (.ofNat 0, .ofNat 0)]), .inr (0, (422, 422), [((0, 23), .inl (.ofNat 0, .ofNat 23)), ((24, 47), .inl (.ofNat 0, .ofNat 11)), ((48, 71), .inl (.ofNat 0, .ofNat 9)), ((72, 95), .inl (.ofNat 0, .ofNat 0)), ((96, 119), .inl (.ofNat 0, .ofNat 0)), ((120, 125), .inl (.ofNat 0, .ofNat 287)), ((126, 126), .inl (.ofNat 0, .ofNat 16777215)), ((127, 127), .inl (.ofNat 0, .ofNat 63)), ((128, 128), .inl (.ofNat 0, .ofNat 24)), ((129, 129), .inl (.ofNat 0, .ofNat 11)), ((130, 130), .inl (.ofNat 0, .ofNat 16777215)), ((131, 131), .inl (.ofNat 0, .ofNat 11)), ((132, 132), .inl (.ofNat 0, .ofNat 11)), ((133, 133), .inl (.ofNat 0, .ofNat 65535)), ((134, 421), .inl (.ofNat 0, .ofNat 1)), ((0, 421), .inl (.ofNat 0, .ofNat 16777215))]), .inr (0, (422, 422), [((0, 23), .inl (.ofNat 0, .ofNat 0)), ((24, 47), .inl (.ofNat 0, .ofNat 0)), ((48, 71), .inl (.ofNat 0, .ofNat 0)), ((72, 95), .inl (.ofNat 0, .ofNat 0)), ((96, 119), .inl (.ofNat 0, .ofNat 0)), ((120, 125), .inl (.ofNat 0, .ofNat 0)), ((126, 126), .inl (.ofNat 0, .ofNat 0)), ((127, 127), .inl (.ofNat 0, .ofNat 0)), ((128, 128), .inl (.ofNat 0, .ofNat 0)), ((129, 129), .inl (.ofNat 0, .ofNat 0)), ((130, 130), .inl (.ofNat 0, .ofNat 0)), ((131, 131), .inl (.ofNat 0, .ofNat 0)), ((132, 132), .inl (.ofNat 0, .ofNat 0)), ((133, 133), .inl (.ofNat 0, .ofNat 0)), ((134, 421), .inl (.ofNat 0, .ofNat 0)), ((0, 421), .inl (.ofNat 0, .ofNat 0))]), .inr (0, (422, 422), [((0, 23), .inl (.ofNat 0, .ofNat 0)), ((24, 47), .inl (.ofNat 0, .ofNat 0)), ((48, 71), .inl (.ofNat 0, .ofNat 0)), ((72, 95), .inl (.ofNat 0, .ofNat 0)), ((96, 119), .inl (.ofNat 0, .ofNat 0)), ((120, 125), .inl (.ofNat 0, .ofNat 0)), ((126, 126), .inl (.ofNat 0, .ofNat 0)), ((127, 127), .inl (.ofNat 0, .ofNat 0)), ((128, 128), .inl (.ofNat 0, .ofNat 0)), ((129, 129), .inl (.ofNat 0, .ofNat 0)), ((130, 130), .inl (.ofNat 0, .ofNat 0)), ((131, 131), .inl (.ofNat 0, .ofNat 0)), ((132, 132), .inl (.ofNat 0, .ofNat 0)), ((133, 133), .inl (.ofNat 0, .ofNat 0)), ((134, 421), .inl (.ofNat 0, .ofNat 0)), ((0, 421), .inl (.ofNat 0, .ofNat 0))]), .inr (1, (220, 220), [((0, 219), .inl (.negSucc 127, .ofNat 127))]), .inr (0, (220, 220), [((0, 219), .inl (.ofNat 0, .ofNat 0))]), .inr (0, (220, 220), [((0, 219), .inl (.ofNat 0, .ofNat 0))]), .inr (0, (14, 14), [((0, 13), .inl (.ofNat 0, .ofNat 0))]), .inr (0, (14, 14), [((0, 13), .inl (.ofNat 0, .ofNat 0))]), .inr (0, (14, 14), [((0, 13), .inl (.ofNat 0, .ofNat 0))]), .inr (0, (14, 14), [((0, 13), .inl (.ofNat 0, .ofNat 0))]), .inr (0, (220, 220), [((0, 219), .inl (.ofNat 0, .ofNat 0))]), .inr (0, (14, 14), [((0, 13), .inl (.ofNat 0, .ofNat 0))]), .inr (0, (14, 14), [((0, 13), .inl (.ofNat 0, .ofNat 0))]), .inr (0, (14, 14), [((0, 13), .inl (.ofNat 0, .ofNat 0))]), .inr (0, (14, 14), [((0, 13), .inl (.ofNat 0, .ofNat 0))]), .inr (0, (220, 220), [((0, 219), .inl (.ofNat 0, .ofNat 0))]), .inr (0, (13, 13), [((0, 12), .inl (.ofNat 0, .ofNat 23))]), .inr (0, (24, 24), [((0, 23), .inl (.ofNat 0, .ofNat 0))]), .inr (0, (12, 12), [((0, 11), .inl (.ofNat 0, .ofNat 0))]), .inr (0, (12, 12), [((0, 11), .inl (.ofNat 0, .ofNat 0))]), .inr (0, (12, 12), [((0, 11), .inl (.ofNat 0, .ofNat 0))]), .inr (0, (12, 12), [((0, 11), .inl (.ofNat 0, .ofNat 0))]), .inr (0, (8, 8), [((0, 7), .inl (.ofNat 0, .ofNat 0))]), .inr (0, (8, 8), [((0, 7), .inl (.ofNat 0, .ofNat 0))]), .inr (0, (8, 8), [((0, 7), .inl (.ofNat 0, .ofNat 0))]), .inr (0, (6912, 6912), [((0, 6911), .inl (.ofNat 0, .ofNat 0))]), .inr (0, (288, 288), [((0, 287), .inl (.ofNat 0, .ofNat 0))]), .inr (0, (24, 24), [((0, 23), .inl (.ofNat 0, .ofNat 0))]), .inr (0, (12, 12), [((0, 11), .inl (.ofNat 0, .ofNat 0))]), .inr (0, (8, 8), [((0, 7), .inl (.ofNat 0, .ofNat 0))]), .inr (0, (28, 28), [((0, 27), .inl (.ofNat 0, .ofNat 0))]), .inr (0, (24, 24), [((0, 23), .inl (.ofNat 0, .ofNat 0))]), .inr (0, (24, 24), [((0, 23), .inl (.ofNat 0, .ofNat 0))]), .inr (0, (25000, 25000), [((0, 24999), .inl (.ofNat 0, .ofNat 0))]), .inr (0, (288, 288), [((0, 287), .inl (.ofNat 0, .ofNat 0))]), .inr (0, (288, 288), [((0, 287), .inl (.ofNat 0, .ofNat 0))]), .inr (0, (288, 288), [((0, 287), .inl (.ofNat 0, .ofNat 0))]), .inr (0, (24, 24), [((0, 23), .inl (.ofNat 0, .ofNat 0))]), .inr (0, (12, 12), [((0, 11), .inl (.ofNat 0, .ofNat 0))]), .inr (0, (12, 12), [((0, 11), .inl (.ofNat 0, .ofNat 0))]), .inr (0, (288, 288), [((0, 287), .inl (.ofNat 0, .ofNat 0))])]
def z_PH : List (List Nat) := [[254, 255, 256, 257, 258, 253, 260, 261, 262, 263, 264, 259, 266, 267, 268, 269, 270, 265, 272, 273, 271, 275, 276, 274, 278, 277, 280, 281, 282, 283, 284, 285, 286, 287, 279, 289, 290, 291, 292, 293, 294, 295, 296, 288, 297, 299, 298, 301, 300, 303, 304, 305, 302, 307, 308, 309, 306, 311, 312, 313, 310, 315, 316, 317, 318, 319, 320, 321, 322, 323, 314, 325, 326, 327, 328, 329, 324, 331, 332, 333, 334, 335, 336, 337, 330, 338, 252, 87, 88, 89, 90, 91, 92, 93, 94, 95, 96, 97, 98, 99, 100, 101, 102, 103, 104, 105, 106, 107, 108, 109, 110, 111, 112, 113, 114, 115, 116, 117, 118, 119, 120, 121, 122, 123, 124, 125, 126, 127, 128, 129, 130, 131, 132, 133, 134, 135, 136, 137, 138, 139, 140, 141, 142, 143, 144, 145, 146, 147, 148, 149, 150, 151, 152, 153, 154, 155, 156, 157, 158, 159, 160, 161, 162, 163, 164, 165, 166, 167, 168, 169, 170, 171, 172, 173, 174, 175, 176, 177, 178, 179, 180, 181, 182, 183, 184, 185, 186, 187, 188, 189, 190, 191, 192, 193, 194, 195, 196, 197, 198, 199, 200, 201, 202, 203, 204, 205, 206, 207, 208, 209, 210, 211, 212, 213, 214, 215, 216, 217, 218, 219, 220, 221, 222, 223, 224, 225, 226, 227, 228, 229, 230, 231, 232, 233, 234, 235, 236, 237, 238, 239, 240, 241, 242, 243, 244, 245, 246, 247, 248, 249, 250, 251, 252, 253, 254, 255, 256, 257, 258, 259, 260, 261, 262, 263, 264, 265, 266, 267, 268, 269, 270, 271, 272, 273, 274, 275, 276, 277, 278, 279, 280, 281, 282, 283, 284, 285, 286, 287, 288, 289, 290, 291, 292, 293, 294, 295, 296, 297, 298, 299, 300, 301, 302, 303, 304, 305, 306, 307, 308, 309, 310, 311, 312, 313, 314, 315, 316, 317, 318, 319, 320, 321, 322, 323, 324, 325, 326, 327, 328, 329, 330, 331, 332, 333, 334, 335, 336, 337, 338, 339, 340, 341, 342, 343, 344, 345, 346, 347, 348, 349, 350, 351, 352, 353, 354, 355, 356, 357, 358, 359, 360, 361, 362, 363, 364, 365, 366, 367, 368, 369, 370, 371, 372, 373, 374, 375, 376, 377, 378, 379, 380], [0, 1, 2, 3, 4, 5, 6, 7, 8, 9, 10, 11, 12, 13, 14, 15, 16, 17, 18, 19, 20, 21, 22, 23, 24, 25, 26, 27, 28, 29, 30, 31, 32, 33, 34, 35, 36, 37, 38, 39, 40, 41, 42, 43, 44, 45, 46, 47, 48, 49, 50, 51, 52, 53, 54, 55, 56, 57, 58, 59, 60, 61, 62, 63, 64, 65, 66, 67, 68, 69, 70, 71, 72, 73, 74, 75, 76, 77, 78, 79, 80, 81, 82, 83, 84, 85, 86, 340, 341, 342, 343, 344, 345, 346, 347, 348, 349, 350, 351, 352, 353, 354, 355, 356, 357, 358, 359, 360, 361, 362, 363, 364, 365, 366, 367, 368, 369, 370, 371, 372, 373, 374, 375, 376, 377, 378, 379, 380, 339, 129, 130, 131, 132, 133, 134, 135, 136, 137, 138, 139, 140, 141, 142, 143, 144, 145, 146, 147, 148, 149, 150, 151, 152, 153, 154, 155, 156, 157, 158, 159, 160, 161, 162, 163, 164, 165, 166, 167, 168, 169, 170, 171, 172, 173, 174, 175, 176, 177, 178, 179, 180, 181, 182, 183, 184, 185, 186, 187, 188, 189, 190, 191, 192, 193, 194, 195, 196, 197, 198, 199, 200, 201, 202, 203, 204, 205, 206, 207, 208, 209, 210, 211, 212, 213, 214, 215, 216, 217, 218, 219, 220, 221, 222, 223, 224, 225, 226, 227, 228, 229, 230, 231, 232, 233, 234, 235, 236, 237, 238, 239, 240, 241, 242, 243, 244, 245, 246, 247, 248, 249, 250, 251, 252, 253, 254, 255, 256, 257, 258, 259, 260, 261, 262, 263, 264, 265, 266, 267, 268, 269, 270, 271, 272, 273, 274, 275, 276, 277, 278, 279, 280, 281, 282, 283, 284, 285, 286, 287, 288, 289, 290, 291, 292, 293, 294, 295, 296, 297, 298, 299, 300, 301, 302, 303, 304, 305, 306, 307, 308, 309, 310, 311, 312, 313, 314, 315, 316, 317, 318, 319, 320, 321, 322, 323, 324, 325, 326, 327, 328, 329, 330, 331, 332, 333, 334, 335, 336, 337, 338, 339, 340, 341, 342, 343, 344, 345, 346, 347, 348, 349, 350, 351, 352, 353, 354, 355, 356, 357, 358, 359, 360, 361, 362, 363, 364, 365, 366, 367, 368, 369, 370, 371, 372, 373, 374, 375, 376, 377, 378, 379, 380], [131, 132, 133, 134, 135, 130, 137, 138, 139, 140, 141, 136, 131, 132, 133, 134, 135, 130, 143, 144, 142, 146, 147, 145, 149, 148, 151, 152, 153, 154, 155, 156, 157, 158, 150, 160, 161, 162, 163, 164, 165, 166, 167, 159, 168, 170, 169, 172, 171, 174, 175, 176, 173, 178, 179, 180, 177, 182, 183, 184, 181, 186, 187, 188, 189, 190, 191, 192, 193, 194, 185, 196, 197, 198, 199, 200, 195, 202, 203, 204, 205, 206, 207, 208, 201, 209, 129, 87, 88, 89, 90, 91, 92, 93, 94, 95, 96, 97, 98, 99, 100, 101, 102, 103, 104, 105, 106, 107, 108, 109, 110, 111, 112, 113, 114, 115, 116, 117, 118, 119, 120, 121, 122, 123, 124, 125, 126, 127, 128, 129, 130, 131, 132, 133, 134, 135, 136, 137, 138, 139, 140, 141, 142, 143, 144, 145, 146, 147, 148, 149, 150, 151, 152, 153, 154, 155, 156, 157, 158, 159, 160, 161, 162, 163, 164, 165, 166, 167, 168, 169, 170, 171, 172, 173, 174, 175, 176, 177, 178, 179, 180, 181, 182, 183, 184, 185, 186, 187, 188, 189, 190, 191, 192, 193, 194, 195, 196, 197, 198, 199, 200, 201, 202, 203, 204, 205, 206, 207, 208, 209, 210, 211, 212, 213, 214, 215, 216, 217, 218, 219, 220, 221, 222, 223, 224, 225, 226, 227, 228, 229, 230, 231, 232, 233, 234, 235, 236, 237, 238, 239, 240, 241, 242, 243, 244, 245, 246, 247, 248, 249, 250, 251, 252, 253, 254, 255, 256, 257, 258, 259, 260, 261, 262, 263, 264, 265, 266, 267, 268, 269, 270, 271, 272, 273, 274, 275, 276, 277, 278, 279, 280, 281, 282, 283, 284, 285, 286, 287, 288, 289, 290, 291, 292, 293, 294, 295, 296, 297, 298, 299, 300, 301, 302, 303, 304, 305, 306, 307, 308, 309, 310, 311, 312, 313, 314, 315, 316, 317, 318, 319, 320, 321, 322, 323, 324, 325, 326, 327, 328, 329, 330, 331, 332, 333, 334, 335, 336, 337, 338, 339, 340, 341, 342, 343, 344, 345, 346, 347, 348, 349, 350, 351, 352, 353, 354, 355, 356, 357, 358, 359, 360, 361, 362, 363, 364, 365, 366, 367, 368, 369, 370, 371, 372, 373, 374, 375, 376, 377, 378, 379, 380], [0, 1, 2, 3, 4, 5, 6, 7, 8, 9, 10, 11, 12, 13, 14, 15, 16, 17, 18, 19, 20, 21, 22, 23, 24, 25, 26, 27, 28, 29, 30, 31, 32, 33, 34, 35, 36, 37, 38, 39, 40, 41, 42, 43, 44, 45, 46, 47, 48, 49, 50, 51, 52, 53, 54, 55, 56, 57, 58, 59, 60, 61, 62, 63, 64, 65, 66, 67, 68, 69, 70, 71, 72, 73, 74, 75, 76, 77, 78, 79, 80, 81, 82, 83, 84, 85, 86, 87, 88, 89, 90, 91, 92, 93, 94, 95, 96, 97, 98, 99, 100, 101, 102, 103, 104, 105, 106, 107, 108, 109, 110, 111, 112, 113, 114, 115, 116, 117, 118, 119, 120, 121, 122, 123, 124, 125, 126, 127, 128, 129, 130, 131, 132, 133, 134, 135, 136, 137, 138, 139, 140, 141, 142, 143, 144, 145, 146, 147, 148, 149, 150, 151, 152, 153, 154, 155, 156, 157, 158, 159, 160, 161, 162, 163, 164, 165, 166, 167, 168, 169, 170, 171, 172, 173, 174, 175, 176, 177, 178, 179, 180, 181, 182, 183, 184, 185, 186, 187, 188, 189, 190, 191, 192, 193, 194, 195, 196, 197, 198, 199, 200, 201, 202, 203, 204, 205, 206, 207, 208, 209, 210, 211, 212, 213, 214, 215, 216, 217, 218, 219, 220, 221, 222, 223, 224, 225, 226, 227, 228, 229, 230, 231, 232, 233, 234, 235, 236, 237, 238, 239, 240, 241, 242, 243, 244, 245, 246, 247, 248, 249, 250, 251, 252, 253, 254, 255, 256, 257, 258, 259, 260, 261, 262, 263, 264, 265, 266, 267, 268, 269, 270, 271, 272, 273, 274, 275, 276, 277, 278, 279, 280, 281, 282, 283, 284, 285, 286, 287, 288, 289, 290, 291, 292, 293, 294, 295, 296, 297, 298, 299, 300, 301, 302, 303, 304, 305, 306, 307, 308, 309, 310, 311, 312, 313, 314, 315, 316, 317, 318, 319, 320, 321, 322, 323, 324, 325, 326, 327, 328, 329, 330, 331, 332, 333, 334, 335, 336, 337, 338, 339, 340, 341, 342, 343, 344, 345, 346, 347, 348, 349, 350, 351, 352, 353, 354, 355, 356, 357, 358, 359, 360, 361, 362, 363, 364, 365, 366, 367, 368, 369, 370, 371, 372, 373, 374, 375, 376, 377, 378, 379, 380], [0, 1, 2, 3, 4, 5, 6, 7, 8, 9, 10, 11, 12, 13, 14, 15, 16, 17, 18, 19, 20, 21, 22, 23, 24, 25, 26, 27, 28, 29, 30, 31, 32, 33, 34, 35, 36, 37, 38, 39, 40, 41, 42, 43, 44, 45, 46, 47, 48, 49, 50, 51, 52, 53, 54, 55, 56, 57, 58, 59, 60, 61, 62, 63, 64, 65, 66, 67, 68, 69, 70, 71, 72, 73, 74, 75, 76, 77, 78, 79, 80, 81, 82, 83, 84, 85, 86, 87, 88, 89, 90, 91, 92, 93, 94, 95, 96, 97, 98, 99, 100, 101, 102, 103, 104, 105, 106, 107, 108, 109, 110, 111, 112, 113, 114, 115, 116, 117, 118, 119, 120, 121, 122, 123, 124, 125, 126, 127, 128, 129, 130, 131, 132, 133, 134, 135, 136, 137, 138, 139, 140, 141, 142, 143, 144, 145, 146, 147, 148, 149, 150, 151, 152, 153, 154, 155, 156, 157, 158, 159, 160, 161, 162, 163, 164, 165, 166, 167, 168, 169, 170, 171, 172, 173, 174, 175, 176, 177, 178, 179, 180, 181, 182, 183, 184, 185, 186, 187, 188, 189, 190, 191, 192, 193, 194, 195, 196, 197, 198, 199, 200, 201, 202, 203, 204, 205, 206, 207, 208, 209, 210, 211, 212, 213, 214, 215, 216, 217, 218, 219, 220, 221, 222, 223, 224, 225, 226, 227, 228, 229, 230, 231, 232, 233, 234, 235, 236, 237, 238, 239, 240, 241, 242, 243, 244, 245, 246, 247, 248, 249, 250, 251, 252, 253, 254, 255, 256, 257, 258, 259, 260, 261, 262, 263, 264, 265, 266, 267, 268, 269, 270, 271, 272, 273, 274, 275, 276, 277, 278, 279, 280, 281, 282, 283, 284, 285, 286, 287, 288, 289, 290, 291, 292, 293, 294, 295, 296, 297, 298, 299, 300, 301, 302, 303, 304, 305, 306, 307, 308, 309, 310, 311, 312, 313, 314, 315, 316, 317, 318, 319, 320, 321, 322, 323, 324, 325, 326, 327, 328, 329, 330, 331, 332, 333, 334, 335, 336, 337, 338, 339, 340, 341, 342, 343, 344, 345, 346, 347, 348, 349, 350, 351, 352, 353, 354, 355, 356, 357, 358, 359, 360, 361, 362, 363, 364, 365, 366, 367, 368, 369, 370, 371, 372, 373, 374, 375, 376, 377, 378, 379, 380], [0, 1, 2, 3, 4, 5, 6, 7, 8, 9, 10, 11, 12, 13, 14, 15, 16, 17, 18, 19, 20, 21, 22, 23, 24, 25, 26, 27, 28, 29, 30, 31, 32, 33, 34, 35, 36, 37, 38, 39, 40, 41, 42, 43, 44, 45, 46, 47, 48, 49, 50, 51, 52, 53, 54, 55, 56, 57, 58, 59, 60, 61, 62, 63, 64, 65, 66, 67, 68, 69, 70, 71, 72, 73, 74, 75, 76, 77, 78, 79, 80, 81, 82, 83, 84, 85, 86, 211, 212, 213, 214, 215, 216, 217, 218, 219, 220, 221, 222, 223, 224, 225, 226, 227, 228, 229, 230, 231, 232, 233, 234, 235, 236, 237, 238, 239, 240, 241, 242, 243, 244, 245, 246, 247, 248, 249, 250, 251, 210, 129, 130, 131, 132, 133, 134, 135, 136, 137, 138, 139, 140, 141, 142, 143, 144, 145, 146, 147, 148, 149, 150, 151, 152, 153, 154, 155, 156, 157, 158, 159, 160, 161, 162, 163, 164, 165, 166, 167, 168, 169, 170, 171, 172, 173, 174, 175, 176, 177, 178, 179, 180, 181, 182, 183, 184, 185, 186, 187, 188, 189, 190, 191, 192, 193, 194, 195, 196, 197, 198, 199, 200, 201, 202, 203, 204, 205, 206, 207, 208, 209, 210, 211, 212, 213, 214, 215, 216, 217, 218, 219, 220, 221, 222, 223, 224, 225, 226, 227, 228, 229, 230, 231, 232, 233, 234, 235, 236, 237, 238, 239, 240, 241, 242, 243, 244, 245, 246, 247, 248, 249, 250, 251, 252, 253, 254, 255, 256, 257, 258, 259, 260, 261, 262, 263, 264, 265, 266, 267, 268, 269, 270, 271, 272, 273, 274, 275, 276, 277, 278, 279, 280, 281, 282, 283, 284, 285, 286, 287, 288, 289, 290, 291, 292, 293, 294, 295, 296, 297, 298, 299, 300, 301, 302, 303, 304, 305, 306, 307, 308, 309, 310, 311, 312, 313, 314, 315, 316, 317, 318, 319, 320, 321, 322, 323, 324, 325, 326, 327, 328, 329, 330, 331, 332, 333, 334, 335, 336, 337, 338, 339, 340, 341, 342, 343, 344, 345, 346, 347, 348, 349, 350, 351, 352, 353, 354, 355, 356, 357, 358, 359, 360, 361, 362, 363, 364, 365, 366, 367, 368, 369, 370, 371, 372, 373, 374, 375, 376, 377, 378, 379, 380]]
def z_PS : List Nat := [1, 2, 3, 6]
def zxm0 : zM := (⟨"StarTales", "<init>", "()V"⟩, prog_1_method_1_code, 1, none, 0, 0)
def zxm1 : zM := (⟨"StarTales$Sky", "<init>", "()V"⟩, prog_9_method_1_code, 1, none, 0, 1)
def zxm2 : zM := (⟨"StarTales$Sea", "<init>", "()V"⟩, prog_8_method_1_code, 1, none, 0, 2)
def zxm3 : zM := (⟨"StarTales$Tape", "<init>", "()V"⟩, prog_11_method_1_code, 1, none, 0, 3)
def zxm4 : zM := (⟨"StarTales$Law", "<init>", "()V"⟩, prog_3_method_1_code, 1, none, 0, 4)
def zxm5 : zM := (⟨"StarTales$LawReader", "<init>", "([ILStarTales$Law;)V"⟩, prog_4_method_1_code, 3, none, 2, 5)
def zxm6 : zM := (⟨"StarTales$Tale", "<init>", "()V"⟩, prog_10_method_1_code, 1, none, 0, 6)
def zxm7 : zM := (⟨"StarTales$View", "<init>", "(LStarTales$Sky;LStarTales$Law;)V"⟩, prog_12_method_1_code, 3, none, 2, 7)
def zxm8 : zM := (⟨"StarTales$Matcher", "<init>", "(LStarTales$Tale;[I)V"⟩, prog_5_method_1_code, 3, none, 2, 8)
def zxm9 : zM := (⟨"StarTales$Pilot", "<init>", "()V"⟩, prog_7_method_1_code, 1, none, 0, 9)
def zxm10 : zM := (⟨"StarTales$Patches", "<init>", "(LStarTales$Sky;)V"⟩, prog_6_method_1_code, 2, none, 1, 10)
def zxm11 : zM := (⟨"StarTales$Chooser", "<init>", "()V"⟩, prog_2_method_1_code, 1, none, 0, 11)
def zxm12 : zM := (⟨"StarTales", "star", "(IIII)Z"⟩, prog_1_method_2_code, 5, some .boolean, 4, 0)
def zxm13 : zM := (⟨"StarTales", "isWithin", "(III)Z"⟩, prog_1_method_41_code, 3, some .boolean, 3, 0)
def zxm14 : zM := (⟨"StarTales", "isPlace", "(II)Z"⟩, prog_1_method_42_code, 2, some .boolean, 2, 0)
def zxm15 : zM := (⟨"StarTales", "walk", "(III)Z"⟩, prog_1_method_3_code, 4, some .boolean, 3, 0)
def zxm16 : zM := (⟨"StarTales$Sky", "hasStar", "(I)Z"⟩, prog_9_method_2_code, 2, some .boolean, 1, 1)
def zxm17 : zM := (⟨"StarTales", "gone", "(I)Z"⟩, prog_1_method_4_code, 2, some .boolean, 1, 0)
def zxm18 : zM := (⟨"StarTales", "hour", "(I)Z"⟩, prog_1_method_5_code, 2, some .boolean, 1, 0)
def zxm19 : zM := (⟨"StarTales", "clouds", "(I)Z"⟩, prog_1_method_6_code, 2, some .boolean, 1, 0)
def zxm20 : zM := (⟨"StarTales", "sight", "(II)Z"⟩, prog_1_method_7_code, 3, some .boolean, 2, 0)
def zxm21 : zM := (⟨"StarTales", "land", "(IIZ)Z"⟩, prog_1_method_8_code, 4, some .boolean, 3, 0)
def zxm22 : zM := (⟨"StarTales", "placeOf", "(II)I"⟩, prog_1_method_43_code, 2, some .int, 2, 0)
def zxm23 : zM := (⟨"StarTales$Sea", "hasShipAt", "(I)Z"⟩, prog_8_method_6_code, 3, some .boolean, 1, 2)
def zxm24 : zM := (⟨"StarTales$Sea", "hasShip", "(I)Z"⟩, prog_8_method_5_code, 2, some .boolean, 1, 2)
def zxm25 : zM := (⟨"StarTales$Sea", "setLand", "(IIZ)V"⟩, prog_8_method_3_code, 4, none, 3, 2)
def zxm26 : zM := (⟨"StarTales", "ship", "(III)Z"⟩, prog_1_method_9_code, 4, some .boolean, 3, 0)
def zxm27 : zM := (⟨"StarTales$Sea", "isLand", "(I)Z"⟩, prog_8_method_2_code, 2, some .boolean, 1, 2)
def zxm28 : zM := (⟨"StarTales", "rowOf", "(I)I"⟩, prog_1_method_45_code, 1, some .int, 1, 0)
def zxm29 : zM := (⟨"StarTales", "columnOf", "(I)I"⟩, prog_1_method_44_code, 1, some .int, 1, 0)
def zxm30 : zM := (⟨"StarTales", "feed", "(IIIII)I"⟩, prog_1_method_10_code, 6, some .int, 5, 0)
def zxm31 : zM := (⟨"StarTales$Tape", "addNumber", "(I)V"⟩, prog_11_method_2_code, 3, none, 1, 3)
def zxm32 : zM := (⟨"StarTales", "law", "(I)I"⟩, prog_1_method_11_code, 4, some .int, 1, 0)
def zxm33 : zM := (⟨"StarTales$Tape", "take", "(I)Z"⟩, prog_11_method_3_code, 2, some .boolean, 1, 3)
def zxm34 : zM := (⟨"java/lang/Math", "min", "(II)I"⟩, prog_17_method_69_code, 2, some .int, 2, 0)
def zxm35 : zM := (⟨"java/lang/Math", "max", "(II)I"⟩, prog_17_method_65_code, 2, some .int, 2, 0)
def zxm36 : zM := (⟨"StarTales", "tale", "(I)I"⟩, prog_1_method_12_code, 4, some .int, 1, 0)
def zxm37 : zM := (⟨"java/util/Arrays", "fill", "([II)V"⟩, prog_22_method_103_code, 4, none, 2, 0)
def zxm38 : zM := (⟨"StarTales", "starIs", "(II)I"⟩, prog_1_method_13_code, 3, some .int, 2, 0)
def zxm39 : zM := (⟨"StarTales", "seen", "(II)I"⟩, prog_1_method_14_code, 3, some .int, 2, 0)
def zxm40 : zM := (⟨"StarTales$View", "open", "(LStarTales$Sky;LStarTales$Law;)V"⟩, prog_12_method_2_code, 3, none, 2, 7)
def zxm41 : zM := (⟨"StarTales$View", "look", "(II)V"⟩, prog_12_method_4_code, 4, none, 2, 7)
def zxm42 : zM := (⟨"StarTales$View", "goTo", "(II)V"⟩, prog_12_method_3_code, 3, none, 2, 7)
def zxm43 : zM := (⟨"StarTales$Law", "forgetLetters", "()V"⟩, prog_3_method_7_code, 1, none, 0, 4)
def zxm44 : zM := (⟨"StarTales$Law", "setTime", "(LStarTales$Sky;)V"⟩, prog_3_method_8_code, 2, none, 1, 4)
def zxm45 : zM := (⟨"StarTales$View", "sees", "(I)Z"⟩, prog_12_method_5_code, 6, some .boolean, 1, 7)
def zxm46 : zM := (⟨"StarTales", "line", "(IIII)I"⟩, prog_1_method_15_code, 5, some .int, 4, 0)
def zxm47 : zM := (⟨"StarTales", "lookAndDraw", "(LStarTales$View;II)V"⟩, prog_1_method_49_code, 4, none, 3, 0)
def zxm48 : zM := (⟨"StarTales$View", "draw", "()V"⟩, prog_12_method_6_code, 3, none, 0, 7)
def zxm49 : zM := (⟨"StarTales", "sky", "(III)I"⟩, prog_1_method_16_code, 5, some .int, 3, 0)
def zxm50 : zM := (⟨"StarTales$View", "countLines", "()I"⟩, prog_12_method_10_code, 3, some .int, 0, 7)
def zxm51 : zM := (⟨"java/lang/Integer", "bitCount", "(I)I"⟩, prog_16_method_49_code, 1, some .int, 1, 0)
def zxm52 : zM := (⟨"StarTales$View", "countFigures", "()I"⟩, prog_12_method_12_code, 4, some .int, 0, 7)
def zxm53 : zM := (⟨"StarTales$View", "largestFigure", "()I"⟩, prog_12_method_13_code, 5, some .int, 0, 7)
def zxm54 : zM := (⟨"StarTales$View", "countHolding", "()I"⟩, prog_12_method_14_code, 4, some .int, 0, 7)
def zxm55 : zM := (⟨"StarTales$View", "mostLegged", "()I"⟩, prog_12_method_15_code, 3, some .int, 0, 7)
def zxm56 : zM := (⟨"StarTales$View", "legsOf", "(I)I"⟩, prog_12_method_16_code, 2, some .int, 1, 7)
def zxm57 : zM := (⟨"StarTales", "figure", "(III)I"⟩, prog_1_method_17_code, 4, some .int, 3, 0)
def zxm58 : zM := (⟨"StarTales", "matched", "(III)I"⟩, prog_1_method_18_code, 4, some .int, 3, 0)
def zxm59 : zM := (⟨"StarTales", "where", "(I)I"⟩, prog_1_method_19_code, 4, some .int, 1, 0)
def zxm60 : zM := (⟨"StarTales", "when", "(II)I"⟩, prog_1_method_20_code, 5, some .int, 2, 0)
def zxm61 : zM := (⟨"StarTales$Sky", "copyFrom", "(LStarTales$Sky;)V"⟩, prog_9_method_9_code, 2, none, 1, 1)
def zxm62 : zM := (⟨"StarTales", "alike", "(I)I"⟩, prog_1_method_21_code, 3, some .int, 1, 0)
def zxm63 : zM := (⟨"StarTales$Patches", "lookEverywhere", "(LStarTales$View;)V"⟩, prog_6_method_2_code, 5, none, 1, 10)
def zxm64 : zM := (⟨"StarTales$Patches", "fillParts", "(II[I)I"⟩, prog_6_method_3_code, 8, some .int, 3, 10)
def zxm65 : zM := (⟨"java/lang/Math", "floorMod", "(II)I"⟩, prog_17_method_50_code, 3, some .int, 2, 0)
def zxm66 : zM := (⟨"StarTales$Patches", "countAlike", "()I"⟩, prog_6_method_6_code, 3, some .int, 0, 10)
def zxm67 : zM := (⟨"StarTales$Patches", "alikeTo", "(II)I"⟩, prog_6_method_8_code, 4, some .int, 2, 10)
def zxm68 : zM := (⟨"StarTales$Patches", "firstAlike", "()I"⟩, prog_6_method_7_code, 2, some .int, 0, 10)
def zxm69 : zM := (⟨"StarTales", "known", "(II)I"⟩, prog_1_method_22_code, 5, some .int, 2, 0)
def zxm70 : zM := (⟨"StarTales", "named", "(II)I"⟩, prog_1_method_23_code, 6, some .int, 2, 0)
def zxm71 : zM := (⟨"StarTales", "sold", "(II)I"⟩, prog_1_method_24_code, 4, some .int, 2, 0)
def zxm72 : zM := (⟨"StarTales$Chooser", "weighStars", "(LStarTales$Sky;LStarTales$Law;)V"⟩, prog_2_method_5_code, 4, none, 2, 11)
def zxm73 : zM := (⟨"StarTales$Chooser", "bestSold", "(II)I"⟩, prog_2_method_6_code, 4, some .int, 2, 11)
def zxm74 : zM := (⟨"StarTales$Chooser", "worthOf", "(I)I"⟩, prog_2_method_8_code, 4, some .int, 1, 11)
def zxm75 : zM := (⟨"StarTales$Chooser", "weightOf", "(I)I"⟩, prog_2_method_9_code, 4, some .int, 1, 11)
def zxm76 : zM := (⟨"StarTales", "steered", "(IIIZ)I"⟩, prog_1_method_25_code, 7, some .int, 4, 0)
def zxm77 : zM := (⟨"StarTales$Sky", "passHour", "()V"⟩, prog_9_method_7_code, 1, none, 0, 1)
def zxm78 : zM := (⟨"StarTales$Sky", "beginNight", "()V"⟩, prog_9_method_6_code, 2, none, 0, 1)
def zxm79 : zM := (⟨"StarTales$Sky", "columnNextNight", "(I)I"⟩, prog_9_method_4_code, 2, some .int, 1, 1)
def zxm80 : zM := (⟨"StarTales$Sky", "rowNextNight", "(I)I"⟩, prog_9_method_5_code, 2, some .int, 1, 1)
def zxm81 : zM := (⟨"StarTales", "hours", "(I)I"⟩, prog_1_method_26_code, 3, some .int, 1, 0)
def zxm82 : zM := (⟨"StarTales", "found", "()I"⟩, prog_1_method_27_code, 5, some .int, 0, 0)
def zxm83 : zM := (⟨"StarTales", "meeting", "(III)I"⟩, prog_1_method_28_code, 5, some .int, 3, 0)
def zxm84 : zM := (⟨"StarTales", "fastest", "(IIIII)I"⟩, prog_1_method_29_code, 6, some .int, 5, 0)
def zxm85 : zM := (⟨"StarTales", "canAskVoyage", "(III)Z"⟩, prog_1_method_51_code, 4, some .boolean, 3, 0)
def zxm86 : zM := (⟨"StarTales", "byTwo", "(IIIII)I"⟩, prog_1_method_30_code, 6, some .int, 5, 0)
def zxm87 : zM := (⟨"StarTales", "both", "(III)I"⟩, prog_1_method_31_code, 5, some .int, 3, 0)
def zxm88 : zM := (⟨"StarTales$View", "keepShared", "(LStarTales$View;)V"⟩, prog_12_method_8_code, 3, none, 1, 7)
def zxm89 : zM := (⟨"StarTales", "hidden", "(III)I"⟩, prog_1_method_32_code, 5, some .int, 3, 0)
def zxm90 : zM := (⟨"StarTales", "log", "(II)I"⟩, prog_1_method_33_code, 7, some .int, 2, 0)
def zxm91 : zM := (⟨"StarTales", "over", "(II)I"⟩, prog_1_method_34_code, 5, some .int, 2, 0)
def zxm92 : zM := (⟨"StarTales", "home", "(II)I"⟩, prog_1_method_35_code, 4, some .int, 2, 0)
def zxm93 : zM := (⟨"StarTales$View", "hasLinesOf", "(LStarTales$View;)Z"⟩, prog_12_method_9_code, 3, some .boolean, 1, 7)
def zxm94 : zM := (⟨"StarTales", "seed", "(I)Z"⟩, prog_1_method_36_code, 2, some .boolean, 1, 0)
def zxm95 : zM := (⟨"StarTales", "keep", "()I"⟩, prog_1_method_37_code, 1, some .int, 0, 0)
def zxm96 : zM := (⟨"StarTales$Sea", "copyFrom", "(LStarTales$Sea;)V"⟩, prog_8_method_8_code, 2, none, 1, 2)
def zxm97 : zM := (⟨"StarTales", "undo", "()Z"⟩, prog_1_method_38_code, 1, some .boolean, 0, 0)
def zxm98 : zM := (⟨"StarTales", "check", "(I)I"⟩, prog_1_method_39_code, 4, some .int, 1, 0)
def zxm99 : zM := (⟨"StarTales", "count", "(I)I"⟩, prog_1_method_40_code, 2, some .int, 1, 0)
def zxm100 : zM := (⟨"StarTales$Sea", "countLand", "()I"⟩, prog_8_method_4_code, 3, some .int, 0, 2)
def zxm101 : zM := (⟨"StarTalesModel", "<init>", "()V"⟩, prog_14_method_1_code, 1, none, 0, 12)
def zxm102 : zM := (⟨"StarTalesModel", "star", "(IIII)Z"⟩, prog_14_method_17_code, 5, some .boolean, 4, 12)
def zxm103 : zM := (⟨"StarTalesModel", "in", "(III)Z"⟩, prog_14_method_2_code, 3, some .boolean, 3, 12)
def zxm104 : zM := (⟨"StarTalesModel", "isPlace", "(II)Z"⟩, prog_14_method_10_code, 2, some .boolean, 2, 12)
def zxm105 : zM := (⟨"StarTalesModel", "walk", "(III)Z"⟩, prog_14_method_18_code, 4, some .boolean, 3, 12)
def zxm106 : zM := (⟨"StarTalesModel", "isTold", "(I)Z"⟩, prog_14_method_11_code, 2, some .boolean, 1, 12)
def zxm107 : zM := (⟨"StarTalesModel", "has", "(II)Z"⟩, prog_14_method_5_code, 2, some .boolean, 2, 12)
def zxm108 : zM := (⟨"StarTalesModel", "gone", "(I)Z"⟩, prog_14_method_19_code, 2, some .boolean, 1, 12)
def zxm109 : zM := (⟨"StarTalesModel", "hour", "(I)Z"⟩, prog_14_method_20_code, 2, some .boolean, 1, 12)
def zxm110 : zM := (⟨"StarTalesModel", "clouds", "(I)Z"⟩, prog_14_method_21_code, 2, some .boolean, 1, 12)
def zxm111 : zM := (⟨"StarTalesModel", "sight", "(II)Z"⟩, prog_14_method_22_code, 3, some .boolean, 2, 12)
def zxm112 : zM := (⟨"StarTalesModel", "land", "(IIZ)Z"⟩, prog_14_method_23_code, 5, some .boolean, 3, 12)
def zxm113 : zM := (⟨"StarTalesModel", "isShip", "(I)Z"⟩, prog_14_method_12_code, 2, some .boolean, 1, 12)
def zxm114 : zM := (⟨"StarTalesModel", "ship", "(III)Z"⟩, prog_14_method_24_code, 4, some .boolean, 3, 12)
def zxm115 : zM := (⟨"StarTalesModel", "isLand", "(I)Z"⟩, prog_14_method_13_code, 2, some .boolean, 1, 12)
def zxm116 : zM := (⟨"StarTalesModel", "feed", "(IIIII)I"⟩, prog_14_method_26_code, 6, some .int, 5, 12)
def zxm117 : zM := (⟨"StarTalesModel", "types", "(I)V"⟩, prog_14_method_25_code, 3, none, 1, 12)
def zxm118 : zM := (⟨"StarTalesModel", "law", "(I)I"⟩, prog_14_method_48_code, 4, some .int, 1, 12)
def zxm119 : zM := (⟨"StarTalesModel", "starIs", "(II)I"⟩, prog_14_method_60_code, 3, some .int, 2, 12)
def zxm120 : zM := (⟨"StarTalesModel", "standsAt", "(I)I"⟩, prog_14_method_16_code, 2, some .int, 1, 12)
def zxm121 : zM := (⟨"StarTalesModel", "seen", "(II)I"⟩, prog_14_method_61_code, 3, some .int, 2, 12)
def zxm122 : zM := (⟨"StarTalesModel", "seenFrom", "(I)I"⟩, prog_14_method_57_code, 4, some .int, 1, 12)
def zxm123 : zM := (⟨"StarTalesModel", "feelsStar", "(I)V"⟩, prog_14_method_55_code, 2, none, 1, 12)
def zxm124 : zM := (⟨"StarTalesModel", "feels", "()V"⟩, prog_14_method_54_code, 2, none, 0, 12)
def zxm125 : zM := (⟨"StarTalesModel", "line", "(IIII)I"⟩, prog_14_method_62_code, 5, some .int, 4, 12)
def zxm126 : zM := (⟨"StarTalesModel", "looks", "(I)V"⟩, prog_14_method_59_code, 4, none, 1, 12)
def zxm127 : zM := (⟨"StarTalesModel", "sky", "(III)I"⟩, prog_14_method_68_code, 5, some .int, 3, 12)
def zxm128 : zM := (⟨"StarTalesModel", "laysFigures", "()V"⟩, prog_14_method_64_code, 4, none, 0, 12)
def zxm129 : zM := (⟨"StarTalesModel", "bits", "(I)I"⟩, prog_14_method_6_code, 3, some .int, 1, 12)
def zxm130 : zM := (⟨"StarTalesModel", "mostLegs", "()I"⟩, prog_14_method_67_code, 3, some .int, 0, 12)
def zxm131 : zM := (⟨"StarTalesModel", "lineMany", "()I"⟩, prog_14_method_65_code, 3, some .int, 0, 12)
def zxm132 : zM := (⟨"StarTalesModel", "holding", "()I"⟩, prog_14_method_66_code, 4, some .int, 0, 12)
def zxm133 : zM := (⟨"StarTalesModel", "figure", "(III)I"⟩, prog_14_method_69_code, 4, some .int, 3, 12)
def zxm134 : zM := (⟨"StarTalesModel", "tale", "(I)I"⟩, prog_14_method_73_code, 4, some .int, 1, 12)
def zxm135 : zM := (⟨"StarTalesModel", "matched", "(III)I"⟩, prog_14_method_78_code, 4, some .int, 3, 12)
def zxm136 : zM := (⟨"StarTalesModel", "where", "(I)I"⟩, prog_14_method_79_code, 5, some .int, 1, 12)
def zxm137 : zM := (⟨"StarTalesModel", "when", "(II)I"⟩, prog_14_method_80_code, 6, some .int, 2, 12)
def zxm138 : zM := (⟨"StarTalesModel", "alike", "(I)I"⟩, prog_14_method_87_code, 5, some .int, 1, 12)
def zxm139 : zM := (⟨"StarTalesModel", "laysPatches", "()V"⟩, prog_14_method_84_code, 2, none, 0, 12)
def zxm140 : zM := (⟨"StarTalesModel", "laysPatch", "(I)V"⟩, prog_14_method_83_code, 5, none, 1, 12)
def zxm141 : zM := (⟨"StarTalesModel", "known", "(II)I"⟩, prog_14_method_89_code, 7, some .int, 2, 12)
def zxm142 : zM := (⟨"StarTalesModel", "named", "(II)I"⟩, prog_14_method_93_code, 5, some .int, 2, 12)
def zxm143 : zM := (⟨"StarTalesModel", "sold", "(II)I"⟩, prog_14_method_94_code, 6, some .int, 2, 12)
def zxm144 : zM := (⟨"StarTalesModel", "steered", "(IIIZ)I"⟩, prog_14_method_102_code, 6, some .int, 4, 12)
def zxm145 : zM := (⟨"StarTalesModel", "passes", "()V"⟩, prog_14_method_97_code, 1, none, 0, 12)
def zxm146 : zM := (⟨"StarTalesModel", "walks", "()V"⟩, prog_14_method_96_code, 2, none, 0, 12)
def zxm147 : zM := (⟨"StarTalesModel", "held", "(II)I"⟩, prog_14_method_95_code, 2, some .int, 2, 12)
def zxm148 : zM := (⟨"StarTalesModel", "hours", "(I)I"⟩, prog_14_method_103_code, 3, some .int, 1, 12)
def zxm149 : zM := (⟨"StarTalesModel", "found", "()I"⟩, prog_14_method_104_code, 4, some .int, 0, 12)
def zxm150 : zM := (⟨"StarTalesModel", "begins", "()V"⟩, prog_14_method_8_code, 1, none, 0, 12)
def zxm151 : zM := (⟨"StarTalesModel", "copies", "([I[I)V"⟩, prog_14_method_7_code, 3, none, 2, 12)
def zxm152 : zM := (⟨"StarTalesModel", "again", "()V"⟩, prog_14_method_9_code, 1, none, 0, 12)
def zxm153 : zM := (⟨"StarTalesModel", "meeting", "(III)I"⟩, prog_14_method_107_code, 6, some .int, 3, 12)
def zxm154 : zM := (⟨"StarTalesModel", "fastest", "(IIIII)I"⟩, prog_14_method_109_code, 11, some .int, 5, 12)
def zxm155 : zM := (⟨"StarTalesModel", "byTwo", "(IIIII)I"⟩, prog_14_method_112_code, 7, some .int, 5, 12)
def zxm156 : zM := (⟨"StarTalesModel", "both", "(III)I"⟩, prog_14_method_114_code, 4, some .int, 3, 12)
def zxm157 : zM := (⟨"StarTalesModel", "looksBoth", "(II)V"⟩, prog_14_method_113_code, 5, none, 2, 12)
def zxm158 : zM := (⟨"StarTalesModel", "hidden", "(III)I"⟩, prog_14_method_116_code, 8, some .int, 3, 12)
def zxm159 : zM := (⟨"StarTalesModel", "log", "(II)I"⟩, prog_14_method_118_code, 6, some .int, 2, 12)
def zxm160 : zM := (⟨"StarTalesModel", "over", "(II)I"⟩, prog_14_method_119_code, 5, some .int, 2, 12)
def zxm161 : zM := (⟨"StarTalesModel", "home", "(II)I"⟩, prog_14_method_120_code, 9, some .int, 2, 12)
def zxm162 : zM := (⟨"StarTalesModel", "seed", "(I)Z"⟩, prog_14_method_121_code, 2, some .boolean, 1, 12)
def zxm163 : zM := (⟨"StarTalesModel", "keep", "()I"⟩, prog_14_method_122_code, 1, some .int, 0, 12)
def zxm164 : zM := (⟨"StarTalesModel", "undo", "()Z"⟩, prog_14_method_123_code, 1, some .boolean, 0, 12)
def zxm165 : zM := (⟨"StarTalesModel", "check", "(I)I"⟩, prog_14_method_125_code, 3, some .int, 1, 12)
def zxm166 : zM := (⟨"StarTalesModel", "count", "(I)I"⟩, prog_14_method_127_code, 2, some .int, 1, 12)
def zxm167 : zM := (⟨"StarTalesModel", "landMany", "()I"⟩, prog_14_method_126_code, 3, some .int, 0, 12)
def zxMT0 : List zM := [zxm0, zxm1, zxm2, zxm3, zxm4, zxm5, zxm6, zxm7, zxm8, zxm9, zxm10, zxm11, zxm12, zxm13, zxm14, zxm15, zxm16, zxm17, zxm18, zxm19, zxm20, zxm21, zxm22, zxm23, zxm24, zxm25, zxm26, zxm27, zxm28, zxm29, zxm30, zxm31, zxm32, zxm33, zxm34, zxm35, zxm36, zxm37, zxm38, zxm39, zxm40, zxm41, zxm42, zxm43, zxm44, zxm45, zxm46, zxm47, zxm48, zxm49]
def zxMT1 : List zM := [zxm50, zxm51, zxm52, zxm53, zxm54, zxm55, zxm56, zxm57, zxm58, zxm59, zxm60, zxm61, zxm62, zxm63, zxm64, zxm65, zxm66, zxm67, zxm68, zxm69, zxm70, zxm71, zxm72, zxm73, zxm74, zxm75, zxm76, zxm77, zxm78, zxm79, zxm80, zxm81, zxm82, zxm83, zxm84, zxm85, zxm86, zxm87, zxm88, zxm89, zxm90, zxm91, zxm92, zxm93, zxm94, zxm95, zxm96, zxm97, zxm98, zxm99]
def zxMT2 : List zM := [zxm100, zxm101, zxm102, zxm103, zxm104, zxm105, zxm106, zxm107, zxm108, zxm109, zxm110, zxm111, zxm112, zxm113, zxm114, zxm115, zxm116, zxm117, zxm118, zxm119, zxm120, zxm121, zxm122, zxm123, zxm124, zxm125, zxm126, zxm127, zxm128, zxm129, zxm130, zxm131, zxm132, zxm133, zxm134, zxm135, zxm136, zxm137, zxm138, zxm139, zxm140, zxm141, zxm142, zxm143, zxm144, zxm145, zxm146, zxm147, zxm148, zxm149]
def zxMT3 : List zM := [zxm150, zxm151, zxm152, zxm153, zxm154, zxm155, zxm156, zxm157, zxm158, zxm159, zxm160, zxm161, zxm162, zxm163, zxm164, zxm165, zxm166, zxm167]
def z_MT : List zM := (zxMT0 ++ (zxMT1 ++ (zxMT2 ++ zxMT3)))
abbrev z_TB : List Cond := lw_tbl.filter z_gw
theorem zxin1 : ∀ v ∈ tables_1_1, v ∈ lw_tbl := fun v h => List.mem_append_right _ (show v ∈ (tables_1_1 ++ (tables_1_2 ++ (tables_1_3 ++ (tables_1_4 ++ (tables_1_5 ++ (tables_1_6 ++ (tables_1_7 ++ (tables_1_8 ++ tables_1_9)))))))) from List.mem_append_left _ h)
theorem zxin2 : ∀ v ∈ tables_1_2, v ∈ lw_tbl := fun v h => List.mem_append_right _ (show v ∈ (tables_1_1 ++ (tables_1_2 ++ (tables_1_3 ++ (tables_1_4 ++ (tables_1_5 ++ (tables_1_6 ++ (tables_1_7 ++ (tables_1_8 ++ tables_1_9)))))))) from List.mem_append_right _ (List.mem_append_left _ h))
theorem zxin3 : ∀ v ∈ tables_1_3, v ∈ lw_tbl := fun v h => List.mem_append_right _ (show v ∈ (tables_1_1 ++ (tables_1_2 ++ (tables_1_3 ++ (tables_1_4 ++ (tables_1_5 ++ (tables_1_6 ++ (tables_1_7 ++ (tables_1_8 ++ tables_1_9)))))))) from List.mem_append_right _ (List.mem_append_right _ (List.mem_append_left _ h)))
theorem zxin4 : ∀ v ∈ tables_1_4, v ∈ lw_tbl := fun v h => List.mem_append_right _ (show v ∈ (tables_1_1 ++ (tables_1_2 ++ (tables_1_3 ++ (tables_1_4 ++ (tables_1_5 ++ (tables_1_6 ++ (tables_1_7 ++ (tables_1_8 ++ tables_1_9)))))))) from List.mem_append_right _ (List.mem_append_right _ (List.mem_append_right _ (List.mem_append_left _ h))))
theorem zxin5 : ∀ v ∈ tables_1_5, v ∈ lw_tbl := fun v h => List.mem_append_right _ (show v ∈ (tables_1_1 ++ (tables_1_2 ++ (tables_1_3 ++ (tables_1_4 ++ (tables_1_5 ++ (tables_1_6 ++ (tables_1_7 ++ (tables_1_8 ++ tables_1_9)))))))) from List.mem_append_right _ (List.mem_append_right _ (List.mem_append_right _ (List.mem_append_right _ (List.mem_append_left _ h)))))
theorem zxin6 : ∀ v ∈ tables_1_6, v ∈ lw_tbl := fun v h => List.mem_append_right _ (show v ∈ (tables_1_1 ++ (tables_1_2 ++ (tables_1_3 ++ (tables_1_4 ++ (tables_1_5 ++ (tables_1_6 ++ (tables_1_7 ++ (tables_1_8 ++ tables_1_9)))))))) from List.mem_append_right _ (List.mem_append_right _ (List.mem_append_right _ (List.mem_append_right _ (List.mem_append_right _ (List.mem_append_left _ h))))))
theorem zxin7 : ∀ v ∈ tables_1_7, v ∈ lw_tbl := fun v h => List.mem_append_right _ (show v ∈ (tables_1_1 ++ (tables_1_2 ++ (tables_1_3 ++ (tables_1_4 ++ (tables_1_5 ++ (tables_1_6 ++ (tables_1_7 ++ (tables_1_8 ++ tables_1_9)))))))) from List.mem_append_right _ (List.mem_append_right _ (List.mem_append_right _ (List.mem_append_right _ (List.mem_append_right _ (List.mem_append_right _ (List.mem_append_left _ h)))))))
theorem zxin8 : ∀ v ∈ tables_1_8, v ∈ lw_tbl := fun v h => List.mem_append_right _ (show v ∈ (tables_1_1 ++ (tables_1_2 ++ (tables_1_3 ++ (tables_1_4 ++ (tables_1_5 ++ (tables_1_6 ++ (tables_1_7 ++ (tables_1_8 ++ tables_1_9)))))))) from List.mem_append_right _ (List.mem_append_right _ (List.mem_append_right _ (List.mem_append_right _ (List.mem_append_right _ (List.mem_append_right _ (List.mem_append_right _ (List.mem_append_left _ h))))))))
theorem zxin9 : ∀ v ∈ tables_1_9, v ∈ lw_tbl := fun v h => List.mem_append_right _ (show v ∈ (tables_1_1 ++ (tables_1_2 ++ (tables_1_3 ++ (tables_1_4 ++ (tables_1_5 ++ (tables_1_6 ++ (tables_1_7 ++ (tables_1_8 ++ tables_1_9)))))))) from List.mem_append_right _ (List.mem_append_right _ (List.mem_append_right _ (List.mem_append_right _ (List.mem_append_right _ (List.mem_append_right _ (List.mem_append_right _ (List.mem_append_right _ (h)))))))))
theorem zxp0 : plainFor zxm0.1 = true := by decide +kernel
theorem zxt0 : z_MT[0]? = some zxm0 := rfl
set_option maxRecDepth 20000 in
theorem zxh0 : zk_ok1 lw_tbl zxm0 := ⟨List.mem_filter.mpr ⟨zxin1 _ (List.mem_of_getElem? (i := 27) rfl), rfl⟩, List.mem_filter.mpr ⟨List.mem_of_getElem? (i := 115) (by decide +kernel), rfl⟩, by decide +kernel, by decide +kernel⟩
theorem zxp1 : plainFor zxm1.1 = true := by decide +kernel
theorem zxt1 : z_MT[1]? = some zxm1 := rfl
set_option maxRecDepth 20000 in
theorem zxh1 : zk_ok1 lw_tbl zxm1 := ⟨List.mem_filter.mpr ⟨zxin1 _ (List.mem_of_getElem? (i := 35) rfl), rfl⟩, List.mem_filter.mpr ⟨List.mem_of_getElem? (i := 116) (by decide +kernel), rfl⟩, by decide +kernel, by decide +kernel⟩
theorem zxp2 : plainFor zxm2.1 = true := by decide +kernel
theorem zxt2 : z_MT[2]? = some zxm2 := rfl
set_option maxRecDepth 20000 in
theorem zxh2 : zk_ok1 lw_tbl zxm2 := ⟨List.mem_filter.mpr ⟨zxin1 _ (List.mem_of_getElem? (i := 104) rfl), rfl⟩, List.mem_filter.mpr ⟨List.mem_of_getElem? (i := 117) (by decide +kernel), rfl⟩, by decide +kernel, by decide +kernel⟩
theorem zxp3 : plainFor zxm3.1 = true := by decide +kernel
theorem zxt3 : z_MT[3]? = some zxm3 := rfl
set_option maxRecDepth 20000 in
theorem zxh3 : zk_ok1 lw_tbl zxm3 := ⟨List.mem_filter.mpr ⟨zxin1 _ (List.mem_of_getElem? (i := 122) rfl), rfl⟩, List.mem_filter.mpr ⟨List.mem_of_getElem? (i := 118) (by decide +kernel), rfl⟩, by decide +kernel, by decide +kernel⟩
theorem zxp4 : plainFor zxm4.1 = true := by decide +kernel
theorem zxt4 : z_MT[4]? = some zxm4 := rfl
set_option maxRecDepth 20000 in
theorem zxh4 : zk_ok1 lw_tbl zxm4 := ⟨List.mem_filter.mpr ⟨zxin1 _ (List.mem_of_getElem? (i := 137) rfl), rfl⟩, List.mem_filter.mpr ⟨List.mem_of_getElem? (i := 119) (by decide +kernel), rfl⟩, by decide +kernel, by decide +kernel⟩
theorem zxp5 : plainFor zxm5.1 = true := by decide +kernel
theorem zxt5 : z_MT[5]? = some zxm5 := rfl
set_option maxRecDepth 20000 in
theorem zxh5 : zk_ok1 lw_tbl zxm5 := ⟨List.mem_filter.mpr ⟨zxin1 _ (List.mem_of_getElem? (i := 210) rfl), rfl⟩, List.mem_filter.mpr ⟨List.mem_of_getElem? (i := 121) (by decide +kernel), rfl⟩, by decide +kernel, by decide +kernel⟩
theorem zxp6 : plainFor zxm6.1 = true := by decide +kernel
theorem zxt6 : z_MT[6]? = some zxm6 := rfl
set_option maxRecDepth 20000 in
theorem zxh6 : zk_ok1 lw_tbl zxm6 := ⟨List.mem_filter.mpr ⟨zxin1 _ (List.mem_of_getElem? (i := 232) rfl), rfl⟩, List.mem_filter.mpr ⟨List.mem_of_getElem? (i := 122) (by decide +kernel), rfl⟩, by decide +kernel, by decide +kernel⟩
theorem zxp7 : plainFor zxm7.1 = true := by decide +kernel
theorem zxt7 : z_MT[7]? = some zxm7 := rfl
set_option maxRecDepth 20000 in
theorem zxh7 : zk_ok1 lw_tbl zxm7 := ⟨List.mem_filter.mpr ⟨zxin2 _ (List.mem_of_getElem? (i := 12) rfl), rfl⟩, List.mem_filter.mpr ⟨List.mem_of_getElem? (i := 123) (by decide +kernel), rfl⟩, by decide +kernel, by decide +kernel⟩
theorem zxp8 : plainFor zxm8.1 = true := by decide +kernel
theorem zxt8 : z_MT[8]? = some zxm8 := rfl
set_option maxRecDepth 20000 in
theorem zxh8 : zk_ok1 lw_tbl zxm8 := ⟨List.mem_filter.mpr ⟨zxin2 _ (List.mem_of_getElem? (i := 59) rfl), rfl⟩, List.mem_filter.mpr ⟨List.mem_of_getElem? (i := 124) (by decide +kernel), rfl⟩, by decide +kernel, by decide +kernel⟩
theorem zxp9 : plainFor zxm9.1 = true := by decide +kernel
theorem zxt9 : z_MT[9]? = some zxm9 := rfl
set_option maxRecDepth 20000 in
theorem zxh9 : zk_ok1 lw_tbl zxm9 := ⟨List.mem_filter.mpr ⟨zxin2 _ (List.mem_of_getElem? (i := 88) rfl), rfl⟩, List.mem_filter.mpr ⟨List.mem_of_getElem? (i := 125) (by decide +kernel), rfl⟩, by decide +kernel, by decide +kernel⟩
theorem zxp10 : plainFor zxm10.1 = true := by decide +kernel
theorem zxt10 : z_MT[10]? = some zxm10 := rfl
set_option maxRecDepth 20000 in
theorem zxh10 : zk_ok1 lw_tbl zxm10 := ⟨List.mem_filter.mpr ⟨zxin2 _ (List.mem_of_getElem? (i := 144) rfl), rfl⟩, List.mem_filter.mpr ⟨List.mem_of_getElem? (i := 126) (by decide +kernel), rfl⟩, by decide +kernel, by decide +kernel⟩
theorem zxp11 : plainFor zxm11.1 = true := by decide +kernel
theorem zxt11 : z_MT[11]? = some zxm11 := rfl
set_option maxRecDepth 20000 in
theorem zxh11 : zk_ok1 lw_tbl zxm11 := ⟨List.mem_filter.mpr ⟨zxin2 _ (List.mem_of_getElem? (i := 173) rfl), rfl⟩, List.mem_filter.mpr ⟨List.mem_of_getElem? (i := 127) (by decide +kernel), rfl⟩, by decide +kernel, by decide +kernel⟩
theorem zxp12 : plainFor zxm12.1 = true := by decide +kernel
theorem zxt12 : z_MT[12]? = some zxm12 := rfl
set_option maxRecDepth 20000 in
theorem zxh12 : zk_ok1 lw_tbl zxm12 := ⟨List.mem_filter.mpr ⟨zxin3 _ (List.mem_of_getElem? (i := 19) rfl), rfl⟩, List.mem_filter.mpr ⟨List.mem_of_getElem? (i := 115) (by decide +kernel), rfl⟩, by decide +kernel, by decide +kernel⟩
theorem zxp13 : plainFor zxm13.1 = true := by decide +kernel
theorem zxt13 : z_MT[13]? = some zxm13 := rfl
set_option maxRecDepth 20000 in
theorem zxh13 : zk_ok1 lw_tbl zxm13 := ⟨List.mem_filter.mpr ⟨zxin3 _ (List.mem_of_getElem? (i := 22) rfl), rfl⟩, List.mem_filter.mpr ⟨List.mem_of_getElem? (i := 115) (by decide +kernel), rfl⟩, by decide +kernel, by decide +kernel⟩
theorem zxp14 : plainFor zxm14.1 = true := by decide +kernel
theorem zxt14 : z_MT[14]? = some zxm14 := rfl
set_option maxRecDepth 20000 in
theorem zxh14 : zk_ok1 lw_tbl zxm14 := ⟨List.mem_filter.mpr ⟨zxin3 _ (List.mem_of_getElem? (i := 25) rfl), rfl⟩, List.mem_filter.mpr ⟨List.mem_of_getElem? (i := 115) (by decide +kernel), rfl⟩, by decide +kernel, by decide +kernel⟩
theorem zxp15 : plainFor zxm15.1 = true := by decide +kernel
theorem zxt15 : z_MT[15]? = some zxm15 := rfl
set_option maxRecDepth 20000 in
theorem zxh15 : zk_ok1 lw_tbl zxm15 := ⟨List.mem_filter.mpr ⟨zxin3 _ (List.mem_of_getElem? (i := 29) rfl), rfl⟩, List.mem_filter.mpr ⟨List.mem_of_getElem? (i := 115) (by decide +kernel), rfl⟩, by decide +kernel, by decide +kernel⟩
theorem zxp16 : plainFor zxm16.1 = true := by decide +kernel
theorem zxt16 : z_MT[16]? = some zxm16 := rfl
set_option maxRecDepth 20000 in
theorem zxh16 : zk_ok1 lw_tbl zxm16 := ⟨List.mem_filter.mpr ⟨zxin3 _ (List.mem_of_getElem? (i := 33) rfl), rfl⟩, List.mem_filter.mpr ⟨List.mem_of_getElem? (i := 116) (by decide +kernel), rfl⟩, by decide +kernel, by decide +kernel⟩
theorem zxp17 : plainFor zxm17.1 = true := by decide +kernel
theorem zxt17 : z_MT[17]? = some zxm17 := rfl
set_option maxRecDepth 20000 in
theorem zxh17 : zk_ok1 lw_tbl zxm17 := ⟨List.mem_filter.mpr ⟨zxin3 _ (List.mem_of_getElem? (i := 37) rfl), rfl⟩, List.mem_filter.mpr ⟨List.mem_of_getElem? (i := 115) (by decide +kernel), rfl⟩, by decide +kernel, by decide +kernel⟩
theorem zxp18 : plainFor zxm18.1 = true := by decide +kernel
theorem zxt18 : z_MT[18]? = some zxm18 := rfl
set_option maxRecDepth 20000 in
theorem zxh18 : zk_ok1 lw_tbl zxm18 := ⟨List.mem_filter.mpr ⟨zxin3 _ (List.mem_of_getElem? (i := 41) rfl), rfl⟩, List.mem_filter.mpr ⟨List.mem_of_getElem? (i := 115) (by decide +kernel), rfl⟩, by decide +kernel, by decide +kernel⟩
theorem zxp19 : plainFor zxm19.1 = true := by decide +kernel
theorem zxt19 : z_MT[19]? = some zxm19 := rfl
set_option maxRecDepth 20000 in
theorem zxh19 : zk_ok1 lw_tbl zxm19 := ⟨List.mem_filter.mpr ⟨zxin3 _ (List.mem_of_getElem? (i := 45) rfl), rfl⟩, List.mem_filter.mpr ⟨List.mem_of_getElem? (i := 115) (by decide +kernel), rfl⟩, by decide +kernel, by decide +kernel⟩
theorem zxp20 : plainFor zxm20.1 = true := by decide +kernel
theorem zxt20 : z_MT[20]? = some zxm20 := rfl
set_option maxRecDepth 20000 in
theorem zxh20 : zk_ok1 lw_tbl zxm20 := ⟨List.mem_filter.mpr ⟨zxin3 _ (List.mem_of_getElem? (i := 50) rfl), rfl⟩, List.mem_filter.mpr ⟨List.mem_of_getElem? (i := 115) (by decide +kernel), rfl⟩, by decide +kernel, by decide +kernel⟩
theorem zxp21 : plainFor zxm21.1 = true := by decide +kernel
theorem zxt21 : z_MT[21]? = some zxm21 := rfl
set_option maxRecDepth 20000 in
theorem zxh21 : zk_ok1 lw_tbl zxm21 := ⟨List.mem_filter.mpr ⟨zxin3 _ (List.mem_of_getElem? (i := 54) rfl), rfl⟩, List.mem_filter.mpr ⟨List.mem_of_getElem? (i := 115) (by decide +kernel), rfl⟩, by decide +kernel, by decide +kernel⟩
theorem zxp22 : plainFor zxm22.1 = true := by decide +kernel
theorem zxt22 : z_MT[22]? = some zxm22 := rfl
set_option maxRecDepth 20000 in
theorem zxh22 : zk_ok1 lw_tbl zxm22 := ⟨List.mem_filter.mpr ⟨zxin3 _ (List.mem_of_getElem? (i := 57) rfl), rfl⟩, List.mem_filter.mpr ⟨List.mem_of_getElem? (i := 115) (by decide +kernel), rfl⟩, by decide +kernel, by decide +kernel⟩
theorem zxp23 : plainFor zxm23.1 = true := by decide +kernel
theorem zxt23 : z_MT[23]? = some zxm23 := rfl
set_option maxRecDepth 20000 in
theorem zxh23 : zk_ok1 lw_tbl zxm23 := ⟨List.mem_filter.mpr ⟨zxin3 _ (List.mem_of_getElem? (i := 61) rfl), rfl⟩, List.mem_filter.mpr ⟨List.mem_of_getElem? (i := 117) (by decide +kernel), rfl⟩, by decide +kernel, by decide +kernel⟩
theorem zxp24 : plainFor zxm24.1 = true := by decide +kernel
theorem zxt24 : z_MT[24]? = some zxm24 := rfl
set_option maxRecDepth 20000 in
theorem zxh24 : zk_ok1 lw_tbl zxm24 := ⟨List.mem_filter.mpr ⟨zxin3 _ (List.mem_of_getElem? (i := 65) rfl), rfl⟩, List.mem_filter.mpr ⟨List.mem_of_getElem? (i := 117) (by decide +kernel), rfl⟩, by decide +kernel, by decide +kernel⟩
theorem zxp25 : plainFor zxm25.1 = true := by decide +kernel
theorem zxt25 : z_MT[25]? = some zxm25 := rfl
set_option maxRecDepth 20000 in
theorem zxh25 : zk_ok1 lw_tbl zxm25 := ⟨List.mem_filter.mpr ⟨zxin3 _ (List.mem_of_getElem? (i := 69) rfl), rfl⟩, List.mem_filter.mpr ⟨List.mem_of_getElem? (i := 117) (by decide +kernel), rfl⟩, by decide +kernel, by decide +kernel⟩
theorem zxp26 : plainFor zxm26.1 = true := by decide +kernel
theorem zxt26 : z_MT[26]? = some zxm26 := rfl
set_option maxRecDepth 20000 in
theorem zxh26 : zk_ok1 lw_tbl zxm26 := ⟨List.mem_filter.mpr ⟨zxin3 _ (List.mem_of_getElem? (i := 73) rfl), rfl⟩, List.mem_filter.mpr ⟨List.mem_of_getElem? (i := 115) (by decide +kernel), rfl⟩, by decide +kernel, by decide +kernel⟩
theorem zxp27 : plainFor zxm27.1 = true := by decide +kernel
theorem zxt27 : z_MT[27]? = some zxm27 := rfl
set_option maxRecDepth 20000 in
theorem zxh27 : zk_ok1 lw_tbl zxm27 := ⟨List.mem_filter.mpr ⟨zxin3 _ (List.mem_of_getElem? (i := 77) rfl), rfl⟩, List.mem_filter.mpr ⟨List.mem_of_getElem? (i := 117) (by decide +kernel), rfl⟩, by decide +kernel, by decide +kernel⟩
theorem zxp28 : plainFor zxm28.1 = true := by decide +kernel
theorem zxt28 : z_MT[28]? = some zxm28 := rfl
set_option maxRecDepth 20000 in
theorem zxh28 : zk_ok1 lw_tbl zxm28 := ⟨List.mem_filter.mpr ⟨zxin3 _ (List.mem_of_getElem? (i := 80) rfl), rfl⟩, List.mem_filter.mpr ⟨List.mem_of_getElem? (i := 115) (by decide +kernel), rfl⟩, by decide +kernel, by decide +kernel⟩
theorem zxp29 : plainFor zxm29.1 = true := by decide +kernel
theorem zxt29 : z_MT[29]? = some zxm29 := rfl
set_option maxRecDepth 20000 in
theorem zxh29 : zk_ok1 lw_tbl zxm29 := ⟨List.mem_filter.mpr ⟨zxin3 _ (List.mem_of_getElem? (i := 83) rfl), rfl⟩, List.mem_filter.mpr ⟨List.mem_of_getElem? (i := 115) (by decide +kernel), rfl⟩, by decide +kernel, by decide +kernel⟩
theorem zxp30 : plainFor zxm30.1 = true := by decide +kernel
theorem zxt30 : z_MT[30]? = some zxm30 := rfl
set_option maxRecDepth 20000 in
theorem zxh30 : zk_ok1 lw_tbl zxm30 := ⟨List.mem_filter.mpr ⟨zxin3 _ (List.mem_of_getElem? (i := 87) rfl), rfl⟩, List.mem_filter.mpr ⟨List.mem_of_getElem? (i := 115) (by decide +kernel), rfl⟩, by decide +kernel, by decide +kernel⟩
theorem zxp31 : plainFor zxm31.1 = true := by decide +kernel
theorem zxt31 : z_MT[31]? = some zxm31 := rfl
set_option maxRecDepth 20000 in
theorem zxh31 : zk_ok1 lw_tbl zxm31 := ⟨List.mem_filter.mpr ⟨zxin3 _ (List.mem_of_getElem? (i := 91) rfl), rfl⟩, List.mem_filter.mpr ⟨List.mem_of_getElem? (i := 118) (by decide +kernel), rfl⟩, by decide +kernel, by decide +kernel⟩
theorem zxp32 : plainFor zxm32.1 = true := by decide +kernel
theorem zxt32 : z_MT[32]? = some zxm32 := rfl
set_option maxRecDepth 20000 in
theorem zxh32 : zk_ok1 lw_tbl zxm32 := ⟨List.mem_filter.mpr ⟨zxin3 _ (List.mem_of_getElem? (i := 95) rfl), rfl⟩, List.mem_filter.mpr ⟨List.mem_of_getElem? (i := 115) (by decide +kernel), rfl⟩, by decide +kernel, by decide +kernel⟩
theorem zxp33 : plainFor zxm33.1 = true := by decide +kernel
theorem zxt33 : z_MT[33]? = some zxm33 := rfl
set_option maxRecDepth 20000 in
theorem zxh33 : zk_ok1 lw_tbl zxm33 := ⟨List.mem_filter.mpr ⟨zxin3 _ (List.mem_of_getElem? (i := 99) rfl), rfl⟩, List.mem_filter.mpr ⟨List.mem_of_getElem? (i := 118) (by decide +kernel), rfl⟩, by decide +kernel, by decide +kernel⟩
theorem zxp34 : plainFor zxm34.1 = true := by decide +kernel
theorem zxt34 : z_MT[34]? = some zxm34 := rfl
set_option maxRecDepth 20000 in
theorem zxh34 : zk_ok1 lw_tbl zxm34 := ⟨List.mem_filter.mpr ⟨zxin3 _ (List.mem_of_getElem? (i := 106) rfl), rfl⟩, List.mem_filter.mpr ⟨List.mem_of_getElem? (i := 129) (by decide +kernel), rfl⟩, by decide +kernel, by decide +kernel⟩
theorem zxp35 : plainFor zxm35.1 = true := by decide +kernel
theorem zxt35 : z_MT[35]? = some zxm35 := rfl
set_option maxRecDepth 20000 in
theorem zxh35 : zk_ok1 lw_tbl zxm35 := ⟨List.mem_filter.mpr ⟨zxin3 _ (List.mem_of_getElem? (i := 175) rfl), rfl⟩, List.mem_filter.mpr ⟨List.mem_of_getElem? (i := 129) (by decide +kernel), rfl⟩, by decide +kernel, by decide +kernel⟩
theorem zxp36 : plainFor zxm36.1 = true := by decide +kernel
theorem zxt36 : z_MT[36]? = some zxm36 := rfl
set_option maxRecDepth 20000 in
theorem zxh36 : zk_ok1 lw_tbl zxm36 := ⟨List.mem_filter.mpr ⟨zxin4 _ (List.mem_of_getElem? (i := 20) rfl), rfl⟩, List.mem_filter.mpr ⟨List.mem_of_getElem? (i := 115) (by decide +kernel), rfl⟩, by decide +kernel, by decide +kernel⟩
theorem zxp37 : plainFor zxm37.1 = true := by decide +kernel
theorem zxt37 : z_MT[37]? = some zxm37 := rfl
set_option maxRecDepth 20000 in
theorem zxh37 : zk_ok1 lw_tbl zxm37 := ⟨List.mem_filter.mpr ⟨zxin4 _ (List.mem_of_getElem? (i := 27) rfl), rfl⟩, List.mem_filter.mpr ⟨List.mem_of_getElem? (i := 134) (by decide +kernel), rfl⟩, by decide +kernel, by decide +kernel⟩
theorem zxp38 : plainFor zxm38.1 = true := by decide +kernel
theorem zxt38 : z_MT[38]? = some zxm38 := rfl
set_option maxRecDepth 20000 in
theorem zxh38 : zk_ok1 lw_tbl zxm38 := ⟨List.mem_filter.mpr ⟨zxin4 _ (List.mem_of_getElem? (i := 39) rfl), rfl⟩, List.mem_filter.mpr ⟨List.mem_of_getElem? (i := 115) (by decide +kernel), rfl⟩, by decide +kernel, by decide +kernel⟩
theorem zxp39 : plainFor zxm39.1 = true := by decide +kernel
theorem zxt39 : z_MT[39]? = some zxm39 := rfl
set_option maxRecDepth 20000 in
theorem zxh39 : zk_ok1 lw_tbl zxm39 := ⟨List.mem_filter.mpr ⟨zxin4 _ (List.mem_of_getElem? (i := 47) rfl), rfl⟩, List.mem_filter.mpr ⟨List.mem_of_getElem? (i := 115) (by decide +kernel), rfl⟩, by decide +kernel, by decide +kernel⟩
theorem zxp40 : plainFor zxm40.1 = true := by decide +kernel
theorem zxt40 : z_MT[40]? = some zxm40 := rfl
set_option maxRecDepth 20000 in
theorem zxh40 : zk_ok1 lw_tbl zxm40 := ⟨List.mem_filter.mpr ⟨zxin4 _ (List.mem_of_getElem? (i := 51) rfl), rfl⟩, List.mem_filter.mpr ⟨List.mem_of_getElem? (i := 123) (by decide +kernel), rfl⟩, by decide +kernel, by decide +kernel⟩
theorem zxp41 : plainFor zxm41.1 = true := by decide +kernel
theorem zxt41 : z_MT[41]? = some zxm41 := rfl
set_option maxRecDepth 20000 in
theorem zxh41 : zk_ok1 lw_tbl zxm41 := ⟨List.mem_filter.mpr ⟨zxin4 _ (List.mem_of_getElem? (i := 56) rfl), rfl⟩, List.mem_filter.mpr ⟨List.mem_of_getElem? (i := 123) (by decide +kernel), rfl⟩, by decide +kernel, by decide +kernel⟩
theorem zxp42 : plainFor zxm42.1 = true := by decide +kernel
theorem zxt42 : z_MT[42]? = some zxm42 := rfl
set_option maxRecDepth 20000 in
theorem zxh42 : zk_ok1 lw_tbl zxm42 := ⟨List.mem_filter.mpr ⟨zxin4 _ (List.mem_of_getElem? (i := 60) rfl), rfl⟩, List.mem_filter.mpr ⟨List.mem_of_getElem? (i := 123) (by decide +kernel), rfl⟩, by decide +kernel, by decide +kernel⟩
theorem zxp43 : plainFor zxm43.1 = true := by decide +kernel
theorem zxt43 : z_MT[43]? = some zxm43 := rfl
set_option maxRecDepth 20000 in
theorem zxh43 : zk_ok1 lw_tbl zxm43 := ⟨List.mem_filter.mpr ⟨zxin4 _ (List.mem_of_getElem? (i := 64) rfl), rfl⟩, List.mem_filter.mpr ⟨List.mem_of_getElem? (i := 119) (by decide +kernel), rfl⟩, by decide +kernel, by decide +kernel⟩
theorem zxp44 : plainFor zxm44.1 = true := by decide +kernel
theorem zxt44 : z_MT[44]? = some zxm44 := rfl
set_option maxRecDepth 20000 in
theorem zxh44 : zk_ok1 lw_tbl zxm44 := ⟨List.mem_filter.mpr ⟨zxin4 _ (List.mem_of_getElem? (i := 69) rfl), rfl⟩, List.mem_filter.mpr ⟨List.mem_of_getElem? (i := 119) (by decide +kernel), rfl⟩, by decide +kernel, by decide +kernel⟩
theorem zxp45 : plainFor zxm45.1 = true := by decide +kernel
theorem zxt45 : z_MT[45]? = some zxm45 := rfl
set_option maxRecDepth 20000 in
theorem zxh45 : zk_ok1 lw_tbl zxm45 := ⟨List.mem_filter.mpr ⟨zxin4 _ (List.mem_of_getElem? (i := 73) rfl), rfl⟩, List.mem_filter.mpr ⟨List.mem_of_getElem? (i := 123) (by decide +kernel), rfl⟩, by decide +kernel, by decide +kernel⟩
theorem zxp46 : plainFor zxm46.1 = true := by decide +kernel
theorem zxt46 : z_MT[46]? = some zxm46 := rfl
set_option maxRecDepth 20000 in
theorem zxh46 : zk_ok1 lw_tbl zxm46 := ⟨List.mem_filter.mpr ⟨zxin4 _ (List.mem_of_getElem? (i := 101) rfl), rfl⟩, List.mem_filter.mpr ⟨List.mem_of_getElem? (i := 115) (by decide +kernel), rfl⟩, by decide +kernel, by decide +kernel⟩
theorem zxp47 : plainFor zxm47.1 = true := by decide +kernel
theorem zxt47 : z_MT[47]? = some zxm47 := rfl
set_option maxRecDepth 20000 in
theorem zxh47 : zk_ok1 lw_tbl zxm47 := ⟨List.mem_filter.mpr ⟨zxin4 _ (List.mem_of_getElem? (i := 105) rfl), rfl⟩, List.mem_filter.mpr ⟨List.mem_of_getElem? (i := 115) (by decide +kernel), rfl⟩, by decide +kernel, by decide +kernel⟩
theorem zxp48 : plainFor zxm48.1 = true := by decide +kernel
theorem zxt48 : z_MT[48]? = some zxm48 := rfl
set_option maxRecDepth 20000 in
theorem zxh48 : zk_ok1 lw_tbl zxm48 := ⟨List.mem_filter.mpr ⟨zxin4 _ (List.mem_of_getElem? (i := 109) rfl), rfl⟩, List.mem_filter.mpr ⟨List.mem_of_getElem? (i := 123) (by decide +kernel), rfl⟩, by decide +kernel, by decide +kernel⟩
theorem zxp49 : plainFor zxm49.1 = true := by decide +kernel
theorem zxt49 : z_MT[49]? = some zxm49 := rfl
set_option maxRecDepth 20000 in
theorem zxh49 : zk_ok1 lw_tbl zxm49 := ⟨List.mem_filter.mpr ⟨zxin4 _ (List.mem_of_getElem? (i := 121) rfl), rfl⟩, List.mem_filter.mpr ⟨List.mem_of_getElem? (i := 115) (by decide +kernel), rfl⟩, by decide +kernel, by decide +kernel⟩
theorem zxp50 : plainFor zxm50.1 = true := by decide +kernel
theorem zxt50 : z_MT[50]? = some zxm50 := rfl
set_option maxRecDepth 20000 in
theorem zxh50 : zk_ok1 lw_tbl zxm50 := ⟨List.mem_filter.mpr ⟨zxin4 _ (List.mem_of_getElem? (i := 125) rfl), rfl⟩, List.mem_filter.mpr ⟨List.mem_of_getElem? (i := 123) (by decide +kernel), rfl⟩, by decide +kernel, by decide +kernel⟩
theorem zxp51 : plainFor zxm51.1 = true := by decide +kernel
theorem zxt51 : z_MT[51]? = some zxm51 := rfl
set_option maxRecDepth 20000 in
theorem zxh51 : zk_ok1 lw_tbl zxm51 := ⟨List.mem_filter.mpr ⟨zxin4 _ (List.mem_of_getElem? (i := 128) rfl), rfl⟩, List.mem_filter.mpr ⟨List.mem_of_getElem? (i := 135) (by decide +kernel), rfl⟩, by decide +kernel, by decide +kernel⟩
theorem zxp52 : plainFor zxm52.1 = true := by decide +kernel
theorem zxt52 : z_MT[52]? = some zxm52 := rfl
set_option maxRecDepth 20000 in
theorem zxh52 : zk_ok1 lw_tbl zxm52 := ⟨List.mem_filter.mpr ⟨zxin4 _ (List.mem_of_getElem? (i := 135) rfl), rfl⟩, List.mem_filter.mpr ⟨List.mem_of_getElem? (i := 123) (by decide +kernel), rfl⟩, by decide +kernel, by decide +kernel⟩
theorem zxp53 : plainFor zxm53.1 = true := by decide +kernel
theorem zxt53 : z_MT[53]? = some zxm53 := rfl
set_option maxRecDepth 20000 in
theorem zxh53 : zk_ok1 lw_tbl zxm53 := ⟨List.mem_filter.mpr ⟨zxin4 _ (List.mem_of_getElem? (i := 147) rfl), rfl⟩, List.mem_filter.mpr ⟨List.mem_of_getElem? (i := 123) (by decide +kernel), rfl⟩, by decide +kernel, by decide +kernel⟩
theorem zxp54 : plainFor zxm54.1 = true := by decide +kernel
theorem zxt54 : z_MT[54]? = some zxm54 := rfl
set_option maxRecDepth 20000 in
theorem zxh54 : zk_ok1 lw_tbl zxm54 := ⟨List.mem_filter.mpr ⟨zxin4 _ (List.mem_of_getElem? (i := 152) rfl), rfl⟩, List.mem_filter.mpr ⟨List.mem_of_getElem? (i := 123) (by decide +kernel), rfl⟩, by decide +kernel, by decide +kernel⟩
theorem zxp55 : plainFor zxm55.1 = true := by decide +kernel
theorem zxt55 : z_MT[55]? = some zxm55 := rfl
set_option maxRecDepth 20000 in
theorem zxh55 : zk_ok1 lw_tbl zxm55 := ⟨List.mem_filter.mpr ⟨zxin4 _ (List.mem_of_getElem? (i := 156) rfl), rfl⟩, List.mem_filter.mpr ⟨List.mem_of_getElem? (i := 123) (by decide +kernel), rfl⟩, by decide +kernel, by decide +kernel⟩
theorem zxp56 : plainFor zxm56.1 = true := by decide +kernel
theorem zxt56 : z_MT[56]? = some zxm56 := rfl
set_option maxRecDepth 20000 in
theorem zxh56 : zk_ok1 lw_tbl zxm56 := ⟨List.mem_filter.mpr ⟨zxin4 _ (List.mem_of_getElem? (i := 160) rfl), rfl⟩, List.mem_filter.mpr ⟨List.mem_of_getElem? (i := 123) (by decide +kernel), rfl⟩, by decide +kernel, by decide +kernel⟩
theorem zxp57 : plainFor zxm57.1 = true := by decide +kernel
theorem zxt57 : z_MT[57]? = some zxm57 := rfl
set_option maxRecDepth 20000 in
theorem zxh57 : zk_ok1 lw_tbl zxm57 := ⟨List.mem_filter.mpr ⟨zxin4 _ (List.mem_of_getElem? (i := 165) rfl), rfl⟩, List.mem_filter.mpr ⟨List.mem_of_getElem? (i := 115) (by decide +kernel), rfl⟩, by decide +kernel, by decide +kernel⟩
theorem zxp58 : plainFor zxm58.1 = true := by decide +kernel
theorem zxt58 : z_MT[58]? = some zxm58 := rfl
set_option maxRecDepth 20000 in
theorem zxh58 : zk_ok1 lw_tbl zxm58 := ⟨List.mem_filter.mpr ⟨zxin4 _ (List.mem_of_getElem? (i := 170) rfl), rfl⟩, List.mem_filter.mpr ⟨List.mem_of_getElem? (i := 115) (by decide +kernel), rfl⟩, by decide +kernel, by decide +kernel⟩
theorem zxp59 : plainFor zxm59.1 = true := by decide +kernel
theorem zxt59 : z_MT[59]? = some zxm59 := rfl
set_option maxRecDepth 20000 in
theorem zxh59 : zk_ok1 lw_tbl zxm59 := ⟨List.mem_filter.mpr ⟨zxin4 _ (List.mem_of_getElem? (i := 216) rfl), rfl⟩, List.mem_filter.mpr ⟨List.mem_of_getElem? (i := 115) (by decide +kernel), rfl⟩, by decide +kernel, by decide +kernel⟩
theorem zxp60 : plainFor zxm60.1 = true := by decide +kernel
theorem zxt60 : z_MT[60]? = some zxm60 := rfl
set_option maxRecDepth 20000 in
theorem zxh60 : zk_ok1 lw_tbl zxm60 := ⟨List.mem_filter.mpr ⟨zxin4 _ (List.mem_of_getElem? (i := 226) rfl), rfl⟩, List.mem_filter.mpr ⟨List.mem_of_getElem? (i := 115) (by decide +kernel), rfl⟩, by decide +kernel, by decide +kernel⟩
theorem zxp61 : plainFor zxm61.1 = true := by decide +kernel
theorem zxt61 : z_MT[61]? = some zxm61 := rfl
set_option maxRecDepth 20000 in
theorem zxh61 : zk_ok1 lw_tbl zxm61 := ⟨List.mem_filter.mpr ⟨zxin4 _ (List.mem_of_getElem? (i := 230) rfl), rfl⟩, List.mem_filter.mpr ⟨List.mem_of_getElem? (i := 116) (by decide +kernel), rfl⟩, by decide +kernel, by decide +kernel⟩
theorem zxp62 : plainFor zxm62.1 = true := by decide +kernel
theorem zxt62 : z_MT[62]? = some zxm62 := rfl
set_option maxRecDepth 20000 in
theorem zxh62 : zk_ok1 lw_tbl zxm62 := ⟨List.mem_filter.mpr ⟨zxin4 _ (List.mem_of_getElem? (i := 237) rfl), rfl⟩, List.mem_filter.mpr ⟨List.mem_of_getElem? (i := 115) (by decide +kernel), rfl⟩, by decide +kernel, by decide +kernel⟩
theorem zxp63 : plainFor zxm63.1 = true := by decide +kernel
theorem zxt63 : z_MT[63]? = some zxm63 := rfl
set_option maxRecDepth 20000 in
theorem zxh63 : zk_ok1 lw_tbl zxm63 := ⟨List.mem_filter.mpr ⟨zxin5 _ (List.mem_of_getElem? (i := 1) rfl), rfl⟩, List.mem_filter.mpr ⟨List.mem_of_getElem? (i := 126) (by decide +kernel), rfl⟩, by decide +kernel, by decide +kernel⟩
theorem zxp64 : plainFor zxm64.1 = true := by decide +kernel
theorem zxt64 : z_MT[64]? = some zxm64 := rfl
set_option maxRecDepth 20000 in
theorem zxh64 : zk_ok1 lw_tbl zxm64 := ⟨List.mem_filter.mpr ⟨zxin5 _ (List.mem_of_getElem? (i := 8) rfl), rfl⟩, List.mem_filter.mpr ⟨List.mem_of_getElem? (i := 126) (by decide +kernel), rfl⟩, by decide +kernel, by decide +kernel⟩
theorem zxp65 : plainFor zxm65.1 = true := by decide +kernel
theorem zxt65 : z_MT[65]? = some zxm65 := rfl
set_option maxRecDepth 20000 in
theorem zxh65 : zk_ok1 lw_tbl zxm65 := ⟨List.mem_filter.mpr ⟨zxin5 _ (List.mem_of_getElem? (i := 12) rfl), rfl⟩, List.mem_filter.mpr ⟨List.mem_of_getElem? (i := 129) (by decide +kernel), rfl⟩, by decide +kernel, by decide +kernel⟩
theorem zxp66 : plainFor zxm66.1 = true := by decide +kernel
theorem zxt66 : z_MT[66]? = some zxm66 := rfl
set_option maxRecDepth 20000 in
theorem zxh66 : zk_ok1 lw_tbl zxm66 := ⟨List.mem_filter.mpr ⟨zxin5 _ (List.mem_of_getElem? (i := 20) rfl), rfl⟩, List.mem_filter.mpr ⟨List.mem_of_getElem? (i := 126) (by decide +kernel), rfl⟩, by decide +kernel, by decide +kernel⟩
theorem zxp67 : plainFor zxm67.1 = true := by decide +kernel
theorem zxt67 : z_MT[67]? = some zxm67 := rfl
set_option maxRecDepth 20000 in
theorem zxh67 : zk_ok1 lw_tbl zxm67 := ⟨List.mem_filter.mpr ⟨zxin5 _ (List.mem_of_getElem? (i := 24) rfl), rfl⟩, List.mem_filter.mpr ⟨List.mem_of_getElem? (i := 126) (by decide +kernel), rfl⟩, by decide +kernel, by decide +kernel⟩
theorem zxp68 : plainFor zxm68.1 = true := by decide +kernel
theorem zxt68 : z_MT[68]? = some zxm68 := rfl
set_option maxRecDepth 20000 in
theorem zxh68 : zk_ok1 lw_tbl zxm68 := ⟨List.mem_filter.mpr ⟨zxin5 _ (List.mem_of_getElem? (i := 35) rfl), rfl⟩, List.mem_filter.mpr ⟨List.mem_of_getElem? (i := 126) (by decide +kernel), rfl⟩, by decide +kernel, by decide +kernel⟩
theorem zxp69 : plainFor zxm69.1 = true := by decide +kernel
theorem zxt69 : z_MT[69]? = some zxm69 := rfl
set_option maxRecDepth 20000 in
theorem zxh69 : zk_ok1 lw_tbl zxm69 := ⟨List.mem_filter.mpr ⟨zxin5 _ (List.mem_of_getElem? (i := 40) rfl), rfl⟩, List.mem_filter.mpr ⟨List.mem_of_getElem? (i := 115) (by decide +kernel), rfl⟩, by decide +kernel, by decide +kernel⟩
theorem zxp70 : plainFor zxm70.1 = true := by decide +kernel
theorem zxt70 : z_MT[70]? = some zxm70 := rfl
set_option maxRecDepth 20000 in
theorem zxh70 : zk_ok1 lw_tbl zxm70 := ⟨List.mem_filter.mpr ⟨zxin5 _ (List.mem_of_getElem? (i := 58) rfl), rfl⟩, List.mem_filter.mpr ⟨List.mem_of_getElem? (i := 115) (by decide +kernel), rfl⟩, by decide +kernel, by decide +kernel⟩
theorem zxp71 : plainFor zxm71.1 = true := by decide +kernel
theorem zxt71 : z_MT[71]? = some zxm71 := rfl
set_option maxRecDepth 20000 in
theorem zxh71 : zk_ok1 lw_tbl zxm71 := ⟨List.mem_filter.mpr ⟨zxin5 _ (List.mem_of_getElem? (i := 77) rfl), rfl⟩, List.mem_filter.mpr ⟨List.mem_of_getElem? (i := 115) (by decide +kernel), rfl⟩, by decide +kernel, by decide +kernel⟩
theorem zxp72 : plainFor zxm72.1 = true := by decide +kernel
theorem zxt72 : z_MT[72]? = some zxm72 := rfl
set_option maxRecDepth 20000 in
theorem zxh72 : zk_ok1 lw_tbl zxm72 := ⟨List.mem_filter.mpr ⟨zxin5 _ (List.mem_of_getElem? (i := 81) rfl), rfl⟩, List.mem_filter.mpr ⟨List.mem_of_getElem? (i := 127) (by decide +kernel), rfl⟩, by decide +kernel, by decide +kernel⟩
theorem zxp73 : plainFor zxm73.1 = true := by decide +kernel
theorem zxt73 : z_MT[73]? = some zxm73 := rfl
set_option maxRecDepth 20000 in
theorem zxh73 : zk_ok1 lw_tbl zxm73 := ⟨List.mem_filter.mpr ⟨zxin5 _ (List.mem_of_getElem? (i := 94) rfl), rfl⟩, List.mem_filter.mpr ⟨List.mem_of_getElem? (i := 127) (by decide +kernel), rfl⟩, by decide +kernel, by decide +kernel⟩
theorem zxp74 : plainFor zxm74.1 = true := by decide +kernel
theorem zxt74 : z_MT[74]? = some zxm74 := rfl
set_option maxRecDepth 20000 in
theorem zxh74 : zk_ok1 lw_tbl zxm74 := ⟨List.mem_filter.mpr ⟨zxin5 _ (List.mem_of_getElem? (i := 103) rfl), rfl⟩, List.mem_filter.mpr ⟨List.mem_of_getElem? (i := 127) (by decide +kernel), rfl⟩, by decide +kernel, by decide +kernel⟩
theorem zxp75 : plainFor zxm75.1 = true := by decide +kernel
theorem zxt75 : z_MT[75]? = some zxm75 := rfl
set_option maxRecDepth 20000 in
theorem zxh75 : zk_ok1 lw_tbl zxm75 := ⟨List.mem_filter.mpr ⟨zxin5 _ (List.mem_of_getElem? (i := 107) rfl), rfl⟩, List.mem_filter.mpr ⟨List.mem_of_getElem? (i := 127) (by decide +kernel), rfl⟩, by decide +kernel, by decide +kernel⟩
theorem zxp76 : plainFor zxm76.1 = true := by decide +kernel
theorem zxt76 : z_MT[76]? = some zxm76 := rfl
set_option maxRecDepth 20000 in
theorem zxh76 : zk_ok1 lw_tbl zxm76 := ⟨List.mem_filter.mpr ⟨zxin5 _ (List.mem_of_getElem? (i := 111) rfl), rfl⟩, List.mem_filter.mpr ⟨List.mem_of_getElem? (i := 115) (by decide +kernel), rfl⟩, by decide +kernel, by decide +kernel⟩
theorem zxp77 : plainFor zxm77.1 = true := by decide +kernel
theorem zxt77 : z_MT[77]? = some zxm77 := rfl
set_option maxRecDepth 20000 in
theorem zxh77 : zk_ok1 lw_tbl zxm77 := ⟨List.mem_filter.mpr ⟨zxin5 _ (List.mem_of_getElem? (i := 143) rfl), rfl⟩, List.mem_filter.mpr ⟨List.mem_of_getElem? (i := 116) (by decide +kernel), rfl⟩, by decide +kernel, by decide +kernel⟩
theorem zxp78 : plainFor zxm78.1 = true := by decide +kernel
theorem zxt78 : z_MT[78]? = some zxm78 := rfl
set_option maxRecDepth 20000 in
theorem zxh78 : zk_ok1 lw_tbl zxm78 := ⟨List.mem_filter.mpr ⟨zxin5 _ (List.mem_of_getElem? (i := 147) rfl), rfl⟩, List.mem_filter.mpr ⟨List.mem_of_getElem? (i := 116) (by decide +kernel), rfl⟩, by decide +kernel, by decide +kernel⟩
theorem zxp79 : plainFor zxm79.1 = true := by decide +kernel
theorem zxt79 : z_MT[79]? = some zxm79 := rfl
set_option maxRecDepth 20000 in
theorem zxh79 : zk_ok1 lw_tbl zxm79 := ⟨List.mem_filter.mpr ⟨zxin5 _ (List.mem_of_getElem? (i := 151) rfl), rfl⟩, List.mem_filter.mpr ⟨List.mem_of_getElem? (i := 116) (by decide +kernel), rfl⟩, by decide +kernel, by decide +kernel⟩
theorem zxp80 : plainFor zxm80.1 = true := by decide +kernel
theorem zxt80 : z_MT[80]? = some zxm80 := rfl
set_option maxRecDepth 20000 in
theorem zxh80 : zk_ok1 lw_tbl zxm80 := ⟨List.mem_filter.mpr ⟨zxin5 _ (List.mem_of_getElem? (i := 156) rfl), rfl⟩, List.mem_filter.mpr ⟨List.mem_of_getElem? (i := 116) (by decide +kernel), rfl⟩, by decide +kernel, by decide +kernel⟩
theorem zxp81 : plainFor zxm81.1 = true := by decide +kernel
theorem zxt81 : z_MT[81]? = some zxm81 := rfl
set_option maxRecDepth 20000 in
theorem zxh81 : zk_ok1 lw_tbl zxm81 := ⟨List.mem_filter.mpr ⟨zxin5 _ (List.mem_of_getElem? (i := 162) rfl), rfl⟩, List.mem_filter.mpr ⟨List.mem_of_getElem? (i := 115) (by decide +kernel), rfl⟩, by decide +kernel, by decide +kernel⟩
theorem zxp82 : plainFor zxm82.1 = true := by decide +kernel
theorem zxt82 : z_MT[82]? = some zxm82 := rfl
set_option maxRecDepth 20000 in
theorem zxh82 : zk_ok1 lw_tbl zxm82 := ⟨List.mem_filter.mpr ⟨zxin5 _ (List.mem_of_getElem? (i := 166) rfl), rfl⟩, List.mem_filter.mpr ⟨List.mem_of_getElem? (i := 115) (by decide +kernel), rfl⟩, by decide +kernel, by decide +kernel⟩
theorem zxp83 : plainFor zxm83.1 = true := by decide +kernel
theorem zxt83 : z_MT[83]? = some zxm83 := rfl
set_option maxRecDepth 20000 in
theorem zxh83 : zk_ok1 lw_tbl zxm83 := ⟨List.mem_filter.mpr ⟨zxin5 _ (List.mem_of_getElem? (i := 172) rfl), rfl⟩, List.mem_filter.mpr ⟨List.mem_of_getElem? (i := 115) (by decide +kernel), rfl⟩, by decide +kernel, by decide +kernel⟩
theorem zxp84 : plainFor zxm84.1 = true := by decide +kernel
theorem zxt84 : z_MT[84]? = some zxm84 := rfl
set_option maxRecDepth 20000 in
theorem zxh84 : zk_ok1 lw_tbl zxm84 := ⟨List.mem_filter.mpr ⟨zxin5 _ (List.mem_of_getElem? (i := 191) rfl), rfl⟩, List.mem_filter.mpr ⟨List.mem_of_getElem? (i := 115) (by decide +kernel), rfl⟩, by decide +kernel, by decide +kernel⟩
theorem zxp85 : plainFor zxm85.1 = true := by decide +kernel
theorem zxt85 : z_MT[85]? = some zxm85 := rfl
set_option maxRecDepth 20000 in
theorem zxh85 : zk_ok1 lw_tbl zxm85 := ⟨List.mem_filter.mpr ⟨zxin5 _ (List.mem_of_getElem? (i := 195) rfl), rfl⟩, List.mem_filter.mpr ⟨List.mem_of_getElem? (i := 115) (by decide +kernel), rfl⟩, by decide +kernel, by decide +kernel⟩
theorem zxp86 : plainFor zxm86.1 = true := by decide +kernel
theorem zxt86 : z_MT[86]? = some zxm86 := rfl
set_option maxRecDepth 20000 in
theorem zxh86 : zk_ok1 lw_tbl zxm86 := ⟨List.mem_filter.mpr ⟨zxin5 _ (List.mem_of_getElem? (i := 216) rfl), rfl⟩, List.mem_filter.mpr ⟨List.mem_of_getElem? (i := 115) (by decide +kernel), rfl⟩, by decide +kernel, by decide +kernel⟩
theorem zxp87 : plainFor zxm87.1 = true := by decide +kernel
theorem zxt87 : z_MT[87]? = some zxm87 := rfl
set_option maxRecDepth 20000 in
theorem zxh87 : zk_ok1 lw_tbl zxm87 := ⟨List.mem_filter.mpr ⟨zxin5 _ (List.mem_of_getElem? (i := 237) rfl), rfl⟩, List.mem_filter.mpr ⟨List.mem_of_getElem? (i := 115) (by decide +kernel), rfl⟩, by decide +kernel, by decide +kernel⟩
theorem zxp88 : plainFor zxm88.1 = true := by decide +kernel
theorem zxt88 : z_MT[88]? = some zxm88 := rfl
set_option maxRecDepth 20000 in
theorem zxh88 : zk_ok1 lw_tbl zxm88 := ⟨List.mem_filter.mpr ⟨zxin6 _ (List.mem_of_getElem? (i := 1) rfl), rfl⟩, List.mem_filter.mpr ⟨List.mem_of_getElem? (i := 123) (by decide +kernel), rfl⟩, by decide +kernel, by decide +kernel⟩
theorem zxp89 : plainFor zxm89.1 = true := by decide +kernel
theorem zxt89 : z_MT[89]? = some zxm89 := rfl
set_option maxRecDepth 20000 in
theorem zxh89 : zk_ok1 lw_tbl zxm89 := ⟨List.mem_filter.mpr ⟨zxin6 _ (List.mem_of_getElem? (i := 5) rfl), rfl⟩, List.mem_filter.mpr ⟨List.mem_of_getElem? (i := 115) (by decide +kernel), rfl⟩, by decide +kernel, by decide +kernel⟩
theorem zxp90 : plainFor zxm90.1 = true := by decide +kernel
theorem zxt90 : z_MT[90]? = some zxm90 := rfl
set_option maxRecDepth 20000 in
theorem zxh90 : zk_ok1 lw_tbl zxm90 := ⟨List.mem_filter.mpr ⟨zxin6 _ (List.mem_of_getElem? (i := 26) rfl), rfl⟩, List.mem_filter.mpr ⟨List.mem_of_getElem? (i := 115) (by decide +kernel), rfl⟩, by decide +kernel, by decide +kernel⟩
theorem zxp91 : plainFor zxm91.1 = true := by decide +kernel
theorem zxt91 : z_MT[91]? = some zxm91 := rfl
set_option maxRecDepth 20000 in
theorem zxh91 : zk_ok1 lw_tbl zxm91 := ⟨List.mem_filter.mpr ⟨zxin6 _ (List.mem_of_getElem? (i := 47) rfl), rfl⟩, List.mem_filter.mpr ⟨List.mem_of_getElem? (i := 115) (by decide +kernel), rfl⟩, by decide +kernel, by decide +kernel⟩
theorem zxp92 : plainFor zxm92.1 = true := by decide +kernel
theorem zxt92 : z_MT[92]? = some zxm92 := rfl
set_option maxRecDepth 20000 in
theorem zxh92 : zk_ok1 lw_tbl zxm92 := ⟨List.mem_filter.mpr ⟨zxin6 _ (List.mem_of_getElem? (i := 52) rfl), rfl⟩, List.mem_filter.mpr ⟨List.mem_of_getElem? (i := 115) (by decide +kernel), rfl⟩, by decide +kernel, by decide +kernel⟩
theorem zxp93 : plainFor zxm93.1 = true := by decide +kernel
theorem zxt93 : z_MT[93]? = some zxm93 := rfl
set_option maxRecDepth 20000 in
theorem zxh93 : zk_ok1 lw_tbl zxm93 := ⟨List.mem_filter.mpr ⟨zxin6 _ (List.mem_of_getElem? (i := 57) rfl), rfl⟩, List.mem_filter.mpr ⟨List.mem_of_getElem? (i := 123) (by decide +kernel), rfl⟩, by decide +kernel, by decide +kernel⟩
theorem zxp94 : plainFor zxm94.1 = true := by decide +kernel
theorem zxt94 : z_MT[94]? = some zxm94 := rfl
set_option maxRecDepth 20000 in
theorem zxh94 : zk_ok1 lw_tbl zxm94 := ⟨List.mem_filter.mpr ⟨zxin6 _ (List.mem_of_getElem? (i := 61) rfl), rfl⟩, List.mem_filter.mpr ⟨List.mem_of_getElem? (i := 115) (by decide +kernel), rfl⟩, by decide +kernel, by decide +kernel⟩
theorem zxp95 : plainFor zxm95.1 = true := by decide +kernel
theorem zxt95 : z_MT[95]? = some zxm95 := rfl
set_option maxRecDepth 20000 in
theorem zxh95 : zk_ok1 lw_tbl zxm95 := ⟨List.mem_filter.mpr ⟨zxin6 _ (List.mem_of_getElem? (i := 66) rfl), rfl⟩, List.mem_filter.mpr ⟨List.mem_of_getElem? (i := 115) (by decide +kernel), rfl⟩, by decide +kernel, by decide +kernel⟩
theorem zxp96 : plainFor zxm96.1 = true := by decide +kernel
theorem zxt96 : z_MT[96]? = some zxm96 := rfl
set_option maxRecDepth 20000 in
theorem zxh96 : zk_ok1 lw_tbl zxm96 := ⟨List.mem_filter.mpr ⟨zxin6 _ (List.mem_of_getElem? (i := 70) rfl), rfl⟩, List.mem_filter.mpr ⟨List.mem_of_getElem? (i := 117) (by decide +kernel), rfl⟩, by decide +kernel, by decide +kernel⟩
theorem zxp97 : plainFor zxm97.1 = true := by decide +kernel
theorem zxt97 : z_MT[97]? = some zxm97 := rfl
set_option maxRecDepth 20000 in
theorem zxh97 : zk_ok1 lw_tbl zxm97 := ⟨List.mem_filter.mpr ⟨zxin6 _ (List.mem_of_getElem? (i := 75) rfl), rfl⟩, List.mem_filter.mpr ⟨List.mem_of_getElem? (i := 115) (by decide +kernel), rfl⟩, by decide +kernel, by decide +kernel⟩
theorem zxp98 : plainFor zxm98.1 = true := by decide +kernel
theorem zxt98 : z_MT[98]? = some zxm98 := rfl
set_option maxRecDepth 20000 in
theorem zxh98 : zk_ok1 lw_tbl zxm98 := ⟨List.mem_filter.mpr ⟨zxin6 _ (List.mem_of_getElem? (i := 79) rfl), rfl⟩, List.mem_filter.mpr ⟨List.mem_of_getElem? (i := 115) (by decide +kernel), rfl⟩, by decide +kernel, by decide +kernel⟩
theorem zxp99 : plainFor zxm99.1 = true := by decide +kernel
theorem zxt99 : z_MT[99]? = some zxm99 := rfl
set_option maxRecDepth 20000 in
theorem zxh99 : zk_ok1 lw_tbl zxm99 := ⟨List.mem_filter.mpr ⟨zxin6 _ (List.mem_of_getElem? (i := 88) rfl), rfl⟩, List.mem_filter.mpr ⟨List.mem_of_getElem? (i := 115) (by decide +kernel), rfl⟩, by decide +kernel, by decide +kernel⟩
theorem zxp100 : plainFor zxm100.1 = true := by decide +kernel
theorem zxt100 : z_MT[100]? = some zxm100 := rfl
set_option maxRecDepth 20000 in
theorem zxh100 : zk_ok1 lw_tbl zxm100 := ⟨List.mem_filter.mpr ⟨zxin6 _ (List.mem_of_getElem? (i := 92) rfl), rfl⟩, List.mem_filter.mpr ⟨List.mem_of_getElem? (i := 117) (by decide +kernel), rfl⟩, by decide +kernel, by decide +kernel⟩
theorem zxp101 : plainFor zxm101.1 = true := by decide +kernel
theorem zxt101 : z_MT[101]? = some zxm101 := rfl
set_option maxRecDepth 20000 in
theorem zxh101 : zk_ok1 lw_tbl zxm101 := ⟨List.mem_filter.mpr ⟨zxin6 _ (List.mem_of_getElem? (i := 98) rfl), rfl⟩, List.mem_filter.mpr ⟨List.mem_of_getElem? (i := 128) (by decide +kernel), rfl⟩, by decide +kernel, by decide +kernel⟩
theorem zxp102 : plainFor zxm102.1 = true := by decide +kernel
theorem zxt102 : z_MT[102]? = some zxm102 := rfl
set_option maxRecDepth 20000 in
theorem zxh102 : zk_ok1 lw_tbl zxm102 := ⟨List.mem_filter.mpr ⟨zxin7 _ (List.mem_of_getElem? (i := 56) rfl), rfl⟩, List.mem_filter.mpr ⟨List.mem_of_getElem? (i := 128) (by decide +kernel), rfl⟩, by decide +kernel, by decide +kernel⟩
theorem zxp103 : plainFor zxm103.1 = true := by decide +kernel
theorem zxt103 : z_MT[103]? = some zxm103 := rfl
set_option maxRecDepth 20000 in
theorem zxh103 : zk_ok1 lw_tbl zxm103 := ⟨List.mem_filter.mpr ⟨zxin7 _ (List.mem_of_getElem? (i := 59) rfl), rfl⟩, List.mem_filter.mpr ⟨List.mem_of_getElem? (i := 128) (by decide +kernel), rfl⟩, by decide +kernel, by decide +kernel⟩
theorem zxp104 : plainFor zxm104.1 = true := by decide +kernel
theorem zxt104 : z_MT[104]? = some zxm104 := rfl
set_option maxRecDepth 20000 in
theorem zxh104 : zk_ok1 lw_tbl zxm104 := ⟨List.mem_filter.mpr ⟨zxin7 _ (List.mem_of_getElem? (i := 62) rfl), rfl⟩, List.mem_filter.mpr ⟨List.mem_of_getElem? (i := 128) (by decide +kernel), rfl⟩, by decide +kernel, by decide +kernel⟩
theorem zxp105 : plainFor zxm105.1 = true := by decide +kernel
theorem zxt105 : z_MT[105]? = some zxm105 := rfl
set_option maxRecDepth 20000 in
theorem zxh105 : zk_ok1 lw_tbl zxm105 := ⟨List.mem_filter.mpr ⟨zxin7 _ (List.mem_of_getElem? (i := 66) rfl), rfl⟩, List.mem_filter.mpr ⟨List.mem_of_getElem? (i := 128) (by decide +kernel), rfl⟩, by decide +kernel, by decide +kernel⟩
theorem zxp106 : plainFor zxm106.1 = true := by decide +kernel
theorem zxt106 : z_MT[106]? = some zxm106 := rfl
set_option maxRecDepth 20000 in
theorem zxh106 : zk_ok1 lw_tbl zxm106 := ⟨List.mem_filter.mpr ⟨zxin7 _ (List.mem_of_getElem? (i := 70) rfl), rfl⟩, List.mem_filter.mpr ⟨List.mem_of_getElem? (i := 128) (by decide +kernel), rfl⟩, by decide +kernel, by decide +kernel⟩
theorem zxp107 : plainFor zxm107.1 = true := by decide +kernel
theorem zxt107 : z_MT[107]? = some zxm107 := rfl
set_option maxRecDepth 20000 in
theorem zxh107 : zk_ok1 lw_tbl zxm107 := ⟨List.mem_filter.mpr ⟨zxin7 _ (List.mem_of_getElem? (i := 73) rfl), rfl⟩, List.mem_filter.mpr ⟨List.mem_of_getElem? (i := 128) (by decide +kernel), rfl⟩, by decide +kernel, by decide +kernel⟩
theorem zxp108 : plainFor zxm108.1 = true := by decide +kernel
theorem zxt108 : z_MT[108]? = some zxm108 := rfl
set_option maxRecDepth 20000 in
theorem zxh108 : zk_ok1 lw_tbl zxm108 := ⟨List.mem_filter.mpr ⟨zxin7 _ (List.mem_of_getElem? (i := 77) rfl), rfl⟩, List.mem_filter.mpr ⟨List.mem_of_getElem? (i := 128) (by decide +kernel), rfl⟩, by decide +kernel, by decide +kernel⟩
theorem zxp109 : plainFor zxm109.1 = true := by decide +kernel
theorem zxt109 : z_MT[109]? = some zxm109 := rfl
set_option maxRecDepth 20000 in
theorem zxh109 : zk_ok1 lw_tbl zxm109 := ⟨List.mem_filter.mpr ⟨zxin7 _ (List.mem_of_getElem? (i := 81) rfl), rfl⟩, List.mem_filter.mpr ⟨List.mem_of_getElem? (i := 128) (by decide +kernel), rfl⟩, by decide +kernel, by decide +kernel⟩
theorem zxp110 : plainFor zxm110.1 = true := by decide +kernel
theorem zxt110 : z_MT[110]? = some zxm110 := rfl
set_option maxRecDepth 20000 in
theorem zxh110 : zk_ok1 lw_tbl zxm110 := ⟨List.mem_filter.mpr ⟨zxin7 _ (List.mem_of_getElem? (i := 85) rfl), rfl⟩, List.mem_filter.mpr ⟨List.mem_of_getElem? (i := 128) (by decide +kernel), rfl⟩, by decide +kernel, by decide +kernel⟩
theorem zxp111 : plainFor zxm111.1 = true := by decide +kernel
theorem zxt111 : z_MT[111]? = some zxm111 := rfl
set_option maxRecDepth 20000 in
theorem zxh111 : zk_ok1 lw_tbl zxm111 := ⟨List.mem_filter.mpr ⟨zxin7 _ (List.mem_of_getElem? (i := 90) rfl), rfl⟩, List.mem_filter.mpr ⟨List.mem_of_getElem? (i := 128) (by decide +kernel), rfl⟩, by decide +kernel, by decide +kernel⟩
theorem zxp112 : plainFor zxm112.1 = true := by decide +kernel
theorem zxt112 : z_MT[112]? = some zxm112 := rfl
set_option maxRecDepth 20000 in
theorem zxh112 : zk_ok1 lw_tbl zxm112 := ⟨List.mem_filter.mpr ⟨zxin7 _ (List.mem_of_getElem? (i := 94) rfl), rfl⟩, List.mem_filter.mpr ⟨List.mem_of_getElem? (i := 128) (by decide +kernel), rfl⟩, by decide +kernel, by decide +kernel⟩
theorem zxp113 : plainFor zxm113.1 = true := by decide +kernel
theorem zxt113 : z_MT[113]? = some zxm113 := rfl
set_option maxRecDepth 20000 in
theorem zxh113 : zk_ok1 lw_tbl zxm113 := ⟨List.mem_filter.mpr ⟨zxin7 _ (List.mem_of_getElem? (i := 98) rfl), rfl⟩, List.mem_filter.mpr ⟨List.mem_of_getElem? (i := 128) (by decide +kernel), rfl⟩, by decide +kernel, by decide +kernel⟩
theorem zxp114 : plainFor zxm114.1 = true := by decide +kernel
theorem zxt114 : z_MT[114]? = some zxm114 := rfl
set_option maxRecDepth 20000 in
theorem zxh114 : zk_ok1 lw_tbl zxm114 := ⟨List.mem_filter.mpr ⟨zxin7 _ (List.mem_of_getElem? (i := 102) rfl), rfl⟩, List.mem_filter.mpr ⟨List.mem_of_getElem? (i := 128) (by decide +kernel), rfl⟩, by decide +kernel, by decide +kernel⟩
theorem zxp115 : plainFor zxm115.1 = true := by decide +kernel
theorem zxt115 : z_MT[115]? = some zxm115 := rfl
set_option maxRecDepth 20000 in
theorem zxh115 : zk_ok1 lw_tbl zxm115 := ⟨List.mem_filter.mpr ⟨zxin7 _ (List.mem_of_getElem? (i := 106) rfl), rfl⟩, List.mem_filter.mpr ⟨List.mem_of_getElem? (i := 128) (by decide +kernel), rfl⟩, by decide +kernel, by decide +kernel⟩
theorem zxp116 : plainFor zxm116.1 = true := by decide +kernel
theorem zxt116 : z_MT[116]? = some zxm116 := rfl
set_option maxRecDepth 20000 in
theorem zxh116 : zk_ok1 lw_tbl zxm116 := ⟨List.mem_filter.mpr ⟨zxin7 _ (List.mem_of_getElem? (i := 110) rfl), rfl⟩, List.mem_filter.mpr ⟨List.mem_of_getElem? (i := 128) (by decide +kernel), rfl⟩, by decide +kernel, by decide +kernel⟩
theorem zxp117 : plainFor zxm117.1 = true := by decide +kernel
theorem zxt117 : z_MT[117]? = some zxm117 := rfl
set_option maxRecDepth 20000 in
theorem zxh117 : zk_ok1 lw_tbl zxm117 := ⟨List.mem_filter.mpr ⟨zxin7 _ (List.mem_of_getElem? (i := 114) rfl), rfl⟩, List.mem_filter.mpr ⟨List.mem_of_getElem? (i := 128) (by decide +kernel), rfl⟩, by decide +kernel, by decide +kernel⟩
theorem zxp118 : plainFor zxm118.1 = true := by decide +kernel
theorem zxt118 : z_MT[118]? = some zxm118 := rfl
set_option maxRecDepth 20000 in
theorem zxh118 : zk_ok1 lw_tbl zxm118 := ⟨List.mem_filter.mpr ⟨zxin7 _ (List.mem_of_getElem? (i := 118) rfl), rfl⟩, List.mem_filter.mpr ⟨List.mem_of_getElem? (i := 128) (by decide +kernel), rfl⟩, by decide +kernel, by decide +kernel⟩
theorem zxp119 : plainFor zxm119.1 = true := by decide +kernel
theorem zxt119 : z_MT[119]? = some zxm119 := rfl
set_option maxRecDepth 20000 in
theorem zxh119 : zk_ok1 lw_tbl zxm119 := ⟨List.mem_filter.mpr ⟨zxin7 _ (List.mem_of_getElem? (i := 204) rfl), rfl⟩, List.mem_filter.mpr ⟨List.mem_of_getElem? (i := 128) (by decide +kernel), rfl⟩, by decide +kernel, by decide +kernel⟩
theorem zxp120 : plainFor zxm120.1 = true := by decide +kernel
theorem zxt120 : z_MT[120]? = some zxm120 := rfl
set_option maxRecDepth 20000 in
theorem zxh120 : zk_ok1 lw_tbl zxm120 := ⟨List.mem_filter.mpr ⟨zxin7 _ (List.mem_of_getElem? (i := 208) rfl), rfl⟩, List.mem_filter.mpr ⟨List.mem_of_getElem? (i := 128) (by decide +kernel), rfl⟩, by decide +kernel, by decide +kernel⟩
theorem zxp121 : plainFor zxm121.1 = true := by decide +kernel
theorem zxt121 : z_MT[121]? = some zxm121 := rfl
set_option maxRecDepth 20000 in
theorem zxh121 : zk_ok1 lw_tbl zxm121 := ⟨List.mem_filter.mpr ⟨zxin7 _ (List.mem_of_getElem? (i := 212) rfl), rfl⟩, List.mem_filter.mpr ⟨List.mem_of_getElem? (i := 128) (by decide +kernel), rfl⟩, by decide +kernel, by decide +kernel⟩
theorem zxp122 : plainFor zxm122.1 = true := by decide +kernel
theorem zxt122 : z_MT[122]? = some zxm122 := rfl
set_option maxRecDepth 20000 in
theorem zxh122 : zk_ok1 lw_tbl zxm122 := ⟨List.mem_filter.mpr ⟨zxin7 _ (List.mem_of_getElem? (i := 216) rfl), rfl⟩, List.mem_filter.mpr ⟨List.mem_of_getElem? (i := 128) (by decide +kernel), rfl⟩, by decide +kernel, by decide +kernel⟩
theorem zxp123 : plainFor zxm123.1 = true := by decide +kernel
theorem zxt123 : z_MT[123]? = some zxm123 := rfl
set_option maxRecDepth 20000 in
theorem zxh123 : zk_ok1 lw_tbl zxm123 := ⟨List.mem_filter.mpr ⟨zxin7 _ (List.mem_of_getElem? (i := 234) rfl), rfl⟩, List.mem_filter.mpr ⟨List.mem_of_getElem? (i := 128) (by decide +kernel), rfl⟩, by decide +kernel, by decide +kernel⟩
theorem zxp124 : plainFor zxm124.1 = true := by decide +kernel
theorem zxt124 : z_MT[124]? = some zxm124 := rfl
set_option maxRecDepth 20000 in
theorem zxh124 : zk_ok1 lw_tbl zxm124 := ⟨List.mem_filter.mpr ⟨zxin7 _ (List.mem_of_getElem? (i := 238) rfl), rfl⟩, List.mem_filter.mpr ⟨List.mem_of_getElem? (i := 128) (by decide +kernel), rfl⟩, by decide +kernel, by decide +kernel⟩
theorem zxp125 : plainFor zxm125.1 = true := by decide +kernel
theorem zxt125 : z_MT[125]? = some zxm125 := rfl
set_option maxRecDepth 20000 in
theorem zxh125 : zk_ok1 lw_tbl zxm125 := ⟨List.mem_filter.mpr ⟨zxin8 _ (List.mem_of_getElem? (i := 16) rfl), rfl⟩, List.mem_filter.mpr ⟨List.mem_of_getElem? (i := 128) (by decide +kernel), rfl⟩, by decide +kernel, by decide +kernel⟩
theorem zxp126 : plainFor zxm126.1 = true := by decide +kernel
theorem zxt126 : z_MT[126]? = some zxm126 := rfl
set_option maxRecDepth 20000 in
theorem zxh126 : zk_ok1 lw_tbl zxm126 := ⟨List.mem_filter.mpr ⟨zxin8 _ (List.mem_of_getElem? (i := 20) rfl), rfl⟩, List.mem_filter.mpr ⟨List.mem_of_getElem? (i := 128) (by decide +kernel), rfl⟩, by decide +kernel, by decide +kernel⟩
theorem zxp127 : plainFor zxm127.1 = true := by decide +kernel
theorem zxt127 : z_MT[127]? = some zxm127 := rfl
set_option maxRecDepth 20000 in
theorem zxh127 : zk_ok1 lw_tbl zxm127 := ⟨List.mem_filter.mpr ⟨zxin8 _ (List.mem_of_getElem? (i := 28) rfl), rfl⟩, List.mem_filter.mpr ⟨List.mem_of_getElem? (i := 128) (by decide +kernel), rfl⟩, by decide +kernel, by decide +kernel⟩
theorem zxp128 : plainFor zxm128.1 = true := by decide +kernel
theorem zxt128 : z_MT[128]? = some zxm128 := rfl
set_option maxRecDepth 20000 in
theorem zxh128 : zk_ok1 lw_tbl zxm128 := ⟨List.mem_filter.mpr ⟨zxin8 _ (List.mem_of_getElem? (i := 32) rfl), rfl⟩, List.mem_filter.mpr ⟨List.mem_of_getElem? (i := 128) (by decide +kernel), rfl⟩, by decide +kernel, by decide +kernel⟩
theorem zxp129 : plainFor zxm129.1 = true := by decide +kernel
theorem zxt129 : z_MT[129]? = some zxm129 := rfl
set_option maxRecDepth 20000 in
theorem zxh129 : zk_ok1 lw_tbl zxm129 := ⟨List.mem_filter.mpr ⟨zxin8 _ (List.mem_of_getElem? (i := 39) rfl), rfl⟩, List.mem_filter.mpr ⟨List.mem_of_getElem? (i := 128) (by decide +kernel), rfl⟩, by decide +kernel, by decide +kernel⟩
theorem zxp130 : plainFor zxm130.1 = true := by decide +kernel
theorem zxt130 : z_MT[130]? = some zxm130 := rfl
set_option maxRecDepth 20000 in
theorem zxh130 : zk_ok1 lw_tbl zxm130 := ⟨List.mem_filter.mpr ⟨zxin8 _ (List.mem_of_getElem? (i := 46) rfl), rfl⟩, List.mem_filter.mpr ⟨List.mem_of_getElem? (i := 128) (by decide +kernel), rfl⟩, by decide +kernel, by decide +kernel⟩
theorem zxp131 : plainFor zxm131.1 = true := by decide +kernel
theorem zxt131 : z_MT[131]? = some zxm131 := rfl
set_option maxRecDepth 20000 in
theorem zxh131 : zk_ok1 lw_tbl zxm131 := ⟨List.mem_filter.mpr ⟨zxin8 _ (List.mem_of_getElem? (i := 50) rfl), rfl⟩, List.mem_filter.mpr ⟨List.mem_of_getElem? (i := 128) (by decide +kernel), rfl⟩, by decide +kernel, by decide +kernel⟩
theorem zxp132 : plainFor zxm132.1 = true := by decide +kernel
theorem zxt132 : z_MT[132]? = some zxm132 := rfl
set_option maxRecDepth 20000 in
theorem zxh132 : zk_ok1 lw_tbl zxm132 := ⟨List.mem_filter.mpr ⟨zxin8 _ (List.mem_of_getElem? (i := 54) rfl), rfl⟩, List.mem_filter.mpr ⟨List.mem_of_getElem? (i := 128) (by decide +kernel), rfl⟩, by decide +kernel, by decide +kernel⟩
theorem zxp133 : plainFor zxm133.1 = true := by decide +kernel
theorem zxt133 : z_MT[133]? = some zxm133 := rfl
set_option maxRecDepth 20000 in
theorem zxh133 : zk_ok1 lw_tbl zxm133 := ⟨List.mem_filter.mpr ⟨zxin8 _ (List.mem_of_getElem? (i := 58) rfl), rfl⟩, List.mem_filter.mpr ⟨List.mem_of_getElem? (i := 128) (by decide +kernel), rfl⟩, by decide +kernel, by decide +kernel⟩
theorem zxp134 : plainFor zxm134.1 = true := by decide +kernel
theorem zxt134 : z_MT[134]? = some zxm134 := rfl
set_option maxRecDepth 20000 in
theorem zxh134 : zk_ok1 lw_tbl zxm134 := ⟨List.mem_filter.mpr ⟨zxin8 _ (List.mem_of_getElem? (i := 62) rfl), rfl⟩, List.mem_filter.mpr ⟨List.mem_of_getElem? (i := 128) (by decide +kernel), rfl⟩, by decide +kernel, by decide +kernel⟩
theorem zxp135 : plainFor zxm135.1 = true := by decide +kernel
theorem zxt135 : z_MT[135]? = some zxm135 := rfl
set_option maxRecDepth 20000 in
theorem zxh135 : zk_ok1 lw_tbl zxm135 := ⟨List.mem_filter.mpr ⟨zxin8 _ (List.mem_of_getElem? (i := 78) rfl), rfl⟩, List.mem_filter.mpr ⟨List.mem_of_getElem? (i := 128) (by decide +kernel), rfl⟩, by decide +kernel, by decide +kernel⟩
theorem zxp136 : plainFor zxm136.1 = true := by decide +kernel
theorem zxt136 : z_MT[136]? = some zxm136 := rfl
set_option maxRecDepth 20000 in
theorem zxh136 : zk_ok1 lw_tbl zxm136 := ⟨List.mem_filter.mpr ⟨zxin8 _ (List.mem_of_getElem? (i := 94) rfl), rfl⟩, List.mem_filter.mpr ⟨List.mem_of_getElem? (i := 128) (by decide +kernel), rfl⟩, by decide +kernel, by decide +kernel⟩
theorem zxp137 : plainFor zxm137.1 = true := by decide +kernel
theorem zxt137 : z_MT[137]? = some zxm137 := rfl
set_option maxRecDepth 20000 in
theorem zxh137 : zk_ok1 lw_tbl zxm137 := ⟨List.mem_filter.mpr ⟨zxin8 _ (List.mem_of_getElem? (i := 102) rfl), rfl⟩, List.mem_filter.mpr ⟨List.mem_of_getElem? (i := 128) (by decide +kernel), rfl⟩, by decide +kernel, by decide +kernel⟩
theorem zxp138 : plainFor zxm138.1 = true := by decide +kernel
theorem zxt138 : z_MT[138]? = some zxm138 := rfl
set_option maxRecDepth 20000 in
theorem zxh138 : zk_ok1 lw_tbl zxm138 := ⟨List.mem_filter.mpr ⟨zxin8 _ (List.mem_of_getElem? (i := 106) rfl), rfl⟩, List.mem_filter.mpr ⟨List.mem_of_getElem? (i := 128) (by decide +kernel), rfl⟩, by decide +kernel, by decide +kernel⟩
theorem zxp139 : plainFor zxm139.1 = true := by decide +kernel
theorem zxt139 : z_MT[139]? = some zxm139 := rfl
set_option maxRecDepth 20000 in
theorem zxh139 : zk_ok1 lw_tbl zxm139 := ⟨List.mem_filter.mpr ⟨zxin8 _ (List.mem_of_getElem? (i := 110) rfl), rfl⟩, List.mem_filter.mpr ⟨List.mem_of_getElem? (i := 128) (by decide +kernel), rfl⟩, by decide +kernel, by decide +kernel⟩
theorem zxp140 : plainFor zxm140.1 = true := by decide +kernel
theorem zxt140 : z_MT[140]? = some zxm140 := rfl
set_option maxRecDepth 20000 in
theorem zxh140 : zk_ok1 lw_tbl zxm140 := ⟨List.mem_filter.mpr ⟨zxin8 _ (List.mem_of_getElem? (i := 114) rfl), rfl⟩, List.mem_filter.mpr ⟨List.mem_of_getElem? (i := 128) (by decide +kernel), rfl⟩, by decide +kernel, by decide +kernel⟩
theorem zxp141 : plainFor zxm141.1 = true := by decide +kernel
theorem zxt141 : z_MT[141]? = some zxm141 := rfl
set_option maxRecDepth 20000 in
theorem zxh141 : zk_ok1 lw_tbl zxm141 := ⟨List.mem_filter.mpr ⟨zxin8 _ (List.mem_of_getElem? (i := 133) rfl), rfl⟩, List.mem_filter.mpr ⟨List.mem_of_getElem? (i := 128) (by decide +kernel), rfl⟩, by decide +kernel, by decide +kernel⟩
theorem zxp142 : plainFor zxm142.1 = true := by decide +kernel
theorem zxt142 : z_MT[142]? = some zxm142 := rfl
set_option maxRecDepth 20000 in
theorem zxh142 : zk_ok1 lw_tbl zxm142 := ⟨List.mem_filter.mpr ⟨zxin8 _ (List.mem_of_getElem? (i := 142) rfl), rfl⟩, List.mem_filter.mpr ⟨List.mem_of_getElem? (i := 128) (by decide +kernel), rfl⟩, by decide +kernel, by decide +kernel⟩
theorem zxp143 : plainFor zxm143.1 = true := by decide +kernel
theorem zxt143 : z_MT[143]? = some zxm143 := rfl
set_option maxRecDepth 20000 in
theorem zxh143 : zk_ok1 lw_tbl zxm143 := ⟨List.mem_filter.mpr ⟨zxin8 _ (List.mem_of_getElem? (i := 159) rfl), rfl⟩, List.mem_filter.mpr ⟨List.mem_of_getElem? (i := 128) (by decide +kernel), rfl⟩, by decide +kernel, by decide +kernel⟩
theorem zxp144 : plainFor zxm144.1 = true := by decide +kernel
theorem zxt144 : z_MT[144]? = some zxm144 := rfl
set_option maxRecDepth 20000 in
theorem zxh144 : zk_ok1 lw_tbl zxm144 := ⟨List.mem_filter.mpr ⟨zxin8 _ (List.mem_of_getElem? (i := 167) rfl), rfl⟩, List.mem_filter.mpr ⟨List.mem_of_getElem? (i := 128) (by decide +kernel), rfl⟩, by decide +kernel, by decide +kernel⟩
theorem zxp145 : plainFor zxm145.1 = true := by decide +kernel
theorem zxt145 : z_MT[145]? = some zxm145 := rfl
set_option maxRecDepth 20000 in
theorem zxh145 : zk_ok1 lw_tbl zxm145 := ⟨List.mem_filter.mpr ⟨zxin8 _ (List.mem_of_getElem? (i := 187) rfl), rfl⟩, List.mem_filter.mpr ⟨List.mem_of_getElem? (i := 128) (by decide +kernel), rfl⟩, by decide +kernel, by decide +kernel⟩
theorem zxp146 : plainFor zxm146.1 = true := by decide +kernel
theorem zxt146 : z_MT[146]? = some zxm146 := rfl
set_option maxRecDepth 20000 in
theorem zxh146 : zk_ok1 lw_tbl zxm146 := ⟨List.mem_filter.mpr ⟨zxin8 _ (List.mem_of_getElem? (i := 191) rfl), rfl⟩, List.mem_filter.mpr ⟨List.mem_of_getElem? (i := 128) (by decide +kernel), rfl⟩, by decide +kernel, by decide +kernel⟩
theorem zxp147 : plainFor zxm147.1 = true := by decide +kernel
theorem zxt147 : z_MT[147]? = some zxm147 := rfl
set_option maxRecDepth 20000 in
theorem zxh147 : zk_ok1 lw_tbl zxm147 := ⟨List.mem_filter.mpr ⟨zxin8 _ (List.mem_of_getElem? (i := 194) rfl), rfl⟩, List.mem_filter.mpr ⟨List.mem_of_getElem? (i := 128) (by decide +kernel), rfl⟩, by decide +kernel, by decide +kernel⟩
theorem zxp148 : plainFor zxm148.1 = true := by decide +kernel
theorem zxt148 : z_MT[148]? = some zxm148 := rfl
set_option maxRecDepth 20000 in
theorem zxh148 : zk_ok1 lw_tbl zxm148 := ⟨List.mem_filter.mpr ⟨zxin8 _ (List.mem_of_getElem? (i := 198) rfl), rfl⟩, List.mem_filter.mpr ⟨List.mem_of_getElem? (i := 128) (by decide +kernel), rfl⟩, by decide +kernel, by decide +kernel⟩
theorem zxp149 : plainFor zxm149.1 = true := by decide +kernel
theorem zxt149 : z_MT[149]? = some zxm149 := rfl
set_option maxRecDepth 20000 in
theorem zxh149 : zk_ok1 lw_tbl zxm149 := ⟨List.mem_filter.mpr ⟨zxin8 _ (List.mem_of_getElem? (i := 202) rfl), rfl⟩, List.mem_filter.mpr ⟨List.mem_of_getElem? (i := 128) (by decide +kernel), rfl⟩, by decide +kernel, by decide +kernel⟩
theorem zxp150 : plainFor zxm150.1 = true := by decide +kernel
theorem zxt150 : z_MT[150]? = some zxm150 := rfl
set_option maxRecDepth 20000 in
theorem zxh150 : zk_ok1 lw_tbl zxm150 := ⟨List.mem_filter.mpr ⟨zxin8 _ (List.mem_of_getElem? (i := 206) rfl), rfl⟩, List.mem_filter.mpr ⟨List.mem_of_getElem? (i := 128) (by decide +kernel), rfl⟩, by decide +kernel, by decide +kernel⟩
theorem zxp151 : plainFor zxm151.1 = true := by decide +kernel
theorem zxt151 : z_MT[151]? = some zxm151 := rfl
set_option maxRecDepth 20000 in
theorem zxh151 : zk_ok1 lw_tbl zxm151 := ⟨List.mem_filter.mpr ⟨zxin8 _ (List.mem_of_getElem? (i := 209) rfl), rfl⟩, List.mem_filter.mpr ⟨List.mem_of_getElem? (i := 128) (by decide +kernel), rfl⟩, by decide +kernel, by decide +kernel⟩
theorem zxp152 : plainFor zxm152.1 = true := by decide +kernel
theorem zxt152 : z_MT[152]? = some zxm152 := rfl
set_option maxRecDepth 20000 in
theorem zxh152 : zk_ok1 lw_tbl zxm152 := ⟨List.mem_filter.mpr ⟨zxin8 _ (List.mem_of_getElem? (i := 213) rfl), rfl⟩, List.mem_filter.mpr ⟨List.mem_of_getElem? (i := 128) (by decide +kernel), rfl⟩, by decide +kernel, by decide +kernel⟩
theorem zxp153 : plainFor zxm153.1 = true := by decide +kernel
theorem zxt153 : z_MT[153]? = some zxm153 := rfl
set_option maxRecDepth 20000 in
theorem zxh153 : zk_ok1 lw_tbl zxm153 := ⟨List.mem_filter.mpr ⟨zxin8 _ (List.mem_of_getElem? (i := 217) rfl), rfl⟩, List.mem_filter.mpr ⟨List.mem_of_getElem? (i := 128) (by decide +kernel), rfl⟩, by decide +kernel, by decide +kernel⟩
theorem zxp154 : plainFor zxm154.1 = true := by decide +kernel
theorem zxt154 : z_MT[154]? = some zxm154 := rfl
set_option maxRecDepth 20000 in
theorem zxh154 : zk_ok1 lw_tbl zxm154 := ⟨List.mem_filter.mpr ⟨zxin8 _ (List.mem_of_getElem? (i := 228) rfl), rfl⟩, List.mem_filter.mpr ⟨List.mem_of_getElem? (i := 128) (by decide +kernel), rfl⟩, by decide +kernel, by decide +kernel⟩
theorem zxp155 : plainFor zxm155.1 = true := by decide +kernel
theorem zxt155 : z_MT[155]? = some zxm155 := rfl
set_option maxRecDepth 20000 in
theorem zxh155 : zk_ok1 lw_tbl zxm155 := ⟨List.mem_filter.mpr ⟨zxin8 _ (List.mem_of_getElem? (i := 236) rfl), rfl⟩, List.mem_filter.mpr ⟨List.mem_of_getElem? (i := 128) (by decide +kernel), rfl⟩, by decide +kernel, by decide +kernel⟩
theorem zxp156 : plainFor zxm156.1 = true := by decide +kernel
theorem zxt156 : z_MT[156]? = some zxm156 := rfl
set_option maxRecDepth 20000 in
theorem zxh156 : zk_ok1 lw_tbl zxm156 := ⟨List.mem_filter.mpr ⟨zxin9 _ (List.mem_of_getElem? (i := 8) rfl), rfl⟩, List.mem_filter.mpr ⟨List.mem_of_getElem? (i := 128) (by decide +kernel), rfl⟩, by decide +kernel, by decide +kernel⟩
theorem zxp157 : plainFor zxm157.1 = true := by decide +kernel
theorem zxt157 : z_MT[157]? = some zxm157 := rfl
set_option maxRecDepth 20000 in
theorem zxh157 : zk_ok1 lw_tbl zxm157 := ⟨List.mem_filter.mpr ⟨zxin9 _ (List.mem_of_getElem? (i := 12) rfl), rfl⟩, List.mem_filter.mpr ⟨List.mem_of_getElem? (i := 128) (by decide +kernel), rfl⟩, by decide +kernel, by decide +kernel⟩
theorem zxp158 : plainFor zxm158.1 = true := by decide +kernel
theorem zxt158 : z_MT[158]? = some zxm158 := rfl
set_option maxRecDepth 20000 in
theorem zxh158 : zk_ok1 lw_tbl zxm158 := ⟨List.mem_filter.mpr ⟨zxin9 _ (List.mem_of_getElem? (i := 16) rfl), rfl⟩, List.mem_filter.mpr ⟨List.mem_of_getElem? (i := 128) (by decide +kernel), rfl⟩, by decide +kernel, by decide +kernel⟩
theorem zxp159 : plainFor zxm159.1 = true := by decide +kernel
theorem zxt159 : z_MT[159]? = some zxm159 := rfl
set_option maxRecDepth 20000 in
theorem zxh159 : zk_ok1 lw_tbl zxm159 := ⟨List.mem_filter.mpr ⟨zxin9 _ (List.mem_of_getElem? (i := 24) rfl), rfl⟩, List.mem_filter.mpr ⟨List.mem_of_getElem? (i := 128) (by decide +kernel), rfl⟩, by decide +kernel, by decide +kernel⟩
theorem zxp160 : plainFor zxm160.1 = true := by decide +kernel
theorem zxt160 : z_MT[160]? = some zxm160 := rfl
set_option maxRecDepth 20000 in
theorem zxh160 : zk_ok1 lw_tbl zxm160 := ⟨List.mem_filter.mpr ⟨zxin9 _ (List.mem_of_getElem? (i := 32) rfl), rfl⟩, List.mem_filter.mpr ⟨List.mem_of_getElem? (i := 128) (by decide +kernel), rfl⟩, by decide +kernel, by decide +kernel⟩
theorem zxp161 : plainFor zxm161.1 = true := by decide +kernel
theorem zxt161 : z_MT[161]? = some zxm161 := rfl
set_option maxRecDepth 20000 in
theorem zxh161 : zk_ok1 lw_tbl zxm161 := ⟨List.mem_filter.mpr ⟨zxin9 _ (List.mem_of_getElem? (i := 36) rfl), rfl⟩, List.mem_filter.mpr ⟨List.mem_of_getElem? (i := 128) (by decide +kernel), rfl⟩, by decide +kernel, by decide +kernel⟩
theorem zxp162 : plainFor zxm162.1 = true := by decide +kernel
theorem zxt162 : z_MT[162]? = some zxm162 := rfl
set_option maxRecDepth 20000 in
theorem zxh162 : zk_ok1 lw_tbl zxm162 := ⟨List.mem_filter.mpr ⟨zxin9 _ (List.mem_of_getElem? (i := 40) rfl), rfl⟩, List.mem_filter.mpr ⟨List.mem_of_getElem? (i := 128) (by decide +kernel), rfl⟩, by decide +kernel, by decide +kernel⟩
theorem zxp163 : plainFor zxm163.1 = true := by decide +kernel
theorem zxt163 : z_MT[163]? = some zxm163 := rfl
set_option maxRecDepth 20000 in
theorem zxh163 : zk_ok1 lw_tbl zxm163 := ⟨List.mem_filter.mpr ⟨zxin9 _ (List.mem_of_getElem? (i := 45) rfl), rfl⟩, List.mem_filter.mpr ⟨List.mem_of_getElem? (i := 128) (by decide +kernel), rfl⟩, by decide +kernel, by decide +kernel⟩
theorem zxp164 : plainFor zxm164.1 = true := by decide +kernel
theorem zxt164 : z_MT[164]? = some zxm164 := rfl
set_option maxRecDepth 20000 in
theorem zxh164 : zk_ok1 lw_tbl zxm164 := ⟨List.mem_filter.mpr ⟨zxin9 _ (List.mem_of_getElem? (i := 49) rfl), rfl⟩, List.mem_filter.mpr ⟨List.mem_of_getElem? (i := 128) (by decide +kernel), rfl⟩, by decide +kernel, by decide +kernel⟩
theorem zxp165 : plainFor zxm165.1 = true := by decide +kernel
theorem zxt165 : z_MT[165]? = some zxm165 := rfl
set_option maxRecDepth 20000 in
theorem zxh165 : zk_ok1 lw_tbl zxm165 := ⟨List.mem_filter.mpr ⟨zxin9 _ (List.mem_of_getElem? (i := 53) rfl), rfl⟩, List.mem_filter.mpr ⟨List.mem_of_getElem? (i := 128) (by decide +kernel), rfl⟩, by decide +kernel, by decide +kernel⟩
theorem zxp166 : plainFor zxm166.1 = true := by decide +kernel
theorem zxt166 : z_MT[166]? = some zxm166 := rfl
set_option maxRecDepth 20000 in
theorem zxh166 : zk_ok1 lw_tbl zxm166 := ⟨List.mem_filter.mpr ⟨zxin9 _ (List.mem_of_getElem? (i := 61) rfl), rfl⟩, List.mem_filter.mpr ⟨List.mem_of_getElem? (i := 128) (by decide +kernel), rfl⟩, by decide +kernel, by decide +kernel⟩
theorem zxp167 : plainFor zxm167.1 = true := by decide +kernel
theorem zxt167 : z_MT[167]? = some zxm167 := rfl
set_option maxRecDepth 20000 in
theorem zxh167 : zk_ok1 lw_tbl zxm167 := ⟨List.mem_filter.mpr ⟨zxin9 _ (List.mem_of_getElem? (i := 65) rfl), rfl⟩, List.mem_filter.mpr ⟨List.mem_of_getElem? (i := 128) (by decide +kernel), rfl⟩, by decide +kernel, by decide +kernel⟩
theorem zxhM0 : ∀ mm ∈ zxMT0, zk_ok1 lw_tbl mm := List.forall_mem_cons.mpr ⟨zxh0, List.forall_mem_cons.mpr ⟨zxh1, List.forall_mem_cons.mpr ⟨zxh2, List.forall_mem_cons.mpr ⟨zxh3, List.forall_mem_cons.mpr ⟨zxh4, List.forall_mem_cons.mpr ⟨zxh5, List.forall_mem_cons.mpr ⟨zxh6, List.forall_mem_cons.mpr ⟨zxh7, List.forall_mem_cons.mpr ⟨zxh8, List.forall_mem_cons.mpr ⟨zxh9, List.forall_mem_cons.mpr ⟨zxh10, List.forall_mem_cons.mpr ⟨zxh11, List.forall_mem_cons.mpr ⟨zxh12, List.forall_mem_cons.mpr ⟨zxh13, List.forall_mem_cons.mpr ⟨zxh14, List.forall_mem_cons.mpr ⟨zxh15, List.forall_mem_cons.mpr ⟨zxh16, List.forall_mem_cons.mpr ⟨zxh17, List.forall_mem_cons.mpr ⟨zxh18, List.forall_mem_cons.mpr ⟨zxh19, List.forall_mem_cons.mpr ⟨zxh20, List.forall_mem_cons.mpr ⟨zxh21, List.forall_mem_cons.mpr ⟨zxh22, List.forall_mem_cons.mpr ⟨zxh23, List.forall_mem_cons.mpr ⟨zxh24, List.forall_mem_cons.mpr ⟨zxh25, List.forall_mem_cons.mpr ⟨zxh26, List.forall_mem_cons.mpr ⟨zxh27, List.forall_mem_cons.mpr ⟨zxh28, List.forall_mem_cons.mpr ⟨zxh29, List.forall_mem_cons.mpr ⟨zxh30, List.forall_mem_cons.mpr ⟨zxh31, List.forall_mem_cons.mpr ⟨zxh32, List.forall_mem_cons.mpr ⟨zxh33, List.forall_mem_cons.mpr ⟨zxh34, List.forall_mem_cons.mpr ⟨zxh35, List.forall_mem_cons.mpr ⟨zxh36, List.forall_mem_cons.mpr ⟨zxh37, List.forall_mem_cons.mpr ⟨zxh38, List.forall_mem_cons.mpr ⟨zxh39, List.forall_mem_cons.mpr ⟨zxh40, List.forall_mem_cons.mpr ⟨zxh41, List.forall_mem_cons.mpr ⟨zxh42, List.forall_mem_cons.mpr ⟨zxh43, List.forall_mem_cons.mpr ⟨zxh44, List.forall_mem_cons.mpr ⟨zxh45, List.forall_mem_cons.mpr ⟨zxh46, List.forall_mem_cons.mpr ⟨zxh47, List.forall_mem_cons.mpr ⟨zxh48, List.forall_mem_cons.mpr ⟨zxh49, fun _ h => absurd h List.not_mem_nil⟩⟩⟩⟩⟩⟩⟩⟩⟩⟩⟩⟩⟩⟩⟩⟩⟩⟩⟩⟩⟩⟩⟩⟩⟩⟩⟩⟩⟩⟩⟩⟩⟩⟩⟩⟩⟩⟩⟩⟩⟩⟩⟩⟩⟩⟩⟩⟩⟩⟩
theorem zxhM1 : ∀ mm ∈ zxMT1, zk_ok1 lw_tbl mm := List.forall_mem_cons.mpr ⟨zxh50, List.forall_mem_cons.mpr ⟨zxh51, List.forall_mem_cons.mpr ⟨zxh52, List.forall_mem_cons.mpr ⟨zxh53, List.forall_mem_cons.mpr ⟨zxh54, List.forall_mem_cons.mpr ⟨zxh55, List.forall_mem_cons.mpr ⟨zxh56, List.forall_mem_cons.mpr ⟨zxh57, List.forall_mem_cons.mpr ⟨zxh58, List.forall_mem_cons.mpr ⟨zxh59, List.forall_mem_cons.mpr ⟨zxh60, List.forall_mem_cons.mpr ⟨zxh61, List.forall_mem_cons.mpr ⟨zxh62, List.forall_mem_cons.mpr ⟨zxh63, List.forall_mem_cons.mpr ⟨zxh64, List.forall_mem_cons.mpr ⟨zxh65, List.forall_mem_cons.mpr ⟨zxh66, List.forall_mem_cons.mpr ⟨zxh67, List.forall_mem_cons.mpr ⟨zxh68, List.forall_mem_cons.mpr ⟨zxh69, List.forall_mem_cons.mpr ⟨zxh70, List.forall_mem_cons.mpr ⟨zxh71, List.forall_mem_cons.mpr ⟨zxh72, List.forall_mem_cons.mpr ⟨zxh73, List.forall_mem_cons.mpr ⟨zxh74, List.forall_mem_cons.mpr ⟨zxh75, List.forall_mem_cons.mpr ⟨zxh76, List.forall_mem_cons.mpr ⟨zxh77, List.forall_mem_cons.mpr ⟨zxh78, List.forall_mem_cons.mpr ⟨zxh79, List.forall_mem_cons.mpr ⟨zxh80, List.forall_mem_cons.mpr ⟨zxh81, List.forall_mem_cons.mpr ⟨zxh82, List.forall_mem_cons.mpr ⟨zxh83, List.forall_mem_cons.mpr ⟨zxh84, List.forall_mem_cons.mpr ⟨zxh85, List.forall_mem_cons.mpr ⟨zxh86, List.forall_mem_cons.mpr ⟨zxh87, List.forall_mem_cons.mpr ⟨zxh88, List.forall_mem_cons.mpr ⟨zxh89, List.forall_mem_cons.mpr ⟨zxh90, List.forall_mem_cons.mpr ⟨zxh91, List.forall_mem_cons.mpr ⟨zxh92, List.forall_mem_cons.mpr ⟨zxh93, List.forall_mem_cons.mpr ⟨zxh94, List.forall_mem_cons.mpr ⟨zxh95, List.forall_mem_cons.mpr ⟨zxh96, List.forall_mem_cons.mpr ⟨zxh97, List.forall_mem_cons.mpr ⟨zxh98, List.forall_mem_cons.mpr ⟨zxh99, fun _ h => absurd h List.not_mem_nil⟩⟩⟩⟩⟩⟩⟩⟩⟩⟩⟩⟩⟩⟩⟩⟩⟩⟩⟩⟩⟩⟩⟩⟩⟩⟩⟩⟩⟩⟩⟩⟩⟩⟩⟩⟩⟩⟩⟩⟩⟩⟩⟩⟩⟩⟩⟩⟩⟩⟩
theorem zxhM2 : ∀ mm ∈ zxMT2, zk_ok1 lw_tbl mm := List.forall_mem_cons.mpr ⟨zxh100, List.forall_mem_cons.mpr ⟨zxh101, List.forall_mem_cons.mpr ⟨zxh102, List.forall_mem_cons.mpr ⟨zxh103, List.forall_mem_cons.mpr ⟨zxh104, List.forall_mem_cons.mpr ⟨zxh105, List.forall_mem_cons.mpr ⟨zxh106, List.forall_mem_cons.mpr ⟨zxh107, List.forall_mem_cons.mpr ⟨zxh108, List.forall_mem_cons.mpr ⟨zxh109, List.forall_mem_cons.mpr ⟨zxh110, List.forall_mem_cons.mpr ⟨zxh111, List.forall_mem_cons.mpr ⟨zxh112, List.forall_mem_cons.mpr ⟨zxh113, List.forall_mem_cons.mpr ⟨zxh114, List.forall_mem_cons.mpr ⟨zxh115, List.forall_mem_cons.mpr ⟨zxh116, List.forall_mem_cons.mpr ⟨zxh117, List.forall_mem_cons.mpr ⟨zxh118, List.forall_mem_cons.mpr ⟨zxh119, List.forall_mem_cons.mpr ⟨zxh120, List.forall_mem_cons.mpr ⟨zxh121, List.forall_mem_cons.mpr ⟨zxh122, List.forall_mem_cons.mpr ⟨zxh123, List.forall_mem_cons.mpr ⟨zxh124, List.forall_mem_cons.mpr ⟨zxh125, List.forall_mem_cons.mpr ⟨zxh126, List.forall_mem_cons.mpr ⟨zxh127, List.forall_mem_cons.mpr ⟨zxh128, List.forall_mem_cons.mpr ⟨zxh129, List.forall_mem_cons.mpr ⟨zxh130, List.forall_mem_cons.mpr ⟨zxh131, List.forall_mem_cons.mpr ⟨zxh132, List.forall_mem_cons.mpr ⟨zxh133, List.forall_mem_cons.mpr ⟨zxh134, List.forall_mem_cons.mpr ⟨zxh135, List.forall_mem_cons.mpr ⟨zxh136, List.forall_mem_cons.mpr ⟨zxh137, List.forall_mem_cons.mpr ⟨zxh138, List.forall_mem_cons.mpr ⟨zxh139, List.forall_mem_cons.mpr ⟨zxh140, List.forall_mem_cons.mpr ⟨zxh141, List.forall_mem_cons.mpr ⟨zxh142, List.forall_mem_cons.mpr ⟨zxh143, List.forall_mem_cons.mpr ⟨zxh144, List.forall_mem_cons.mpr ⟨zxh145, List.forall_mem_cons.mpr ⟨zxh146, List.forall_mem_cons.mpr ⟨zxh147, List.forall_mem_cons.mpr ⟨zxh148, List.forall_mem_cons.mpr ⟨zxh149, fun _ h => absurd h List.not_mem_nil⟩⟩⟩⟩⟩⟩⟩⟩⟩⟩⟩⟩⟩⟩⟩⟩⟩⟩⟩⟩⟩⟩⟩⟩⟩⟩⟩⟩⟩⟩⟩⟩⟩⟩⟩⟩⟩⟩⟩⟩⟩⟩⟩⟩⟩⟩⟩⟩⟩⟩
theorem zxhM3 : ∀ mm ∈ zxMT3, zk_ok1 lw_tbl mm := List.forall_mem_cons.mpr ⟨zxh150, List.forall_mem_cons.mpr ⟨zxh151, List.forall_mem_cons.mpr ⟨zxh152, List.forall_mem_cons.mpr ⟨zxh153, List.forall_mem_cons.mpr ⟨zxh154, List.forall_mem_cons.mpr ⟨zxh155, List.forall_mem_cons.mpr ⟨zxh156, List.forall_mem_cons.mpr ⟨zxh157, List.forall_mem_cons.mpr ⟨zxh158, List.forall_mem_cons.mpr ⟨zxh159, List.forall_mem_cons.mpr ⟨zxh160, List.forall_mem_cons.mpr ⟨zxh161, List.forall_mem_cons.mpr ⟨zxh162, List.forall_mem_cons.mpr ⟨zxh163, List.forall_mem_cons.mpr ⟨zxh164, List.forall_mem_cons.mpr ⟨zxh165, List.forall_mem_cons.mpr ⟨zxh166, List.forall_mem_cons.mpr ⟨zxh167, fun _ h => absurd h List.not_mem_nil⟩⟩⟩⟩⟩⟩⟩⟩⟩⟩⟩⟩⟩⟩⟩⟩⟩⟩
theorem z_kM : ∀ mm ∈ z_MT, zk_ok1 lw_tbl mm := List.forall_mem_append.mpr ⟨zxhM0, List.forall_mem_append.mpr ⟨zxhM1, List.forall_mem_append.mpr ⟨zxhM2, zxhM3⟩⟩⟩
def z_pC : List (List Nat) := [[571, 573, 575, 577, 579, 581, 583, 585, 587, 589, 591, 593, 595, 597, 599, 601, 603, 605, 607], [188, 190, 192, 194, 196, 198, 200, 202, 204, 206, 208, 210], [225, 227, 229], [242, 244], [288, 290, 292, 294, 296, 298, 300, 302, 304, 306, 308, 310, 312, 314, 316], [331, 333, 335, 337, 339], [355, 357, 359], [388, 390, 392, 394, 396, 398, 400, 402, 404, 406], [423, 425, 427, 429, 431, 433, 435], [463, 465, 467, 469, 471, 473, 475, 477, 479, 481, 483, 485, 487, 489, 491], [507, 509, 511, 513, 515, 517, 519], [537, 539, 541, 543, 545, 547, 549], [1478, 1480, 1482, 1484, 1486, 1488, 1490, 1492, 1494, 1496, 1498, 1500, 1502, 1504, 1506, 1508, 1510, 1512, 1514, 1516, 1518, 1520, 1522, 1524, 1526, 1528, 1530, 1532, 1534, 1536, 1538, 1540, 1542, 1544, 1546, 1548, 1550, 1552, 1554, 1556, 1558, 1560, 1562, 1564, 1566, 1568, 1570, 1572, 1574, 1576, 1578, 1580, 1582, 1584, 1586, 1588, 1590, 1592, 1594, 1596, 1598, 1600, 1602, 1604]]
theorem z_kcl : zk_cls lw_tbl z_FT 0 z_cl z_pC = true := by decide +kernel
theorem z_k9 : Cond.instanceMethod Lib.objectInit ∈ z_TB ∧ Cond.code Lib.objectInit ⟨#[0xb1]⟩ 1 none ∈ z_TB := ⟨List.mem_filter.mpr ⟨List.mem_of_getElem? (i := 143) (by decide +kernel), rfl⟩, List.mem_filter.mpr ⟨List.mem_of_getElem? (i := 144) (by decide +kernel), rfl⟩⟩
theorem z_k8 : Cond.native arraycopyName ∈ z_TB ∧ Cond.static arraycopyName ∈ z_TB ∧ Cond.initialized "java/lang/System" ∈ z_TB := ⟨List.mem_filter.mpr ⟨List.mem_of_getElem? (i := 1067) (by decide +kernel), rfl⟩, List.mem_filter.mpr ⟨List.mem_of_getElem? (i := 1066) (by decide +kernel), rfl⟩, List.mem_filter.mpr ⟨List.mem_of_getElem? (i := 136) (by decide +kernel), rfl⟩⟩
theorem z_ka : ∀ k, k < 3 → Cond.arrayClass (z_ek k) ∈ z_TB := fun k hk => match k, hk with | 0, _ => List.mem_filter.mpr ⟨List.mem_of_getElem? (i := 213) (by decide +kernel), rfl⟩ | 1, _ => List.mem_filter.mpr ⟨List.mem_of_getElem? (i := 319) (by decide +kernel), rfl⟩ | 2, _ => List.mem_filter.mpr ⟨List.mem_of_getElem? (i := 522) (by decide +kernel), rfl⟩
theorem z_phk : ∀ a ∈ z_PS, z_phok z_TYs z_PH a = true := by decide +kernel
abbrev z_KX : (Nat → Nat) → Nat → State → Heap → Prop := zs_K "StarTales$Law" "huimrcknsexyd" 48 13
theorem zs_wt : ∀ v ∈ zs_w, v ∈ z_TB := by
  have h : zs_w.all (fun v => decide (v ∈ z_TB)) = true := by decide +kernel
  exact fun v hv => of_decide_eq_true (List.all_eq_true.mp h v hv)
def z_KF0 : List (Nat × Nat × Nat) := [(10, 0, 0), (16, 0, 1), (19, 0, 2), (25, 0, 3), (29, 0, 4), (32, 0, 5), (39, 0, 6), (46, 0, 7), (50, 0, 8), (55, 3, 0), (62, 0, 9), (69, 0, 10), (73, 0, 11), (81, 0, 12), (85, 0, 13), (90, 7, 5), (96, 0, 14), (103, 0, 15), (112, 0, 16), (119, 0, 17), (123, 0, 18), (134, 1, 0), (138, 1, 1), (141, 1, 2), (144, 1, 3), (147, 1, 4), (150, 1, 5), (157, 1, 6), (161, 1, 8), (164, 1, 9), (167, 1, 10), (184, 2, 1), (187, 2, 2), (190, 3, 1), (218, 7, 4), (253, 6, 0), (260, 6, 1), (267, 8, 2), (306, 11, 0), (337, 1, 7), (360, 9, 0), (363, 9, 1), (370, 9, 2), (373, 9, 3), (411, 1, 11), (420, 4, 7)]
def z_KC0 : List (Nat × Nat) := [(7, 1), (22, 2), (36, 3), (43, 4), (53, 5), (66, 6), (76, 7), (88, 8), (100, 9), (107, 10), (116, 11)]
def z_KL0 : List (Nat × Nat × Nat) := [(1, 9, 0), (9, 3, 1), (24, 3, 2), (38, 3, 3), (45, 3, 4), (59, 2, 5), (68, 3, 6), (78, 2, 7), (93, 2, 8), (102, 3, 9), (109, 2, 10), (118, 3, 11), (126, 1, 13), (130, 1, 14), (153, 0, 16), (170, 1, 22), (174, 0, 23), (177, 0, 25), (181, 0, 27), (193, 0, 31), (197, 0, 33), (211, 0, 40), (214, 0, 41), (221, 0, 47), (225, 0, 50), (229, 0, 52), (232, 0, 53), (235, 1, 51), (240, 0, 54), (243, 0, 55), (246, 0, 56), (273, 0, 61), (276, 0, 63), (280, 0, 66), (283, 0, 68), (286, 0, 67), (293, 1, 29), (296, 1, 28), (311, 0, 72), (314, 0, 73), (317, 0, 74), (320, 0, 75), (323, 0, 24), (334, 0, 77), (340, 0, 79), (343, 0, 80), (353, 0, 85), (376, 0, 88), (395, 1, 65), (400, 0, 78), (403, 0, 48), (406, 0, 93), (414, 0, 96), (423, 0, 100), (429, 1, 34)]
def z_KT0 : List (Nat × Int32) := [(160, 16777215), (410, 65535)]
theorem z_ks0 (Ts : List Cond) (hTs : ∀ w ∈ z_TB, w ∈ Ts) (CA NA : List (Nat × Nat)) (AC : List (Nat × Nat × Nat × Int)) (IN : Option Nat) (hin : ∀ j r, IN = some j → z_cl[j]? = some r → r.1 = "StarTales") : z_KS Ts z_TB z_cl z_FT "StarTales" z_MT (z_KF0, z_KC0, z_KL0, z_KT0, CA, NA, AC, IN) := zk_ks z_kcl z_kM z_k9 z_k8 z_ka (pF := [552, 553, 554, 555, 556, 557, 558, 559, 560, 239, 561, 562, 563, 564, 565, 382, 566, 567, 568, 569, 570, 152, 155, 158, 164, 168, 170, 172, 179, 182, 185, 222, 224, 241, 380, 349, 352, 418, 530, 176, 445, 447, 449, 451, 187, 274]) (pC := [(145, 146, 116), (214, 215, 117), (232, 233, 118), (247, 248, 119), (320, 321, 121), (342, 343, 122), (362, 363, 123), (409, 410, 124), (438, 439, 125), (494, 495, 126), (523, 524, 127)]) (pL := [(142, 0, 0), (147, 148, 0), (216, 217, 0), (234, 235, 0), (249, 250, 0), (322, 323, 0), (344, 345, 0), (364, 365, 0), (411, 412, 0), (440, 441, 0), (496, 497, 0), (525, 526, 0), (614, 615, 0), (617, 618, 0), (624, 625, 626), (649, 650, 0), (652, 653, 654), (660, 661, 662), (668, 669, 670), (682, 683, 684), (690, 691, 692), (882, 883, 884), (887, 888, 889), (936, 938, 15), (956, 957, 958), (966, 967, 968), (978, 979, 980), (977, 961, 0), (983, 984, 985), (987, 988, 989), (995, 992, 993), (1061, 1062, 1063), (1072, 1073, 1074), (1091, 1092, 1093), (1106, 1107, 1108), (1110, 1096, 1097), (1055, 676, 0), (1056, 673, 0), (1152, 1153, 1154), (1165, 1166, 1167), (1174, 1175, 1176), (1178, 1179, 1180), (1186, 657, 658), (1214, 1215, 1216), (1241, 1223, 1224), (1242, 1228, 1229), (1266, 1268, 32), (1312, 1313, 1314), (1362, 1085, 0), (1367, 1219, 1220), (940, 941, 942), (1368, 1369, 1370), (1381, 1382, 1383), (1403, 1404, 1405), (916, 699, 0)]) (pT := [640, 1376]) (by decide +kernel) (by decide +kernel) (by decide +kernel) (by decide +kernel) Ts hTs CA NA AC IN hin
def z_KF1 : List (Nat × Nat × Nat) := [(11, 11, 0), (15, 11, 1), (18, 11, 2), (21, 11, 3), (24, 11, 4), (27, 11, 5), (30, 11, 6)]
def z_KC1 : List (Nat × Nat) := []
def z_KL1 : List (Nat × Nat × Nat) := [(3, 9, 0), (33, 1, 34), (42, 1, 51), (52, 0, 43), (57, 0, 44), (61, 0, 16), (74, 1, 37)]
def z_KT1 : List (Nat × Int32) := []
theorem z_ks1 (Ts : List Cond) (hTs : ∀ w ∈ z_TB, w ∈ Ts) (CA NA : List (Nat × Nat)) (AC : List (Nat × Nat × Nat × Int)) (IN : Option Nat) (hin : ∀ j r, IN = some j → z_cl[j]? = some r → r.1 = "StarTales$Chooser") : z_KS Ts z_TB z_cl z_FT "StarTales$Chooser" z_MT (z_KF1, z_KC1, z_KL1, z_KT1, CA, NA, AC, IN) := zk_ks z_kcl z_kM z_k9 z_k8 z_ka (pF := [529, 531, 532, 533, 534, 535, 536]) (pC := []) (pL := [(528, 0, 0), (1138, 699, 0), (1143, 961, 0), (1156, 896, 897), (1157, 901, 902), (1158, 625, 626), (1169, 860, 0)]) (pT := []) (by decide +kernel) (by decide +kernel) (by decide +kernel) (by decide +kernel) Ts hTs CA NA AC IN hin
def z_KF2 : List (Nat × Nat × Nat) := [(9, 4, 0), (13, 4, 1), (16, 4, 2), (20, 4, 3), (23, 4, 4), (26, 4, 5), (29, 4, 6), (32, 4, 7), (35, 4, 8), (39, 4, 9), (42, 4, 10), (45, 4, 11), (56, 4, 12), (59, 4, 13), (62, 4, 14), (75, 1, 6), (80, 1, 7), (83, 1, 3), (86, 1, 2)]
def z_KC2 : List (Nat × Nat) := []
def z_KL2 : List (Nat × Nat × Nat) := [(1, 9, 0), (69, 1, 37), (96, 1, 34), (102, 1, 35)]
def z_KT2 : List (Nat × Int32) := []
theorem z_ks2 (Ts : List Cond) (hTs : ∀ w ∈ z_TB, w ∈ Ts) (CA NA : List (Nat × Nat)) (AC : List (Nat × Nat × Nat × Int)) (IN : Option Nat) (hin : ∀ j r, IN = some j → z_cl[j]? = some r → r.1 = "StarTales$Law") : z_KS Ts z_TB z_cl z_FT "StarTales$Law" z_MT (z_KF2, z_KC2, z_KL2, z_KT2, CA, NA, AC, IN) := zk_ks z_kcl z_kM z_k9 z_k8 z_ka (pF := [264, 265, 266, 268, 269, 270, 271, 272, 275, 277, 279, 281, 283, 286, 287, 173, 175, 166, 162]) (pC := []) (pL := [(252, 0, 0), (899, 860, 0), (1164, 699, 0), (931, 768, 0)]) (pT := []) (by decide +kernel) (by decide +kernel) (by decide +kernel) (by decide +kernel) Ts hTs CA NA AC IN hin
def z_KF3 : List (Nat × Nat × Nat) := [(9, 5, 1), (15, 5, 2), (18, 5, 3), (21, 5, 0), (25, 5, 4), (47, 4, 7), (60, 4, 2)]
def z_KC3 : List (Nat × Nat) := []
def z_KL3 : List (Nat × Nat × Nat) := [(3, 9, 0), (29, 1, 34)]
def z_KT3 : List (Nat × Int32) := []
theorem z_ks3 (Ts : List Cond) (hTs : ∀ w ∈ z_TB, w ∈ Ts) (CA NA : List (Nat × Nat)) (AC : List (Nat × Nat × Nat × Int)) (IN : Option Nat) (hin : ∀ j r, IN = some j → z_cl[j]? = some r → r.1 = "StarTales$LawReader") : z_KS Ts z_TB z_cl z_FT "StarTales$LawReader" z_MT (z_KF3, z_KC3, z_KL3, z_KT3, CA, NA, AC, IN) := zk_ks z_kcl z_kM z_k9 z_k8 z_ka (pF := [327, 328, 329, 326, 330, 273, 267]) (pC := []) (pL := [(325, 0, 0), (698, 699, 0)]) (pT := []) (by decide +kernel) (by decide +kernel) (by decide +kernel) (by decide +kernel) Ts hTs CA NA AC IN hin
def z_KF4 : List (Nat × Nat × Nat) := [(11, 8, 0), (17, 8, 1), (20, 8, 2), (23, 8, 5), (27, 8, 6), (30, 8, 3), (34, 8, 4), (41, 6, 1), (52, 6, 2), (92, 7, 5), (99, 7, 0), (107, 7, 4)]
def z_KC4 : List (Nat × Nat) := []
def z_KL4 : List (Nat × Nat × Nat) := [(3, 9, 0), (55, 1, 51), (76, 1, 34)]
def z_KT4 : List (Nat × Int32) := []
theorem z_ks4 (Ts : List Cond) (hTs : ∀ w ∈ z_TB, w ∈ Ts) (CA NA : List (Nat × Nat)) (AC : List (Nat × Nat × Nat × Int)) (IN : Option Nat) (hin : ∀ j r, IN = some j → z_cl[j]? = some r → r.1 = "StarTales$Matcher") : z_KS Ts z_TB z_cl z_FT "StarTales$Matcher" z_MT (z_KF4, z_KC4, z_KL4, z_KT4, CA, NA, AC, IN) := zk_ks z_kcl z_kM z_k9 z_k8 z_ka (pF := [415, 416, 417, 421, 422, 419, 420, 351, 354, 383, 370, 379]) (pC := []) (pL := [(414, 0, 0), (1013, 961, 0), (1038, 699, 0)]) (pT := []) (by decide +kernel) (by decide +kernel) (by decide +kernel) (by decide +kernel) Ts hTs CA NA AC IN hin
def z_KF5 : List (Nat × Nat × Nat) := [(9, 10, 0), (15, 10, 1), (19, 10, 2), (22, 10, 3), (26, 10, 4), (29, 10, 5), (32, 10, 6), (49, 7, 4), (68, 1, 2), (71, 1, 3), (97, 7, 2), (100, 7, 3)]
def z_KC5 : List (Nat × Nat) := []
def z_KL5 : List (Nat × Nat × Nat) := [(3, 9, 0), (36, 4, 29), (40, 4, 28), (43, 0, 41), (52, 0, 64), (62, 1, 65), (78, 0, 67), (89, 1, 34), (103, 4, 22)]
def z_KT5 : List (Nat × Int32) := [(56, -1640531535)]
theorem z_ks5 (Ts : List Cond) (hTs : ∀ w ∈ z_TB, w ∈ Ts) (CA NA : List (Nat × Nat)) (AC : List (Nat × Nat × Nat × Int)) (IN : Option Nat) (hin : ∀ j r, IN = some j → z_cl[j]? = some r → r.1 = "StarTales$Patches") : z_KS Ts z_TB z_cl z_FT "StarTales$Patches" z_MT (z_KF5, z_KC5, z_KL5, z_KT5, CA, NA, AC, IN) := zk_ks z_kcl z_kM z_k9 z_k8 z_ka (pF := [500, 501, 502, 503, 504, 505, 506, 378, 160, 165, 374, 376]) (pC := []) (pL := [(499, 0, 0), (1076, 676, 0), (1077, 673, 0), (1078, 888, 889), (1079, 1081, 26), (1084, 1085, 0), (1095, 1096, 1097), (1119, 699, 0), (1128, 650, 0)]) (pT := [1090]) (by decide +kernel) (by decide +kernel) (by decide +kernel) (by decide +kernel) Ts hTs CA NA AC IN hin
def z_KF6 : List (Nat × Nat × Nat) := [(11, 9, 0), (15, 9, 1), (18, 9, 2), (21, 9, 3), (24, 9, 4), (28, 9, 5), (31, 9, 6), (34, 9, 7), (37, 9, 8), (40, 9, 9), (43, 9, 10), (46, 9, 11), (49, 9, 12), (52, 9, 13), (55, 9, 14), (75, 7, 0), (93, 1, 2), (104, 1, 0), (135, 7, 1)]
def z_KC6 : List (Nat × Nat) := []
def z_KL6 : List (Nat × Nat × Nat) := [(5, 9, 0), (58, 4, 29), (62, 4, 28), (65, 0, 42), (71, 0, 45), (84, 1, 65), (90, 1, 34), (110, 1, 37), (120, 0, 16), (131, 0, 61), (139, 0, 40), (147, 0, 77), (165, 1, 35)]
def z_KT6 : List (Nat × Int32) := []
theorem z_ks6 (Ts : List Cond) (hTs : ∀ w ∈ z_TB, w ∈ Ts) (CA NA : List (Nat × Nat)) (AC : List (Nat × Nat × Nat × Int)) (IN : Option Nat) (hin : ∀ j r, IN = some j → z_cl[j]? = some r → r.1 = "StarTales$Pilot") : z_KS Ts z_TB z_cl z_FT "StarTales$Pilot" z_MT (z_KF6, z_KC6, z_KL6, z_KT6, CA, NA, AC, IN) := zk_ks z_kcl z_kM z_k9 z_k8 z_ka (pF := [444, 446, 448, 450, 452, 453, 454, 455, 456, 457, 458, 459, 460, 461, 462, 369, 159, 153, 372]) (pC := []) (pL := [(443, 0, 0), (1199, 676, 0), (1200, 673, 0), (1201, 892, 893), (1202, 905, 906), (1204, 1085, 0), (1205, 699, 0), (1255, 860, 0), (1279, 625, 626), (1303, 1062, 1063), (1286, 883, 884), (1285, 1215, 1216), (1260, 768, 0)]) (pT := []) (by decide +kernel) (by decide +kernel) (by decide +kernel) (by decide +kernel) Ts hTs CA NA AC IN hin
def z_KF7 : List (Nat × Nat × Nat) := [(9, 2, 0), (15, 2, 1), (19, 2, 2)]
def z_KC7 : List (Nat × Nat) := []
def z_KL7 : List (Nat × Nat × Nat) := [(3, 9, 0), (22, 4, 28), (26, 4, 29), (29, 1, 51), (34, 0, 24), (38, 4, 14), (42, 4, 22), (46, 0, 27), (49, 8, 0)]
def z_KT7 : List (Nat × Int32) := []
theorem z_ks7 (Ts : List Cond) (hTs : ∀ w ∈ z_TB, w ∈ Ts) (CA NA : List (Nat × Nat)) (AC : List (Nat × Nat × Nat × Int)) (IN : Option Nat) (hin : ∀ j r, IN = some j → z_cl[j]? = some r → r.1 = "StarTales$Sea") : z_KS Ts z_TB z_cl z_FT "StarTales$Sea" z_MT (z_KF7, z_KC7, z_KL7, z_KT7, CA, NA, AC, IN) := zk_ks z_kcl z_kM z_k9 z_k8 z_ka (pF := [220, 221, 223]) (pC := []) (pL := [(219, 0, 0), (672, 673, 0), (675, 676, 0), (1407, 961, 0), (656, 657, 658), (1211, 618, 0), (1212, 650, 0), (1213, 669, 670), (1385, 0, 0)]) (pT := []) (by decide +kernel) (by decide +kernel) (by decide +kernel) (by decide +kernel) Ts hTs CA NA AC IN hin
def z_KF8 : List (Nat × Nat × Nat) := [(9, 1, 0), (15, 1, 1), (19, 1, 2), (22, 1, 3), (25, 1, 4), (28, 1, 5), (31, 1, 6), (34, 1, 7), (37, 1, 8), (40, 1, 9), (43, 1, 10), (46, 1, 11), (81, 4, 12)]
def z_KC8 : List (Nat × Nat) := []
def z_KL8 : List (Nat × Nat × Nat) := [(3, 9, 0), (49, 1, 65), (55, 1, 34), (58, 1, 35), (61, 0, 79), (65, 0, 80), (68, 0, 78), (71, 0, 43), (76, 0, 44), (87, 8, 0)]
def z_KT8 : List (Nat × Int32) := [(80, 65536)]
theorem z_ks8 (Ts : List Cond) (hTs : ∀ w ∈ z_TB, w ∈ Ts) (CA NA : List (Nat × Nat)) (AC : List (Nat × Nat × Nat × Int)) (IN : Option Nat) (hin : ∀ j r, IN = some j → z_cl[j]? = some r → r.1 = "StarTales$Sky") : z_KS Ts z_TB z_cl z_FT "StarTales$Sky" z_MT (z_KF8, z_KC8, z_KL8, z_KT8, CA, NA, AC, IN) := zk_ks z_kcl z_kM z_k9 z_k8 z_ka (pF := [151, 154, 157, 163, 167, 169, 171, 174, 177, 180, 183, 186, 285]) (pC := []) (pL := [(150, 0, 0), (1226, 1085, 0), (1231, 699, 0), (1232, 768, 0), (1222, 1223, 1224), (1227, 1228, 1229), (1218, 1219, 1220), (1191, 896, 897), (1192, 901, 902), (1065, 0, 0)]) (pT := [1193]) (by decide +kernel) (by decide +kernel) (by decide +kernel) (by decide +kernel) Ts hTs CA NA AC IN hin
def z_KF9 : List (Nat × Nat × Nat) := [(9, 6, 0), (15, 6, 1), (18, 6, 2)]
def z_KC9 : List (Nat × Nat) := []
def z_KL9 : List (Nat × Nat × Nat) := [(3, 9, 0), (22, 1, 37)]
def z_KT9 : List (Nat × Int32) := []
theorem z_ks9 (Ts : List Cond) (hTs : ∀ w ∈ z_TB, w ∈ Ts) (CA NA : List (Nat × Nat)) (AC : List (Nat × Nat × Nat × Int)) (IN : Option Nat) (hin : ∀ j r, IN = some j → z_cl[j]? = some r → r.1 = "StarTales$Tale") : z_KS Ts z_TB z_cl z_FT "StarTales$Tale" z_MT (z_KF9, z_KC9, z_KL9, z_KT9, CA, NA, AC, IN) := zk_ks z_kcl z_kM z_k9 z_k8 z_ka (pF := [348, 350, 353]) (pC := []) (pL := [(347, 0, 0), (859, 860, 0)]) (pT := []) (by decide +kernel) (by decide +kernel) (by decide +kernel) (by decide +kernel) Ts hTs CA NA AC IN hin
def z_KF10 : List (Nat × Nat × Nat) := [(9, 3, 0), (13, 3, 1)]
def z_KC10 : List (Nat × Nat) := []
def z_KL10 : List (Nat × Nat × Nat) := [(1, 9, 0)]
def z_KT10 : List (Nat × Int32) := []
theorem z_ks10 (Ts : List Cond) (hTs : ∀ w ∈ z_TB, w ∈ Ts) (CA NA : List (Nat × Nat)) (AC : List (Nat × Nat × Nat × Int)) (IN : Option Nat) (hin : ∀ j r, IN = some j → z_cl[j]? = some r → r.1 = "StarTales$Tape") : z_KS Ts z_TB z_cl z_FT "StarTales$Tape" z_MT (z_KF10, z_KC10, z_KL10, z_KT10, CA, NA, AC, IN) := zk_ks z_kcl z_kM z_k9 z_k8 z_ka (pF := [238, 240]) (pC := []) (pL := [(237, 0, 0)]) (pT := []) (by decide +kernel) (by decide +kernel) (by decide +kernel) (by decide +kernel) Ts hTs CA NA AC IN hin
def z_KF11 : List (Nat × Nat × Nat) := [(9, 7, 2), (15, 7, 3), (18, 7, 4), (21, 7, 5), (25, 7, 6), (28, 7, 7), (31, 7, 8), (34, 7, 9), (37, 7, 0), (41, 7, 1), (60, 4, 12), (84, 1, 2), (92, 1, 9), (95, 1, 10), (98, 1, 8), (101, 4, 8), (112, 4, 10), (115, 4, 9), (125, 1, 1), (128, 4, 11)]
def z_KC11 : List (Nat × Nat) := []
def z_KL11 : List (Nat × Nat × Nat) := [(3, 9, 0), (45, 1, 37), (51, 0, 43), (56, 0, 44), (63, 0, 42), (67, 0, 45), (71, 0, 16), (131, 1, 51), (143, 1, 35), (146, 0, 56)]
def z_KT11 : List (Nat × Int32) := []
theorem z_ks11 (Ts : List Cond) (hTs : ∀ w ∈ z_TB, w ∈ Ts) (CA NA : List (Nat × Nat)) (AC : List (Nat × Nat × Nat × Int)) (IN : Option Nat) (hin : ∀ j r, IN = some j → z_cl[j]? = some r → r.1 = "StarTales$View") : z_KS Ts z_TB z_cl z_FT "StarTales$View" z_MT (z_KF11, z_KC11, z_KL11, z_KT11, CA, NA, AC, IN) := zk_ks z_kcl z_kM z_k9 z_k8 z_ka (pF := [373, 375, 377, 381, 384, 385, 386, 387, 368, 371, 284, 161, 181, 184, 178, 276, 280, 278, 156, 282]) (pC := []) (pL := [(367, 0, 0), (886, 860, 0), (895, 896, 897), (900, 901, 902), (891, 892, 893), (904, 905, 906), (908, 625, 626), (960, 961, 0), (982, 768, 0), (991, 992, 993)]) (pT := []) (by decide +kernel) (by decide +kernel) (by decide +kernel) (by decide +kernel) Ts hTs CA NA AC IN hin
def z_KF12 : List (Nat × Nat × Nat) := []
def z_KC12 : List (Nat × Nat) := [(7, 0), (10, 12)]
def z_KL12 : List (Nat × Nat × Nat) := [(9, 2, 0), (12, 2, 101), (13, 0, 12), (17, 0, 102), (18, 0, 15), (22, 0, 105), (23, 0, 17), (27, 0, 108), (28, 0, 18), (31, 0, 109), (32, 0, 19), (35, 0, 110), (36, 0, 20), (40, 0, 111), (41, 0, 21), (45, 0, 112), (46, 0, 26), (49, 0, 114), (50, 0, 30), (54, 0, 116), (55, 0, 32), (59, 0, 118), (60, 0, 36), (63, 0, 134), (64, 0, 38), (68, 0, 119), (69, 0, 39), (72, 0, 121), (73, 0, 46), (77, 0, 125), (78, 0, 49), (82, 0, 127), (83, 0, 57), (86, 0, 133), (87, 0, 58), (90, 0, 135), (91, 0, 59), (94, 0, 136), (95, 0, 60), (98, 0, 137), (99, 0, 62), (102, 0, 138), (103, 0, 69), (106, 0, 141), (107, 0, 70), (110, 0, 142), (111, 0, 71), (114, 0, 143), (115, 0, 76), (119, 0, 144), (120, 0, 81), (123, 0, 148), (124, 0, 82), (128, 0, 149), (129, 0, 83), (132, 0, 153), (133, 0, 84), (136, 0, 154), (137, 0, 86), (140, 0, 155), (141, 0, 87), (144, 0, 156), (145, 0, 89), (148, 0, 158), (149, 0, 90), (152, 0, 159), (153, 0, 91), (156, 0, 160), (157, 0, 92), (160, 0, 161), (161, 0, 94), (164, 0, 162), (165, 0, 95), (168, 0, 163), (169, 0, 97), (173, 0, 164), (174, 0, 98), (177, 0, 165), (178, 0, 99), (181, 0, 166)]
def z_KT12 : List (Nat × Int32) := []
theorem z_ks12 (Ts : List Cond) (hTs : ∀ w ∈ z_TB, w ∈ Ts) (CA NA : List (Nat × Nat)) (AC : List (Nat × Nat × Nat × Int)) (IN : Option Nat) (hin : ∀ j r, IN = some j → z_cl[j]? = some r → r.1 = "StarTalesLaw") : z_KS Ts z_TB z_cl z_FT "StarTalesLaw" z_MT (z_KF12, z_KC12, z_KL12, z_KT12, CA, NA, AC, IN) := zk_ks z_kcl z_kM z_k9 z_k8 z_ka (pF := []) (pC := [(137, 138, 115), (1408, 1409, 128)]) (pL := [(139, 140, 0), (1410, 1411, 0), (610, 611, 612), (1607, 1608, 1609), (620, 621, 622), (1617, 1618, 1619), (628, 629, 630), (1628, 1629, 1630), (632, 633, 634), (1632, 1633, 1634), (636, 637, 638), (1636, 1637, 1638), (641, 642, 643), (1641, 1642, 1643), (645, 646, 647), (1645, 1646, 1647), (664, 665, 666), (1653, 1654, 1655), (678, 679, 680), (1661, 1662, 1663), (686, 687, 688), (1669, 1670, 1671), (851, 852, 853), (1853, 1854, 1855), (870, 871, 872), (1755, 1756, 1757), (878, 879, 880), (1763, 1764, 1765), (932, 933, 934), (1807, 1808, 1809), (952, 953, 954), (1819, 1820, 1821), (996, 997, 998), (1849, 1850, 1851), (1001, 1002, 1003), (1869, 1870, 1871), (1047, 1048, 1049), (1885, 1886, 1887), (1057, 1058, 1059), (1893, 1894, 1895), (1068, 1069, 1070), (1897, 1898, 1899), (1111, 1112, 1113), (1924, 1925, 1926), (1129, 1130, 1131), (1933, 1934, 1935), (1148, 1149, 1150), (1950, 1951, 1952), (1182, 1183, 1184), (1958, 1959, 1960), (1233, 1234, 1235), (1989, 1990, 1991), (1237, 1238, 1239), (1993, 1994, 1995), (1243, 1244, 1245), (2008, 2009, 2010), (1262, 1263, 1264), (2019, 2020, 2021), (1287, 1288, 1289), (2027, 2028, 2029), (1308, 1309, 1310), (2039, 2040, 2041), (1316, 1317, 1318), (2047, 2048, 2049), (1337, 1338, 1339), (2055, 2056, 2057), (1358, 1359, 1360), (2063, 2064, 2065), (1363, 1364, 1365), (2067, 2068, 2069), (1372, 1373, 1374), (2071, 2072, 2073), (1377, 1378, 1379), (2076, 2077, 2078), (1386, 1387, 1388), (2080, 2081, 2082), (1390, 1391, 1392), (2084, 2085, 2086), (1399, 1400, 1401), (2092, 2093, 2094)]) (pT := []) (by decide +kernel) (by decide +kernel) (by decide +kernel) (by decide +kernel) Ts hTs CA NA AC IN hin
def z_KF13 : List (Nat × Nat × Nat) := [(7, 12, 0), (13, 12, 1), (16, 12, 2), (19, 12, 3), (23, 12, 14), (26, 12, 15), (29, 12, 16), (32, 12, 17), (35, 12, 18), (38, 12, 19), (41, 12, 20), (44, 12, 21), (47, 12, 22), (50, 12, 23), (53, 12, 24), (56, 12, 25), (59, 12, 26), (62, 12, 28), (65, 12, 34), (68, 12, 35), (71, 12, 36), (74, 12, 37), (77, 12, 38), (80, 12, 39), (83, 12, 40), (86, 12, 42), (89, 12, 43), (92, 12, 44), (95, 12, 45), (98, 12, 46), (101, 12, 47), (104, 12, 49), (107, 12, 50), (110, 12, 51), (113, 12, 52), (116, 12, 53), (119, 12, 54), (122, 12, 59), (125, 12, 60), (128, 12, 61), (131, 12, 62), (168, 12, 4), (176, 12, 5), (179, 12, 6), (186, 12, 7), (192, 12, 12), (199, 12, 9), (203, 12, 8), (206, 12, 10), (256, 12, 11), (268, 12, 13), (303, 12, 27), (312, 12, 29), (315, 12, 30), (339, 12, 32), (351, 12, 31), (354, 12, 33), (357, 12, 41), (395, 12, 48), (454, 12, 55), (457, 12, 56), (460, 12, 57), (463, 12, 58), (479, 12, 63)]
def z_KC13 : List (Nat × Nat) := []
def z_KL13 : List (Nat × Nat × Nat) := [(1, 9, 0), (134, 1, 151), (138, 1, 107), (150, 1, 103), (154, 1, 104), (157, 0, 106), (162, 0, 113), (165, 0, 115), (172, 0, 117), (278, 0, 124), (281, 0, 120), (287, 0, 123), (300, 0, 122), (309, 0, 126), (321, 1, 129), (327, 0, 128), (330, 0, 130), (333, 0, 131), (336, 0, 132), (379, 0, 140), (385, 0, 139), (411, 1, 147), (414, 0, 146), (427, 0, 145), (434, 0, 150), (437, 0, 152), (469, 0, 157), (486, 0, 167)]
def z_KT13 : List (Nat × Int32) := [(161, 16777215), (202, 1048576), (391, 1000000000), (398, 16777216), (417, 65536), (478, 65535)]
theorem z_ks13 (Ts : List Cond) (hTs : ∀ w ∈ z_TB, w ∈ Ts) (CA NA : List (Nat × Nat)) (AC : List (Nat × Nat × Nat × Int)) (IN : Option Nat) (hin : ∀ j r, IN = some j → z_cl[j]? = some r → r.1 = "StarTalesModel") : z_KS Ts z_TB z_cl z_FT "StarTalesModel" z_MT (z_KF13, z_KC13, z_KL13, z_KT13, CA, NA, AC, IN) := zk_ks z_kcl z_kM z_k9 z_k8 z_ka (pF := [1414, 1415, 1416, 1417, 1428, 1429, 1430, 1431, 1432, 1433, 1434, 1435, 1436, 1437, 1438, 1439, 1440, 1442, 1448, 1449, 1450, 1451, 1452, 1453, 1454, 1456, 1457, 1458, 1459, 1460, 1461, 1463, 1464, 1465, 1466, 1467, 1468, 1473, 1474, 1475, 1476, 1418, 1419, 1420, 1421, 1426, 1423, 1422, 1424, 1425, 1427, 1441, 1443, 1444, 1446, 1445, 1447, 1455, 1462, 1469, 1470, 1471, 1472, 1477]) (pC := []) (pL := [(1413, 0, 0), (2001, 2002, 0), (1625, 1626, 0), (1611, 1612, 0), (1614, 1615, 0), (1621, 1623, 44), (1649, 1651, 45), (1657, 1659, 46), (1665, 1667, 47), (1789, 1791, 71), (1759, 1761, 66), (1785, 1787, 70), (1767, 1769, 67), (1811, 1813, 74), (1831, 1832, 0), (1823, 1825, 76), (1837, 1839, 78), (1841, 1843, 79), (1845, 1847, 80), (1905, 1907, 89), (1901, 1903, 88), (1986, 1987, 0), (1982, 1984, 102), (1978, 1980, 101), (1997, 1999, 103), (2004, 2006, 104), (2043, 2045, 109), (2096, 2098, 113)]) (pT := [1640, 1700, 1928, 1945, 1970, 2075]) (by decide +kernel) (by decide +kernel) (by decide +kernel) (by decide +kernel) Ts hTs CA NA AC IN hin
def z_KF14 : List (Nat × Nat × Nat) := []
def z_KC14 : List (Nat × Nat) := []
def z_KL14 : List (Nat × Nat × Nat) := []
def z_KT14 : List (Nat × Int32) := [(265, 1431655765), (266, 858993459), (267, 252645135)]
theorem z_ks14 (Ts : List Cond) (hTs : ∀ w ∈ z_TB, w ∈ Ts) (CA NA : List (Nat × Nat)) (AC : List (Nat × Nat × Nat × Int)) (IN : Option Nat) (hin : ∀ j r, IN = some j → z_cl[j]? = some r → r.1 = "java/lang/Integer") : z_KS Ts z_TB z_cl z_FT "java/lang/Integer" z_MT (z_KF14, z_KC14, z_KL14, z_KT14, CA, NA, AC, IN) := zk_ks z_kcl z_kM z_k9 z_k8 z_ka (pF := []) (pC := []) (pL := []) (pT := [963, 964, 965]) (by decide +kernel) (by decide +kernel) (by decide +kernel) (by decide +kernel) Ts hTs CA NA AC IN hin
def z_KF15 : List (Nat × Nat × Nat) := []
def z_KC15 : List (Nat × Nat) := []
def z_KL15 : List (Nat × Nat × Nat) := []
def z_KT15 : List (Nat × Int32) := []
theorem z_ks15 (Ts : List Cond) (hTs : ∀ w ∈ z_TB, w ∈ Ts) (CA NA : List (Nat × Nat)) (AC : List (Nat × Nat × Nat × Int)) (IN : Option Nat) (hin : ∀ j r, IN = some j → z_cl[j]? = some r → r.1 = "java/lang/Math") : z_KS Ts z_TB z_cl z_FT "java/lang/Math" z_MT (z_KF15, z_KC15, z_KL15, z_KT15, CA, NA, AC, IN) := zk_ks z_kcl z_kM z_k9 z_k8 z_ka (pF := []) (pC := []) (pL := []) (pT := []) (by decide +kernel) (by decide +kernel) (by decide +kernel) (by decide +kernel) Ts hTs CA NA AC IN hin
def z_KF16 : List (Nat × Nat × Nat) := []
def z_KC16 : List (Nat × Nat) := []
def z_KL16 : List (Nat × Nat × Nat) := []
def z_KT16 : List (Nat × Int32) := []
theorem z_ks16 (Ts : List Cond) (hTs : ∀ w ∈ z_TB, w ∈ Ts) (CA NA : List (Nat × Nat)) (AC : List (Nat × Nat × Nat × Int)) (IN : Option Nat) (hin : ∀ j r, IN = some j → z_cl[j]? = some r → r.1 = "java/util/Arrays") : z_KS Ts z_TB z_cl z_FT "java/util/Arrays" z_MT (z_KF16, z_KC16, z_KL16, z_KT16, CA, NA, AC, IN) := zk_ks z_kcl z_kM z_k9 z_k8 z_ka (pF := []) (pC := []) (pL := []) (pT := []) (by decide +kernel) (by decide +kernel) (by decide +kernel) (by decide +kernel) Ts hTs CA NA AC IN hin
