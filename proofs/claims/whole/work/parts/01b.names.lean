/-! names: classes, fields (written by wip/gen/names.py) -/
abbrev ZR0 : String := "LeagueRounds$CatchUp"
def ZT0 : u_T := fun k => match k with
  | 0 => ("LeagueRounds$CatchUp", "timetable", "LLeagueRounds$Timetable;", true)
  | 1 => ("LeagueRounds$CatchUp", "washOuts", "LLeagueRounds$WashOuts;", true)
  | 2 => ("LeagueRounds$CatchUp", "dates", "[I", true)
  | 3 => ("LeagueRounds$CatchUp", "dateCount", "I", false)
  | 4 => ("LeagueRounds$CatchUp", "dateOfGame", "[I", true)
  | 5 => ("LeagueRounds$CatchUp", "gameRound", "[I", true)
  | 6 => ("LeagueRounds$CatchUp", "gameHome", "[I", true)
  | 7 => ("LeagueRounds$CatchUp", "gameAway", "[I", true)
  | 8 => ("LeagueRounds$CatchUp", "chosen", "[I", true)
  | 9 => ("LeagueRounds$CatchUp", "takenDates", "[I", true)
  | 10 => ("LeagueRounds$CatchUp", "gameCount", "I", false)
  | _ => ("", "", "", false)
def Zy0 : Nat → FieldType := fun k => match k with
  | 0 => .object "LeagueRounds$Timetable"
  | 1 => .object "LeagueRounds$WashOuts"
  | 2 => .array .int
  | 3 => .int
  | 4 => .array .int
  | 5 => .array .int
  | 6 => .array .int
  | 7 => .array .int
  | 8 => .array .int
  | 9 => .array .int
  | 10 => .int
  | _ => .int
theorem Zn0 : ∀ a, a < 11 → ∀ b, b < 11 → a ≠ b → (ZT0 a).2.1 ≠ (ZT0 b).2.1 := by decide +kernel
theorem Zo0 : ∀ k, k < 11 → parseFieldDescriptor (ZT0 k).2.2.1 = some (Zy0 k) := by decide +kernel
def Zi0 : List Nat := [202, 204, 206, 208, 210, 212, 214, 216, 218, 220, 222]
abbrev ZR1 : String := "LeagueRounds$Results"
def ZT1 : u_T := fun k => match k with
  | 0 => ("LeagueRounds$Results", "homeGoals", "[I", true)
  | 1 => ("LeagueRounds$Results", "awayGoals", "[I", true)
  | 2 => ("LeagueRounds$Results", "rows", "LLeagueRounds$Standings;", true)
  | 3 => ("LeagueRounds$Results", "count", "I", false)
  | _ => ("", "", "", false)
def Zy1 : Nat → FieldType := fun k => match k with
  | 0 => .array .int
  | 1 => .array .int
  | 2 => .object "LeagueRounds$Standings"
  | 3 => .int
  | _ => .int
theorem Zn1 : ∀ a, a < 4 → ∀ b, b < 4 → a ≠ b → (ZT1 a).2.1 ≠ (ZT1 b).2.1 := by decide +kernel
theorem Zo1 : ∀ k, k < 4 → parseFieldDescriptor (ZT1 k).2.2.1 = some (Zy1 k) := by decide +kernel
def Zi1 : List Nat := [155, 157, 159, 161]
abbrev ZR2 : String := "LeagueRounds$Search"
def ZT2 : u_T := fun k => match k with
  | 0 => ("LeagueRounds$Search", "wishes", "LLeagueRounds$Wishes;", true)
  | 1 => ("LeagueRounds$Search", "draft", "LLeagueRounds$Timetable;", true)
  | 2 => ("LeagueRounds$Search", "busy", "[I", true)
  | 3 => ("LeagueRounds$Search", "met", "[I", true)
  | 4 => ("LeagueRounds$Search", "hadBye", "I", false)
  | 5 => ("LeagueRounds$Search", "everyone", "I", false)
  | 6 => ("LeagueRounds$Search", "choicesLeft", "I", false)
  | _ => ("", "", "", false)
def Zy2 : Nat → FieldType := fun k => match k with
  | 0 => .object "LeagueRounds$Wishes"
  | 1 => .object "LeagueRounds$Timetable"
  | 2 => .array .int
  | 3 => .array .int
  | 4 => .int
  | 5 => .int
  | 6 => .int
  | _ => .int
theorem Zn2 : ∀ a, a < 7 → ∀ b, b < 7 → a ≠ b → (ZT2 a).2.1 ≠ (ZT2 b).2.1 := by decide +kernel
theorem Zo2 : ∀ k, k < 7 → parseFieldDescriptor (ZT2 k).2.2.1 = some (Zy2 k) := by decide +kernel
def Zi2 : List Nat := [105, 107, 109, 111, 113, 115, 117]
abbrev ZR3 : String := "LeagueRounds$Standings"
def ZT3 : u_T := fun k => match k with
  | 0 => ("LeagueRounds$Standings", "won", "[I", true)
  | 1 => ("LeagueRounds$Standings", "drawn", "[I", true)
  | 2 => ("LeagueRounds$Standings", "lost", "[I", true)
  | 3 => ("LeagueRounds$Standings", "goalsFor", "[I", true)
  | 4 => ("LeagueRounds$Standings", "goalsAgainst", "[I", true)
  | _ => ("", "", "", false)
def Zy3 : Nat → FieldType := fun k => match k with
  | 0 => .array .int
  | 1 => .array .int
  | 2 => .array .int
  | 3 => .array .int
  | 4 => .array .int
  | _ => .int
theorem Zn3 : ∀ a, a < 5 → ∀ b, b < 5 → a ≠ b → (ZT3 a).2.1 ≠ (ZT3 b).2.1 := by decide +kernel
theorem Zo3 : ∀ k, k < 5 → parseFieldDescriptor (ZT3 k).2.2.1 = some (Zy3 k) := by decide +kernel
def Zi3 : List Nat := [137, 139, 141, 143, 145]
abbrev ZR4 : String := "LeagueRounds$Timetable"
def ZT4 : u_T := fun k => match k with
  | 0 => ("LeagueRounds$Timetable", "width", "I", true)
  | 1 => ("LeagueRounds$Timetable", "opponents", "[I", true)
  | 2 => ("LeagueRounds$Timetable", "venues", "[I", true)
  | 3 => ("LeagueRounds$Timetable", "teamCount", "I", false)
  | 4 => ("LeagueRounds$Timetable", "roundCount", "I", false)
  | _ => ("", "", "", false)
def Zy4 : Nat → FieldType := fun k => match k with
  | 0 => .int
  | 1 => .array .int
  | 2 => .array .int
  | 3 => .int
  | 4 => .int
  | _ => .int
theorem Zn4 : ∀ a, a < 5 → ∀ b, b < 5 → a ≠ b → (ZT4 a).2.1 ≠ (ZT4 b).2.1 := by decide +kernel
theorem Zo4 : ∀ k, k < 5 → parseFieldDescriptor (ZT4 k).2.2.1 = some (Zy4 k) := by decide +kernel
def Zi4 : List Nat := [38, 40, 42, 44, 46]
abbrev ZR5 : String := "LeagueRounds$WashOuts"
def ZT5 : u_T := fun k => match k with
  | 0 => ("LeagueRounds$WashOuts", "timetable", "LLeagueRounds$Timetable;", true)
  | 1 => ("LeagueRounds$WashOuts", "results", "LLeagueRounds$Results;", true)
  | 2 => ("LeagueRounds$WashOuts", "washed", "[Z", true)
  | 3 => ("LeagueRounds$WashOuts", "count", "I", false)
  | _ => ("", "", "", false)
def Zy5 : Nat → FieldType := fun k => match k with
  | 0 => .object "LeagueRounds$Timetable"
  | 1 => .object "LeagueRounds$Results"
  | 2 => .array .boolean
  | 3 => .int
  | _ => .int
theorem Zn5 : ∀ a, a < 4 → ∀ b, b < 4 → a ≠ b → (ZT5 a).2.1 ≠ (ZT5 b).2.1 := by decide +kernel
theorem Zo5 : ∀ k, k < 4 → parseFieldDescriptor (ZT5 k).2.2.1 = some (Zy5 k) := by decide +kernel
def Zi5 : List Nat := [174, 176, 178, 180]
abbrev ZR6 : String := "LeagueRounds$Wishes"
def ZT6 : u_T := fun k => match k with
  | 0 => ("LeagueRounds$Wishes", "homeBans", "[I", true)
  | 1 => ("LeagueRounds$Wishes", "awayBans", "[I", true)
  | 2 => ("LeagueRounds$Wishes", "banCount", "I", false)
  | 3 => ("LeagueRounds$Wishes", "pairFirst", "[I", true)
  | 4 => ("LeagueRounds$Wishes", "pairSecond", "[I", true)
  | 5 => ("LeagueRounds$Wishes", "pairCount", "I", false)
  | 6 => ("LeagueRounds$Wishes", "fixedHome", "[I", true)
  | 7 => ("LeagueRounds$Wishes", "fixedAway", "[I", true)
  | 8 => ("LeagueRounds$Wishes", "fixedRound", "[I", true)
  | 9 => ("LeagueRounds$Wishes", "fixedCount", "I", false)
  | 10 => ("LeagueRounds$Wishes", "cap", "I", false)
  | _ => ("", "", "", false)
def Zy6 : Nat → FieldType := fun k => match k with
  | 0 => .array .int
  | 1 => .array .int
  | 2 => .int
  | 3 => .array .int
  | 4 => .array .int
  | 5 => .int
  | 6 => .array .int
  | 7 => .array .int
  | 8 => .array .int
  | 9 => .int
  | 10 => .int
  | _ => .int
theorem Zn6 : ∀ a, a < 11 → ∀ b, b < 11 → a ≠ b → (ZT6 a).2.1 ≠ (ZT6 b).2.1 := by decide +kernel
theorem Zo6 : ∀ k, k < 11 → parseFieldDescriptor (ZT6 k).2.2.1 = some (Zy6 k) := by decide +kernel
def Zi6 : List Nat := [67, 69, 71, 73, 75, 77, 79, 81, 83, 85, 87]
abbrev ZR7 : String := "LeagueRounds"
def ZT7 : u_T := fun k => match k with
  | 0 => ("LeagueRounds", "timetable", "LLeagueRounds$Timetable;", true)
  | 1 => ("LeagueRounds", "wishes", "LLeagueRounds$Wishes;", true)
  | 2 => ("LeagueRounds", "search", "LLeagueRounds$Search;", true)
  | 3 => ("LeagueRounds", "results", "LLeagueRounds$Results;", true)
  | 4 => ("LeagueRounds", "washOuts", "LLeagueRounds$WashOuts;", true)
  | 5 => ("LeagueRounds", "catchUps", "LLeagueRounds$CatchUp;", true)
  | _ => ("", "", "", false)
def Zy7 : Nat → FieldType := fun k => match k with
  | 0 => .object "LeagueRounds$Timetable"
  | 1 => .object "LeagueRounds$Wishes"
  | 2 => .object "LeagueRounds$Search"
  | 3 => .object "LeagueRounds$Results"
  | 4 => .object "LeagueRounds$WashOuts"
  | 5 => .object "LeagueRounds$CatchUp"
  | _ => .int
theorem Zn7 : ∀ a, a < 6 → ∀ b, b < 6 → a ≠ b → (ZT7 a).2.1 ≠ (ZT7 b).2.1 := by decide +kernel
theorem Zo7 : ∀ k, k < 6 → parseFieldDescriptor (ZT7 k).2.2.1 = some (Zy7 k) := by decide +kernel
def Zi7 : List Nat := [231, 233, 235, 237, 239, 241]
abbrev ZR8 : String := "LeagueRoundsModel"
def ZT8 : u_T := fun k => match k with
  | 0 => ("LeagueRoundsModel", "thrown", "I", false)
  | 1 => ("LeagueRoundsModel", "n", "I", false)
  | 2 => ("LeagueRoundsModel", "banCount", "I", false)
  | 3 => ("LeagueRoundsModel", "bans", "[Z", true)
  | 4 => ("LeagueRoundsModel", "pairs", "I", false)
  | 5 => ("LeagueRoundsModel", "ones", "[I", true)
  | 6 => ("LeagueRoundsModel", "others", "[I", true)
  | 7 => ("LeagueRoundsModel", "fixed", "I", false)
  | 8 => ("LeagueRoundsModel", "fixedHome", "[I", true)
  | 9 => ("LeagueRoundsModel", "fixedAway", "[I", true)
  | 10 => ("LeagueRoundsModel", "fixedRound", "[I", true)
  | 11 => ("LeagueRoundsModel", "cap", "I", false)
  | 12 => ("LeagueRoundsModel", "rounds", "I", false)
  | 13 => ("LeagueRoundsModel", "foes", "[I", true)
  | 14 => ("LeagueRoundsModel", "homes", "[Z", true)
  | 15 => ("LeagueRoundsModel", "played", "[Z", true)
  | 16 => ("LeagueRoundsModel", "goals", "[I", true)
  | 17 => ("LeagueRoundsModel", "against", "[I", true)
  | 18 => ("LeagueRoundsModel", "lost", "[Z", true)
  | 19 => ("LeagueRoundsModel", "dates", "[I", true)
  | 20 => ("LeagueRoundsModel", "washed", "[Z", true)
  | 21 => ("LeagueRoundsModel", "reserves", "I", false)
  | 22 => ("LeagueRoundsModel", "reserveDates", "[I", true)
  | 23 => ("LeagueRoundsModel", "tried", "[I", true)
  | 24 => ("LeagueRoundsModel", "atHome", "[Z", true)
  | 25 => ("LeagueRoundsModel", "levelRound", "[I", true)
  | 26 => ("LeagueRoundsModel", "levelTeam", "[I", true)
  | 27 => ("LeagueRoundsModel", "levelChoice", "[I", true)
  | 28 => ("LeagueRoundsModel", "games", "I", false)
  | 29 => ("LeagueRoundsModel", "gameCells", "[I", true)
  | 30 => ("LeagueRoundsModel", "gameDates", "[I", true)
  | 31 => ("LeagueRoundsModel", "stats", "[I", true)
  | 32 => ("LeagueRoundsModel", "order", "[I", true)
  | _ => ("", "", "", false)
def Zy8 : Nat → FieldType := fun k => match k with
  | 0 => .int
  | 1 => .int
  | 2 => .int
  | 3 => .array .boolean
  | 4 => .int
  | 5 => .array .int
  | 6 => .array .int
  | 7 => .int
  | 8 => .array .int
  | 9 => .array .int
  | 10 => .array .int
  | 11 => .int
  | 12 => .int
  | 13 => .array .int
  | 14 => .array .boolean
  | 15 => .array .boolean
  | 16 => .array .int
  | 17 => .array .int
  | 18 => .array .boolean
  | 19 => .array .int
  | 20 => .array .boolean
  | 21 => .int
  | 22 => .array .int
  | 23 => .array .int
  | 24 => .array .boolean
  | 25 => .array .int
  | 26 => .array .int
  | 27 => .array .int
  | 28 => .int
  | 29 => .array .int
  | 30 => .array .int
  | 31 => .array .int
  | 32 => .array .int
  | _ => .int
theorem Zn8 : ∀ a, a < 33 → ∀ b, b < 33 → a ≠ b → (ZT8 a).2.1 ≠ (ZT8 b).2.1 := by decide +kernel
theorem Zo8 : ∀ k, k < 33 → parseFieldDescriptor (ZT8 k).2.2.1 = some (Zy8 k) := by decide +kernel
def Zi8 : List Nat := [933, 935, 937, 939, 941, 943, 945, 947, 949, 951, 953, 955, 957, 959, 961, 963, 965, 967, 969, 971, 973, 975, 977, 979, 981, 983, 985, 987, 989, 991, 993, 995, 997]
def zcl : List vw_C := [(ZR0, ZT0, 11), (ZR1, ZT1, 4), (ZR2, ZT2, 7), (ZR3, ZT3, 5), (ZR4, ZT4, 5), (ZR5, ZT5, 4), (ZR6, ZT6, 11), (ZR7, ZT7, 6), (ZR8, ZT8, 33)]
def zNC : List (String × String) := [("java/lang/IllegalArgumentException", "java/lang/IllegalStateException"), ("java/lang/IllegalArgumentException", "java/lang/IndexOutOfBoundsException"), ("java/lang/IllegalArgumentException", "java/util/NoSuchElementException"), ("java/lang/IllegalStateException", "java/lang/IllegalArgumentException"), ("java/lang/IllegalStateException", "java/lang/IndexOutOfBoundsException"), ("java/lang/IllegalStateException", "java/util/NoSuchElementException"), ("java/lang/IndexOutOfBoundsException", "java/lang/IllegalArgumentException"), ("java/lang/IndexOutOfBoundsException", "java/lang/IllegalStateException"), ("java/lang/IndexOutOfBoundsException", "java/util/NoSuchElementException"), ("java/util/NoSuchElementException", "java/lang/IllegalArgumentException"), ("java/util/NoSuchElementException", "java/lang/IllegalStateException"), ("java/util/NoSuchElementException", "java/lang/IndexOutOfBoundsException")]
def zSR : List (Nat × String) := [(61, "no such number of teams"), (82, "no such team or round"), (84, "no such venue"), (94, "not two teams"), (102, "no more pairs"), (109, "not two teams, or no such round"), (114, "no more fixed games"), (119, "no such cap"), (133, "no such budget"), (138, "too many teams"), (261, "no such round or team"), (165, "no such team"), (179, "no such round"), (185, "the season has begun"), (193, "no such goals"), (265, "no home game in that round"), (204, "the game is missing and has no date"), (210, "no such place or field"), (227, "washed out already, or too many rounds are"), (235, "no such date"), (243, "a reserve date already, or no more dates"), (251, "too many games are missing")]
