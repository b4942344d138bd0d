section
-- ===== PART A: goes FIRST, ahead of the names: the tables' words, and 'selects' of the private methods out of them =====
/-- a private method of a class that the tables say can be made, by its rows of tables_1 -/
def lw_okq (q : MethodName × Nat) : Prop := (q.1.cls ≠ "java/lang/invoke/MethodHandle" ∧ q.1.cls ≠ "java/lang/invoke/VarHandle") ∧ Cond.instantiable q.1.cls q.2 ∈ tables_1 ∧ Cond.privateMethod q.1 ∈ tables_1 ∧ Cond.instanceMethod q.1 ∈ tables_1
theorem lw_p0 : lw_okq (⟨"LeagueRounds$Timetable", "layPlainRound", "(II)V"⟩, 5) := ⟨⟨by decide +kernel, by decide +kernel⟩, List.mem_of_getElem? (i := 28) (by decide +kernel), List.mem_of_getElem? (i := 261) (by decide +kernel), List.mem_of_getElem? (i := 262) (by decide +kernel)⟩
theorem lw_p1 : lw_okq (⟨"LeagueRounds$Timetable", "layPlainGame", "(IIIZ)V"⟩, 5) := ⟨⟨by decide +kernel, by decide +kernel⟩, List.mem_of_getElem? (i := 28) (by decide +kernel), List.mem_of_getElem? (i := 268) (by decide +kernel), List.mem_of_getElem? (i := 269) (by decide +kernel)⟩
theorem lw_p2 : lw_okq (⟨"LeagueRounds$Timetable", "putSide", "(IIII)V"⟩, 5) := ⟨⟨by decide +kernel, by decide +kernel⟩, List.mem_of_getElem? (i := 28) (by decide +kernel), List.mem_of_getElem? (i := 276) (by decide +kernel), List.mem_of_getElem? (i := 277) (by decide +kernel)⟩
theorem lw_p3 : lw_okq (⟨"LeagueRounds$Timetable", "layReturnRound", "(II)V"⟩, 5) := ⟨⟨by decide +kernel, by decide +kernel⟩, List.mem_of_getElem? (i := 28) (by decide +kernel), List.mem_of_getElem? (i := 280) (by decide +kernel), List.mem_of_getElem? (i := 281) (by decide +kernel)⟩
theorem lw_p4 : lw_okq (⟨"LeagueRounds", "forgetSeason", "()V"⟩, 6) := ⟨⟨by decide +kernel, by decide +kernel⟩, List.mem_of_getElem? (i := 20) (by decide +kernel), List.mem_of_getElem? (i := 292) (by decide +kernel), List.mem_of_getElem? (i := 293) (by decide +kernel)⟩
theorem lw_p5 : lw_okq (⟨"LeagueRounds$Wishes", "breaksBan", "(LLeagueRounds$Timetable;)Z"⟩, 11) := ⟨⟨by decide +kernel, by decide +kernel⟩, List.mem_of_getElem? (i := 51) (by decide +kernel), List.mem_of_getElem? (i := 330) (by decide +kernel), List.mem_of_getElem? (i := 331) (by decide +kernel)⟩
theorem lw_p6 : lw_okq (⟨"LeagueRounds$Wishes", "breaksPair", "(LLeagueRounds$Timetable;)Z"⟩, 11) := ⟨⟨by decide +kernel, by decide +kernel⟩, List.mem_of_getElem? (i := 51) (by decide +kernel), List.mem_of_getElem? (i := 342) (by decide +kernel), List.mem_of_getElem? (i := 343) (by decide +kernel)⟩
theorem lw_p7 : lw_okq (⟨"LeagueRounds$Wishes", "breaksFixed", "(LLeagueRounds$Timetable;)Z"⟩, 11) := ⟨⟨by decide +kernel, by decide +kernel⟩, List.mem_of_getElem? (i := 51) (by decide +kernel), List.mem_of_getElem? (i := 346) (by decide +kernel), List.mem_of_getElem? (i := 347) (by decide +kernel)⟩
theorem lw_p8 : lw_okq (⟨"LeagueRounds$Wishes", "breaksCap", "(LLeagueRounds$Timetable;)Z"⟩, 11) := ⟨⟨by decide +kernel, by decide +kernel⟩, List.mem_of_getElem? (i := 51) (by decide +kernel), List.mem_of_getElem? (i := 355) (by decide +kernel), List.mem_of_getElem? (i := 356) (by decide +kernel)⟩
theorem lw_p9 : lw_okq (⟨"java/lang/Throwable", "fillInStackTrace", "(I)Ljava/lang/Throwable;"⟩, 6) := ⟨⟨by decide +kernel, by decide +kernel⟩, List.mem_of_getElem? (i := 436) (by decide +kernel), List.mem_of_getElem? (i := 434) (by decide +kernel), List.mem_of_getElem? (i := 435) (by decide +kernel)⟩
theorem lw_p10 : lw_okq (⟨"LeagueRounds", "areTwoTeams", "(II)Z"⟩, 6) := ⟨⟨by decide +kernel, by decide +kernel⟩, List.mem_of_getElem? (i := 20) (by decide +kernel), List.mem_of_getElem? (i := 500) (by decide +kernel), List.mem_of_getElem? (i := 501) (by decide +kernel)⟩
theorem lw_p11 : lw_okq (⟨"LeagueRounds$Search", "goOn", "(II)I"⟩, 7) := ⟨⟨by decide +kernel, by decide +kernel⟩, List.mem_of_getElem? (i := 91) (by decide +kernel), List.mem_of_getElem? (i := 575) (by decide +kernel), List.mem_of_getElem? (i := 576) (by decide +kernel)⟩
theorem lw_p12 : lw_okq (⟨"LeagueRounds$Search", "leastFree", "(I)I"⟩, 7) := ⟨⟨by decide +kernel, by decide +kernel⟩, List.mem_of_getElem? (i := 91) (by decide +kernel), List.mem_of_getElem? (i := 580) (by decide +kernel), List.mem_of_getElem? (i := 581) (by decide +kernel)⟩
theorem lw_p13 : lw_okq (⟨"LeagueRounds$Search", "canMeet", "(III)Z"⟩, 7) := ⟨⟨by decide +kernel, by decide +kernel⟩, List.mem_of_getElem? (i := 91) (by decide +kernel), List.mem_of_getElem? (i := 586) (by decide +kernel), List.mem_of_getElem? (i := 587) (by decide +kernel)⟩
theorem lw_p14 : lw_okq (⟨"LeagueRounds$Search", "tryGame", "(IIII)I"⟩, 7) := ⟨⟨by decide +kernel, by decide +kernel⟩, List.mem_of_getElem? (i := 91) (by decide +kernel), List.mem_of_getElem? (i := 590) (by decide +kernel), List.mem_of_getElem? (i := 591) (by decide +kernel)⟩
theorem lw_p15 : lw_okq (⟨"LeagueRounds$Wishes", "fixedAllowGame", "(III)Z"⟩, 11) := ⟨⟨by decide +kernel, by decide +kernel⟩, List.mem_of_getElem? (i := 51) (by decide +kernel), List.mem_of_getElem? (i := 598) (by decide +kernel), List.mem_of_getElem? (i := 599) (by decide +kernel)⟩
def lw_privs_1 : List (MethodName × Nat) := [(⟨"LeagueRounds$Timetable", "layPlainRound", "(II)V"⟩, 5), (⟨"LeagueRounds$Timetable", "layPlainGame", "(IIIZ)V"⟩, 5), (⟨"LeagueRounds$Timetable", "putSide", "(IIII)V"⟩, 5), (⟨"LeagueRounds$Timetable", "layReturnRound", "(II)V"⟩, 5), (⟨"LeagueRounds", "forgetSeason", "()V"⟩, 6), (⟨"LeagueRounds$Wishes", "breaksBan", "(LLeagueRounds$Timetable;)Z"⟩, 11), (⟨"LeagueRounds$Wishes", "breaksPair", "(LLeagueRounds$Timetable;)Z"⟩, 11), (⟨"LeagueRounds$Wishes", "breaksFixed", "(LLeagueRounds$Timetable;)Z"⟩, 11), (⟨"LeagueRounds$Wishes", "breaksCap", "(LLeagueRounds$Timetable;)Z"⟩, 11), (⟨"java/lang/Throwable", "fillInStackTrace", "(I)Ljava/lang/Throwable;"⟩, 6), (⟨"LeagueRounds", "areTwoTeams", "(II)Z"⟩, 6), (⟨"LeagueRounds$Search", "goOn", "(II)I"⟩, 7), (⟨"LeagueRounds$Search", "leastFree", "(I)I"⟩, 7), (⟨"LeagueRounds$Search", "canMeet", "(III)Z"⟩, 7), (⟨"LeagueRounds$Search", "tryGame", "(IIII)I"⟩, 7), (⟨"LeagueRounds$Wishes", "fixedAllowGame", "(III)Z"⟩, 11)]
theorem lw_r1 : ∀ q ∈ lw_privs_1, lw_okq q := List.forall_mem_cons.mpr ⟨lw_p0, List.forall_mem_cons.mpr ⟨lw_p1, List.forall_mem_cons.mpr ⟨lw_p2, List.forall_mem_cons.mpr ⟨lw_p3, List.forall_mem_cons.mpr ⟨lw_p4, List.forall_mem_cons.mpr ⟨lw_p5, List.forall_mem_cons.mpr ⟨lw_p6, List.forall_mem_cons.mpr ⟨lw_p7, List.forall_mem_cons.mpr ⟨lw_p8, List.forall_mem_cons.mpr ⟨lw_p9, List.forall_mem_cons.mpr ⟨lw_p10, List.forall_mem_cons.mpr ⟨lw_p11, List.forall_mem_cons.mpr ⟨lw_p12, List.forall_mem_cons.mpr ⟨lw_p13, List.forall_mem_cons.mpr ⟨lw_p14, List.forall_mem_cons.mpr ⟨lw_p15, fun _ h => absurd h List.not_mem_nil⟩⟩⟩⟩⟩⟩⟩⟩⟩⟩⟩⟩⟩⟩⟩⟩
theorem lw_p16 : lw_okq (⟨"LeagueRounds$Wishes", "isOfFixed", "(II)Z"⟩, 11) := ⟨⟨by decide +kernel, by decide +kernel⟩, List.mem_of_getElem? (i := 51) (by decide +kernel), List.mem_of_getElem? (i := 602) (by decide +kernel), List.mem_of_getElem? (i := 603) (by decide +kernel)⟩
theorem lw_p17 : lw_okq (⟨"LeagueRounds$Wishes", "groundIsTaken", "(LLeagueRounds$Timetable;II)Z"⟩, 11) := ⟨⟨by decide +kernel, by decide +kernel⟩, List.mem_of_getElem? (i := 51) (by decide +kernel), List.mem_of_getElem? (i := 606) (by decide +kernel), List.mem_of_getElem? (i := 607) (by decide +kernel)⟩
theorem lw_p18 : lw_okq (⟨"LeagueRounds$Search", "flipMeeting", "(III)V"⟩, 7) := ⟨⟨by decide +kernel, by decide +kernel⟩, List.mem_of_getElem? (i := 91) (by decide +kernel), List.mem_of_getElem? (i := 611) (by decide +kernel), List.mem_of_getElem? (i := 612) (by decide +kernel)⟩
theorem lw_p19 : lw_okq (⟨"LeagueRounds$Search", "tryBye", "(III)I"⟩, 7) := ⟨⟨by decide +kernel, by decide +kernel⟩, List.mem_of_getElem? (i := 91) (by decide +kernel), List.mem_of_getElem? (i := 619) (by decide +kernel), List.mem_of_getElem? (i := 620) (by decide +kernel)⟩
theorem lw_p20 : lw_okq (⟨"LeagueRounds$Search", "flipBye", "(II)V"⟩, 7) := ⟨⟨by decide +kernel, by decide +kernel⟩, List.mem_of_getElem? (i := 91) (by decide +kernel), List.mem_of_getElem? (i := 627) (by decide +kernel), List.mem_of_getElem? (i := 628) (by decide +kernel)⟩
theorem lw_p21 : lw_okq (⟨"LeagueRounds", "requireRoundAndTeam", "(II)V"⟩, 6) := ⟨⟨by decide +kernel, by decide +kernel⟩, List.mem_of_getElem? (i := 20) (by decide +kernel), List.mem_of_getElem? (i := 647) (by decide +kernel), List.mem_of_getElem? (i := 648) (by decide +kernel)⟩
theorem lw_p22 : lw_okq (⟨"LeagueRounds", "requireHomeGame", "(II)V"⟩, 6) := ⟨⟨by decide +kernel, by decide +kernel⟩, List.mem_of_getElem? (i := 20) (by decide +kernel), List.mem_of_getElem? (i := 727) (by decide +kernel), List.mem_of_getElem? (i := 728) (by decide +kernel)⟩
theorem lw_p23 : lw_okq (⟨"LeagueRounds$Standings", "scoreSide", "(IIII)V"⟩, 5) := ⟨⟨by decide +kernel, by decide +kernel⟩, List.mem_of_getElem? (i := 127) (by decide +kernel), List.mem_of_getElem? (i := 762) (by decide +kernel), List.mem_of_getElem? (i := 763) (by decide +kernel)⟩
theorem lw_p24 : lw_okq (⟨"LeagueRounds$Standings", "placeOf", "(II)I"⟩, 5) := ⟨⟨by decide +kernel, by decide +kernel⟩, List.mem_of_getElem? (i := 127) (by decide +kernel), List.mem_of_getElem? (i := 782) (by decide +kernel), List.mem_of_getElem? (i := 783) (by decide +kernel)⟩
theorem lw_p25 : lw_okq (⟨"LeagueRounds$Standings", "standsBefore", "(II)Z"⟩, 5) := ⟨⟨by decide +kernel, by decide +kernel⟩, List.mem_of_getElem? (i := 127) (by decide +kernel), List.mem_of_getElem? (i := 786) (by decide +kernel), List.mem_of_getElem? (i := 787) (by decide +kernel)⟩
theorem lw_p26 : lw_okq (⟨"LeagueRounds$Standings", "points", "(I)I"⟩, 5) := ⟨⟨by decide +kernel, by decide +kernel⟩, List.mem_of_getElem? (i := 127) (by decide +kernel), List.mem_of_getElem? (i := 790) (by decide +kernel), List.mem_of_getElem? (i := 791) (by decide +kernel)⟩
theorem lw_p27 : lw_okq (⟨"LeagueRounds$Standings", "difference", "(I)I"⟩, 5) := ⟨⟨by decide +kernel, by decide +kernel⟩, List.mem_of_getElem? (i := 127) (by decide +kernel), List.mem_of_getElem? (i := 794) (by decide +kernel), List.mem_of_getElem? (i := 795) (by decide +kernel)⟩
theorem lw_p28 : lw_okq (⟨"LeagueRounds$CatchUp", "listGames", "()V"⟩, 11) := ⟨⟨by decide +kernel, by decide +kernel⟩, List.mem_of_getElem? (i := 185) (by decide +kernel), List.mem_of_getElem? (i := 852) (by decide +kernel), List.mem_of_getElem? (i := 853) (by decide +kernel)⟩
theorem lw_p29 : lw_okq (⟨"LeagueRounds$CatchUp", "mostGamesOfOneTeam", "()I"⟩, 11) := ⟨⟨by decide +kernel, by decide +kernel⟩, List.mem_of_getElem? (i := 185) (by decide +kernel), List.mem_of_getElem? (i := 860) (by decide +kernel), List.mem_of_getElem? (i := 861) (by decide +kernel)⟩
theorem lw_p30 : lw_okq (⟨"LeagueRounds$CatchUp", "putFrom", "(III)Z"⟩, 11) := ⟨⟨by decide +kernel, by decide +kernel⟩, List.mem_of_getElem? (i := 185) (by decide +kernel), List.mem_of_getElem? (i := 867) (by decide +kernel), List.mem_of_getElem? (i := 868) (by decide +kernel)⟩
theorem lw_p31 : lw_okq (⟨"LeagueRounds$CatchUp", "isOpen", "(II)Z"⟩, 11) := ⟨⟨by decide +kernel, by decide +kernel⟩, List.mem_of_getElem? (i := 185) (by decide +kernel), List.mem_of_getElem? (i := 874) (by decide +kernel), List.mem_of_getElem? (i := 875) (by decide +kernel)⟩
def lw_privs_2 : List (MethodName × Nat) := [(⟨"LeagueRounds$Wishes", "isOfFixed", "(II)Z"⟩, 11), (⟨"LeagueRounds$Wishes", "groundIsTaken", "(LLeagueRounds$Timetable;II)Z"⟩, 11), (⟨"LeagueRounds$Search", "flipMeeting", "(III)V"⟩, 7), (⟨"LeagueRounds$Search", "tryBye", "(III)I"⟩, 7), (⟨"LeagueRounds$Search", "flipBye", "(II)V"⟩, 7), (⟨"LeagueRounds", "requireRoundAndTeam", "(II)V"⟩, 6), (⟨"LeagueRounds", "requireHomeGame", "(II)V"⟩, 6), (⟨"LeagueRounds$Standings", "scoreSide", "(IIII)V"⟩, 5), (⟨"LeagueRounds$Standings", "placeOf", "(II)I"⟩, 5), (⟨"LeagueRounds$Standings", "standsBefore", "(II)Z"⟩, 5), (⟨"LeagueRounds$Standings", "points", "(I)I"⟩, 5), (⟨"LeagueRounds$Standings", "difference", "(I)I"⟩, 5), (⟨"LeagueRounds$CatchUp", "listGames", "()V"⟩, 11), (⟨"LeagueRounds$CatchUp", "mostGamesOfOneTeam", "()I"⟩, 11), (⟨"LeagueRounds$CatchUp", "putFrom", "(III)Z"⟩, 11), (⟨"LeagueRounds$CatchUp", "isOpen", "(II)Z"⟩, 11)]
theorem lw_r2 : ∀ q ∈ lw_privs_2, lw_okq q := List.forall_mem_cons.mpr ⟨lw_p16, List.forall_mem_cons.mpr ⟨lw_p17, List.forall_mem_cons.mpr ⟨lw_p18, List.forall_mem_cons.mpr ⟨lw_p19, List.forall_mem_cons.mpr ⟨lw_p20, List.forall_mem_cons.mpr ⟨lw_p21, List.forall_mem_cons.mpr ⟨lw_p22, List.forall_mem_cons.mpr ⟨lw_p23, List.forall_mem_cons.mpr ⟨lw_p24, List.forall_mem_cons.mpr ⟨lw_p25, List.forall_mem_cons.mpr ⟨lw_p26, List.forall_mem_cons.mpr ⟨lw_p27, List.forall_mem_cons.mpr ⟨lw_p28, List.forall_mem_cons.mpr ⟨lw_p29, List.forall_mem_cons.mpr ⟨lw_p30, List.forall_mem_cons.mpr ⟨lw_p31, fun _ h => absurd h List.not_mem_nil⟩⟩⟩⟩⟩⟩⟩⟩⟩⟩⟩⟩⟩⟩⟩⟩
theorem lw_p32 : lw_okq (⟨"LeagueRounds$CatchUp", "flipDate", "(II)V"⟩, 11) := ⟨⟨by decide +kernel, by decide +kernel⟩, List.mem_of_getElem? (i := 185) (by decide +kernel), List.mem_of_getElem? (i := 879) (by decide +kernel), List.mem_of_getElem? (i := 880) (by decide +kernel)⟩
theorem lw_p33 : lw_okq (⟨"LeagueRounds$CatchUp", "keepDates", "()V"⟩, 11) := ⟨⟨by decide +kernel, by decide +kernel⟩, List.mem_of_getElem? (i := 185) (by decide +kernel), List.mem_of_getElem? (i := 883) (by decide +kernel), List.mem_of_getElem? (i := 884) (by decide +kernel)⟩
theorem lw_p34 : lw_okq (⟨"LeagueRoundsModel", "refused", "(ZZZZ)Z"⟩, 33) := ⟨⟨by decide +kernel, by decide +kernel⟩, List.mem_of_getElem? (i := 895) (by decide +kernel), List.mem_of_getElem? (i := 1012) (by decide +kernel), List.mem_of_getElem? (i := 1013) (by decide +kernel)⟩
theorem lw_p35 : lw_okq (⟨"LeagueRoundsModel", "clearSeason", "()V"⟩, 33) := ⟨⟨by decide +kernel, by decide +kernel⟩, List.mem_of_getElem? (i := 895) (by decide +kernel), List.mem_of_getElem? (i := 1016) (by decide +kernel), List.mem_of_getElem? (i := 1017) (by decide +kernel)⟩
theorem lw_p36 : lw_okq (⟨"LeagueRoundsModel", "isTeam", "(I)Z"⟩, 33) := ⟨⟨by decide +kernel, by decide +kernel⟩, List.mem_of_getElem? (i := 895) (by decide +kernel), List.mem_of_getElem? (i := 1024) (by decide +kernel), List.mem_of_getElem? (i := 1025) (by decide +kernel)⟩
theorem lw_p37 : lw_okq (⟨"LeagueRoundsModel", "layPlain", "(II)V"⟩, 33) := ⟨⟨by decide +kernel, by decide +kernel⟩, List.mem_of_getElem? (i := 895) (by decide +kernel), List.mem_of_getElem? (i := 1044) (by decide +kernel), List.mem_of_getElem? (i := 1045) (by decide +kernel)⟩
theorem lw_p38 : lw_okq (⟨"LeagueRoundsModel", "lay", "(III)V"⟩, 33) := ⟨⟨by decide +kernel, by decide +kernel⟩, List.mem_of_getElem? (i := 895) (by decide +kernel), List.mem_of_getElem? (i := 1048) (by decide +kernel), List.mem_of_getElem? (i := 1049) (by decide +kernel)⟩
theorem lw_p39 : lw_okq (⟨"LeagueRoundsModel", "search", "(I)I"⟩, 33) := ⟨⟨by decide +kernel, by decide +kernel⟩, List.mem_of_getElem? (i := 895) (by decide +kernel), List.mem_of_getElem? (i := 1056) (by decide +kernel), List.mem_of_getElem? (i := 1057) (by decide +kernel)⟩
theorem lw_p40 : lw_okq (⟨"LeagueRoundsModel", "begin", "(II)Z"⟩, 33) := ⟨⟨by decide +kernel, by decide +kernel⟩, List.mem_of_getElem? (i := 895) (by decide +kernel), List.mem_of_getElem? (i := 1060) (by decide +kernel), List.mem_of_getElem? (i := 1061) (by decide +kernel)⟩
theorem lw_p41 : lw_okq (⟨"LeagueRoundsModel", "firstOpen", "(I)I"⟩, 33) := ⟨⟨by decide +kernel, by decide +kernel⟩, List.mem_of_getElem? (i := 895) (by decide +kernel), List.mem_of_getElem? (i := 1064) (by decide +kernel), List.mem_of_getElem? (i := 1065) (by decide +kernel)⟩
theorem lw_p42 : lw_okq (⟨"LeagueRoundsModel", "takeBack", "(II)V"⟩, 33) := ⟨⟨by decide +kernel, by decide +kernel⟩, List.mem_of_getElem? (i := 895) (by decide +kernel), List.mem_of_getElem? (i := 1068) (by decide +kernel), List.mem_of_getElem? (i := 1069) (by decide +kernel)⟩
theorem lw_p43 : lw_okq (⟨"LeagueRoundsModel", "nextChoice", "(I)I"⟩, 33) := ⟨⟨by decide +kernel, by decide +kernel⟩, List.mem_of_getElem? (i := 895) (by decide +kernel), List.mem_of_getElem? (i := 1072) (by decide +kernel), List.mem_of_getElem? (i := 1073) (by decide +kernel)⟩
theorem lw_p44 : lw_okq (⟨"LeagueRoundsModel", "can", "(III)Z"⟩, 33) := ⟨⟨by decide +kernel, by decide +kernel⟩, List.mem_of_getElem? (i := 895) (by decide +kernel), List.mem_of_getElem? (i := 1076) (by decide +kernel), List.mem_of_getElem? (i := 1077) (by decide +kernel)⟩
theorem lw_p45 : lw_okq (⟨"LeagueRoundsModel", "mayRest", "(II)Z"⟩, 33) := ⟨⟨by decide +kernel, by decide +kernel⟩, List.mem_of_getElem? (i := 895) (by decide +kernel), List.mem_of_getElem? (i := 1080) (by decide +kernel), List.mem_of_getElem? (i := 1081) (by decide +kernel)⟩
theorem lw_p46 : lw_okq (⟨"LeagueRoundsModel", "hadBye", "(II)Z"⟩, 33) := ⟨⟨by decide +kernel, by decide +kernel⟩, List.mem_of_getElem? (i := 895) (by decide +kernel), List.mem_of_getElem? (i := 1084) (by decide +kernel), List.mem_of_getElem? (i := 1085) (by decide +kernel)⟩
theorem lw_p47 : lw_okq (⟨"LeagueRoundsModel", "isOf", "(II)Z"⟩, 33) := ⟨⟨by decide +kernel, by decide +kernel⟩, List.mem_of_getElem? (i := 895) (by decide +kernel), List.mem_of_getElem? (i := 1088) (by decide +kernel), List.mem_of_getElem? (i := 1089) (by decide +kernel)⟩
def lw_privs_3 : List (MethodName × Nat) := [(⟨"LeagueRounds$CatchUp", "flipDate", "(II)V"⟩, 11), (⟨"LeagueRounds$CatchUp", "keepDates", "()V"⟩, 11), (⟨"LeagueRoundsModel", "refused", "(ZZZZ)Z"⟩, 33), (⟨"LeagueRoundsModel", "clearSeason", "()V"⟩, 33), (⟨"LeagueRoundsModel", "isTeam", "(I)Z"⟩, 33), (⟨"LeagueRoundsModel", "layPlain", "(II)V"⟩, 33), (⟨"LeagueRoundsModel", "lay", "(III)V"⟩, 33), (⟨"LeagueRoundsModel", "search", "(I)I"⟩, 33), (⟨"LeagueRoundsModel", "begin", "(II)Z"⟩, 33), (⟨"LeagueRoundsModel", "firstOpen", "(I)I"⟩, 33), (⟨"LeagueRoundsModel", "takeBack", "(II)V"⟩, 33), (⟨"LeagueRoundsModel", "nextChoice", "(I)I"⟩, 33), (⟨"LeagueRoundsModel", "can", "(III)Z"⟩, 33), (⟨"LeagueRoundsModel", "mayRest", "(II)Z"⟩, 33), (⟨"LeagueRoundsModel", "hadBye", "(II)Z"⟩, 33), (⟨"LeagueRoundsModel", "isOf", "(II)Z"⟩, 33)]
theorem lw_r3 : ∀ q ∈ lw_privs_3, lw_okq q := List.forall_mem_cons.mpr ⟨lw_p32, List.forall_mem_cons.mpr ⟨lw_p33, List.forall_mem_cons.mpr ⟨lw_p34, List.forall_mem_cons.mpr ⟨lw_p35, List.forall_mem_cons.mpr ⟨lw_p36, List.forall_mem_cons.mpr ⟨lw_p37, List.forall_mem_cons.mpr ⟨lw_p38, List.forall_mem_cons.mpr ⟨lw_p39, List.forall_mem_cons.mpr ⟨lw_p40, List.forall_mem_cons.mpr ⟨lw_p41, List.forall_mem_cons.mpr ⟨lw_p42, List.forall_mem_cons.mpr ⟨lw_p43, List.forall_mem_cons.mpr ⟨lw_p44, List.forall_mem_cons.mpr ⟨lw_p45, List.forall_mem_cons.mpr ⟨lw_p46, List.forall_mem_cons.mpr ⟨lw_p47, fun _ h => absurd h List.not_mem_nil⟩⟩⟩⟩⟩⟩⟩⟩⟩⟩⟩⟩⟩⟩⟩⟩
theorem lw_p48 : lw_okq (⟨"LeagueRoundsModel", "haveMet", "(III)Z"⟩, 33) := ⟨⟨by decide +kernel, by decide +kernel⟩, List.mem_of_getElem? (i := 895) (by decide +kernel), List.mem_of_getElem? (i := 1092) (by decide +kernel), List.mem_of_getElem? (i := 1093) (by decide +kernel)⟩
theorem lw_p49 : lw_okq (⟨"LeagueRoundsModel", "mayPlay", "(III)Z"⟩, 33) := ⟨⟨by decide +kernel, by decide +kernel⟩, List.mem_of_getElem? (i := 895) (by decide +kernel), List.mem_of_getElem? (i := 1096) (by decide +kernel), List.mem_of_getElem? (i := 1097) (by decide +kernel)⟩
theorem lw_p50 : lw_okq (⟨"LeagueRoundsModel", "isBanned", "(III)Z"⟩, 33) := ⟨⟨by decide +kernel, by decide +kernel⟩, List.mem_of_getElem? (i := 895) (by decide +kernel), List.mem_of_getElem? (i := 1100) (by decide +kernel), List.mem_of_getElem? (i := 1101) (by decide +kernel)⟩
theorem lw_p51 : lw_okq (⟨"LeagueRoundsModel", "sharesWithOne", "(II)Z"⟩, 33) := ⟨⟨by decide +kernel, by decide +kernel⟩, List.mem_of_getElem? (i := 895) (by decide +kernel), List.mem_of_getElem? (i := 1104) (by decide +kernel), List.mem_of_getElem? (i := 1105) (by decide +kernel)⟩
theorem lw_p52 : lw_okq (⟨"LeagueRoundsModel", "keepsFixed", "(III)Z"⟩, 33) := ⟨⟨by decide +kernel, by decide +kernel⟩, List.mem_of_getElem? (i := 895) (by decide +kernel), List.mem_of_getElem? (i := 1108) (by decide +kernel), List.mem_of_getElem? (i := 1109) (by decide +kernel)⟩
theorem lw_p53 : lw_okq (⟨"LeagueRoundsModel", "awayBefore", "(II)I"⟩, 33) := ⟨⟨by decide +kernel, by decide +kernel⟩, List.mem_of_getElem? (i := 895) (by decide +kernel), List.mem_of_getElem? (i := 1112) (by decide +kernel), List.mem_of_getElem? (i := 1113) (by decide +kernel)⟩
theorem lw_p54 : lw_okq (⟨"LeagueRoundsModel", "choose", "(III)V"⟩, 33) := ⟨⟨by decide +kernel, by decide +kernel⟩, List.mem_of_getElem? (i := 895) (by decide +kernel), List.mem_of_getElem? (i := 1116) (by decide +kernel), List.mem_of_getElem? (i := 1117) (by decide +kernel)⟩
theorem lw_p55 : lw_okq (⟨"LeagueRoundsModel", "isRound", "(I)Z"⟩, 33) := ⟨⟨by decide +kernel, by decide +kernel⟩, List.mem_of_getElem? (i := 895) (by decide +kernel), List.mem_of_getElem? (i := 1128) (by decide +kernel), List.mem_of_getElem? (i := 1129) (by decide +kernel)⟩
theorem lw_p56 : lw_okq (⟨"LeagueRoundsModel", "venueOf", "(II)I"⟩, 33) := ⟨⟨by decide +kernel, by decide +kernel⟩, List.mem_of_getElem? (i := 895) (by decide +kernel), List.mem_of_getElem? (i := 1136) (by decide +kernel), List.mem_of_getElem? (i := 1137) (by decide +kernel)⟩
theorem lw_p57 : lw_okq (⟨"LeagueRoundsModel", "breaksOf", "(I)I"⟩, 33) := ⟨⟨by decide +kernel, by decide +kernel⟩, List.mem_of_getElem? (i := 895) (by decide +kernel), List.mem_of_getElem? (i := 1144) (by decide +kernel), List.mem_of_getElem? (i := 1145) (by decide +kernel)⟩
theorem lw_p58 : lw_okq (⟨"LeagueRoundsModel", "firstBroken", "()I"⟩, 33) := ⟨⟨by decide +kernel, by decide +kernel⟩, List.mem_of_getElem? (i := 895) (by decide +kernel), List.mem_of_getElem? (i := 1152) (by decide +kernel), List.mem_of_getElem? (i := 1153) (by decide +kernel)⟩
theorem lw_p59 : lw_okq (⟨"LeagueRoundsModel", "breaksBan", "()Z"⟩, 33) := ⟨⟨by decide +kernel, by decide +kernel⟩, List.mem_of_getElem? (i := 895) (by decide +kernel), List.mem_of_getElem? (i := 1156) (by decide +kernel), List.mem_of_getElem? (i := 1157) (by decide +kernel)⟩
theorem lw_p60 : lw_okq (⟨"LeagueRoundsModel", "breaksPair", "()Z"⟩, 33) := ⟨⟨by decide +kernel, by decide +kernel⟩, List.mem_of_getElem? (i := 895) (by decide +kernel), List.mem_of_getElem? (i := 1160) (by decide +kernel), List.mem_of_getElem? (i := 1161) (by decide +kernel)⟩
theorem lw_p61 : lw_okq (⟨"LeagueRoundsModel", "breaksFixed", "()Z"⟩, 33) := ⟨⟨by decide +kernel, by decide +kernel⟩, List.mem_of_getElem? (i := 895) (by decide +kernel), List.mem_of_getElem? (i := 1164) (by decide +kernel), List.mem_of_getElem? (i := 1165) (by decide +kernel)⟩
theorem lw_p62 : lw_okq (⟨"LeagueRoundsModel", "breaksCap", "()Z"⟩, 33) := ⟨⟨by decide +kernel, by decide +kernel⟩, List.mem_of_getElem? (i := 895) (by decide +kernel), List.mem_of_getElem? (i := 1168) (by decide +kernel), List.mem_of_getElem? (i := 1169) (by decide +kernel)⟩
theorem lw_p63 : lw_okq (⟨"LeagueRoundsModel", "playedGames", "()I"⟩, 33) := ⟨⟨by decide +kernel, by decide +kernel⟩, List.mem_of_getElem? (i := 895) (by decide +kernel), List.mem_of_getElem? (i := 1176) (by decide +kernel), List.mem_of_getElem? (i := 1177) (by decide +kernel)⟩
def lw_privs_4 : List (MethodName × Nat) := [(⟨"LeagueRoundsModel", "haveMet", "(III)Z"⟩, 33), (⟨"LeagueRoundsModel", "mayPlay", "(III)Z"⟩, 33), (⟨"LeagueRoundsModel", "isBanned", "(III)Z"⟩, 33), (⟨"LeagueRoundsModel", "sharesWithOne", "(II)Z"⟩, 33), (⟨"LeagueRoundsModel", "keepsFixed", "(III)Z"⟩, 33), (⟨"LeagueRoundsModel", "awayBefore", "(II)I"⟩, 33), (⟨"LeagueRoundsModel", "choose", "(III)V"⟩, 33), (⟨"LeagueRoundsModel", "isRound", "(I)Z"⟩, 33), (⟨"LeagueRoundsModel", "venueOf", "(II)I"⟩, 33), (⟨"LeagueRoundsModel", "breaksOf", "(I)I"⟩, 33), (⟨"LeagueRoundsModel", "firstBroken", "()I"⟩, 33), (⟨"LeagueRoundsModel", "breaksBan", "()Z"⟩, 33), (⟨"LeagueRoundsModel", "breaksPair", "()Z"⟩, 33), (⟨"LeagueRoundsModel", "breaksFixed", "()Z"⟩, 33), (⟨"LeagueRoundsModel", "breaksCap", "()Z"⟩, 33), (⟨"LeagueRoundsModel", "playedGames", "()I"⟩, 33)]
theorem lw_r4 : ∀ q ∈ lw_privs_4, lw_okq q := List.forall_mem_cons.mpr ⟨lw_p48, List.forall_mem_cons.mpr ⟨lw_p49, List.forall_mem_cons.mpr ⟨lw_p50, List.forall_mem_cons.mpr ⟨lw_p51, List.forall_mem_cons.mpr ⟨lw_p52, List.forall_mem_cons.mpr ⟨lw_p53, List.forall_mem_cons.mpr ⟨lw_p54, List.forall_mem_cons.mpr ⟨lw_p55, List.forall_mem_cons.mpr ⟨lw_p56, List.forall_mem_cons.mpr ⟨lw_p57, List.forall_mem_cons.mpr ⟨lw_p58, List.forall_mem_cons.mpr ⟨lw_p59, List.forall_mem_cons.mpr ⟨lw_p60, List.forall_mem_cons.mpr ⟨lw_p61, List.forall_mem_cons.mpr ⟨lw_p62, List.forall_mem_cons.mpr ⟨lw_p63, fun _ h => absurd h List.not_mem_nil⟩⟩⟩⟩⟩⟩⟩⟩⟩⟩⟩⟩⟩⟩⟩⟩
theorem lw_p64 : lw_okq (⟨"LeagueRoundsModel", "washedRounds", "()I"⟩, 33) := ⟨⟨by decide +kernel, by decide +kernel⟩, List.mem_of_getElem? (i := 895) (by decide +kernel), List.mem_of_getElem? (i := 1180) (by decide +kernel), List.mem_of_getElem? (i := 1181) (by decide +kernel)⟩
theorem lw_p65 : lw_okq (⟨"LeagueRoundsModel", "exchange", "(II)V"⟩, 33) := ⟨⟨by decide +kernel, by decide +kernel⟩, List.mem_of_getElem? (i := 895) (by decide +kernel), List.mem_of_getElem? (i := 1184) (by decide +kernel), List.mem_of_getElem? (i := 1185) (by decide +kernel)⟩
theorem lw_p66 : lw_okq (⟨"LeagueRoundsModel", "layTable", "()V"⟩, 33) := ⟨⟨by decide +kernel, by decide +kernel⟩, List.mem_of_getElem? (i := 895) (by decide +kernel), List.mem_of_getElem? (i := 1196) (by decide +kernel), List.mem_of_getElem? (i := 1197) (by decide +kernel)⟩
theorem lw_p67 : lw_okq (⟨"LeagueRoundsModel", "count", "(III)V"⟩, 33) := ⟨⟨by decide +kernel, by decide +kernel⟩, List.mem_of_getElem? (i := 895) (by decide +kernel), List.mem_of_getElem? (i := 1200) (by decide +kernel), List.mem_of_getElem? (i := 1201) (by decide +kernel)⟩
theorem lw_p68 : lw_okq (⟨"LeagueRoundsModel", "isBefore", "(II)Z"⟩, 33) := ⟨⟨by decide +kernel, by decide +kernel⟩, List.mem_of_getElem? (i := 895) (by decide +kernel), List.mem_of_getElem? (i := 1204) (by decide +kernel), List.mem_of_getElem? (i := 1205) (by decide +kernel)⟩
theorem lw_p69 : lw_okq (⟨"LeagueRoundsModel", "listMissing", "()V"⟩, 33) := ⟨⟨by decide +kernel, by decide +kernel⟩, List.mem_of_getElem? (i := 895) (by decide +kernel), List.mem_of_getElem? (i := 1220) (by decide +kernel), List.mem_of_getElem? (i := 1221) (by decide +kernel)⟩
theorem lw_p70 : lw_okq (⟨"LeagueRoundsModel", "busiest", "()I"⟩, 33) := ⟨⟨by decide +kernel, by decide +kernel⟩, List.mem_of_getElem? (i := 895) (by decide +kernel), List.mem_of_getElem? (i := 1228) (by decide +kernel), List.mem_of_getElem? (i := 1229) (by decide +kernel)⟩
theorem lw_p71 : lw_okq (⟨"LeagueRoundsModel", "put", "(I)Z"⟩, 33) := ⟨⟨by decide +kernel, by decide +kernel⟩, List.mem_of_getElem? (i := 895) (by decide +kernel), List.mem_of_getElem? (i := 1232) (by decide +kernel), List.mem_of_getElem? (i := 1233) (by decide +kernel)⟩
theorem lw_p72 : lw_okq (⟨"LeagueRoundsModel", "isClear", "(II)Z"⟩, 33) := ⟨⟨by decide +kernel, by decide +kernel⟩, List.mem_of_getElem? (i := 895) (by decide +kernel), List.mem_of_getElem? (i := 1236) (by decide +kernel), List.mem_of_getElem? (i := 1237) (by decide +kernel)⟩
theorem lw_p73 : lw_okq (⟨"LeagueRoundsModel", "meet", "(II)Z"⟩, 33) := ⟨⟨by decide +kernel, by decide +kernel⟩, List.mem_of_getElem? (i := 895) (by decide +kernel), List.mem_of_getElem? (i := 1240) (by decide +kernel), List.mem_of_getElem? (i := 1241) (by decide +kernel)⟩
def lw_privs_5 : List (MethodName × Nat) := [(⟨"LeagueRoundsModel", "washedRounds", "()I"⟩, 33), (⟨"LeagueRoundsModel", "exchange", "(II)V"⟩, 33), (⟨"LeagueRoundsModel", "layTable", "()V"⟩, 33), (⟨"LeagueRoundsModel", "count", "(III)V"⟩, 33), (⟨"LeagueRoundsModel", "isBefore", "(II)Z"⟩, 33), (⟨"LeagueRoundsModel", "listMissing", "()V"⟩, 33), (⟨"LeagueRoundsModel", "busiest", "()I"⟩, 33), (⟨"LeagueRoundsModel", "put", "(I)Z"⟩, 33), (⟨"LeagueRoundsModel", "isClear", "(II)Z"⟩, 33), (⟨"LeagueRoundsModel", "meet", "(II)Z"⟩, 33)]
theorem lw_r5 : ∀ q ∈ lw_privs_5, lw_okq q := List.forall_mem_cons.mpr ⟨lw_p64, List.forall_mem_cons.mpr ⟨lw_p65, List.forall_mem_cons.mpr ⟨lw_p66, List.forall_mem_cons.mpr ⟨lw_p67, List.forall_mem_cons.mpr ⟨lw_p68, List.forall_mem_cons.mpr ⟨lw_p69, List.forall_mem_cons.mpr ⟨lw_p70, List.forall_mem_cons.mpr ⟨lw_p71, List.forall_mem_cons.mpr ⟨lw_p72, List.forall_mem_cons.mpr ⟨lw_p73, fun _ h => absurd h List.not_mem_nil⟩⟩⟩⟩⟩⟩⟩⟩⟩⟩
def lw_privs : List (MethodName × Nat) := lw_privs_1 ++ (lw_privs_2 ++ (lw_privs_3 ++ (lw_privs_4 ++ (lw_privs_5))))
def lw_tbl : List Cond := k2_sels lw_privs ++ tables_1
theorem lw_privs_ok : ∀ q ∈ lw_privs, lw_okq q := by
  show ∀ q ∈ lw_privs_1 ++ (lw_privs_2 ++ (lw_privs_3 ++ (lw_privs_4 ++ (lw_privs_5)))), lw_okq q
  exact List.forall_mem_append.mpr ⟨lw_r1, List.forall_mem_append.mpr ⟨lw_r2, List.forall_mem_append.mpr ⟨lw_r3, List.forall_mem_append.mpr ⟨lw_r4, lw_r5⟩⟩⟩⟩
end
section
/-! names: classes, fields (written by wip/gen/names.py) -/
abbrev ZR0 : String := "LeagueRounds$CatchUp"
def ZT0 : u_T := fun k => match k with
  | 0 => ("LeagueRounds$CatchUp", "timetable", "LLeagueRounds$Timetable;", true)
  | 1 => ("LeagueRounds$CatchUp", "washOuts", "LLeagueRounds$WashOuts;", true)
  | 2 => ("LeagueRounds$CatchUp", "dates", "[I", true)
  | 3 => ("LeagueRounds$CatchUp", "dateCount", "I", false)
  | 4 => ("LeagueRounds$CatchUp", "dateOfGame", "[I", true)
  | 5 => ("LeagueRounds$CatchUp", "gameRound", "[I", true)
  | 6 => ("LeagueRounds$CatchUp", "gameHome", "[I", true)
  | 7 => ("LeagueRounds$CatchUp", "gameAway", "[I", true)
  | 8 => ("LeagueRounds$CatchUp", "chosen", "[I", true)
  | 9 => ("LeagueRounds$CatchUp", "takenDates", "[I", true)
  | 10 => ("LeagueRounds$CatchUp", "gameCount", "I", false)
  | _ => ("", "", "", false)
def Zy0 : Nat → FieldType := fun k => match k with
  | 0 => .object "LeagueRounds$Timetable"
  | 1 => .object "LeagueRounds$WashOuts"
  | 2 => .array .int
  | 3 => .int
  | 4 => .array .int
  | 5 => .array .int
  | 6 => .array .int
  | 7 => .array .int
  | 8 => .array .int
  | 9 => .array .int
  | 10 => .int
  | _ => .int
theorem Zn0 : ∀ a, a < 11 → ∀ b, b < 11 → a ≠ b → (ZT0 a).2.1 ≠ (ZT0 b).2.1 := by decide +kernel
theorem Zo0 : ∀ k, k < 11 → parseFieldDescriptor (ZT0 k).2.2.1 = some (Zy0 k) := by decide +kernel
def Zi0 : List Nat := [202, 204, 206, 208, 210, 212, 214, 216, 218, 220, 222]
abbrev ZR1 : String := "LeagueRounds$Results"
def ZT1 : u_T := fun k => match k with
  | 0 => ("LeagueRounds$Results", "homeGoals", "[I", true)
  | 1 => ("LeagueRounds$Results", "awayGoals", "[I", true)
  | 2 => ("LeagueRounds$Results", "rows", "LLeagueRounds$Standings;", true)
  | 3 => ("LeagueRounds$Results", "count", "I", false)
  | _ => ("", "", "", false)
def Zy1 : Nat → FieldType := fun k => match k with
  | 0 => .array .int
  | 1 => .array .int
  | 2 => .object "LeagueRounds$Standings"
  | 3 => .int
  | _ => .int
theorem Zn1 : ∀ a, a < 4 → ∀ b, b < 4 → a ≠ b → (ZT1 a).2.1 ≠ (ZT1 b).2.1 := by decide +kernel
theorem Zo1 : ∀ k, k < 4 → parseFieldDescriptor (ZT1 k).2.2.1 = some (Zy1 k) := by decide +kernel
def Zi1 : List Nat := [155, 157, 159, 161]
abbrev ZR2 : String := "LeagueRounds$Search"
def ZT2 : u_T := fun k => match k with
  | 0 => ("LeagueRounds$Search", "wishes", "LLeagueRounds$Wishes;", true)
  | 1 => ("LeagueRounds$Search", "draft", "LLeagueRounds$Timetable;", true)
  | 2 => ("LeagueRounds$Search", "busy", "[I", true)
  | 3 => ("LeagueRounds$Search", "met", "[I", true)
  | 4 => ("LeagueRounds$Search", "hadBye", "I", false)
  | 5 => ("LeagueRounds$Search", "everyone", "I", false)
  | 6 => ("LeagueRounds$Search", "choicesLeft", "I", false)
  | _ => ("", "", "", false)
def Zy2 : Nat → FieldType := fun k => match k with
  | 0 => .object "LeagueRounds$Wishes"
  | 1 => .object "LeagueRounds$Timetable"
  | 2 => .array .int
  | 3 => .array .int
  | 4 => .int
  | 5 => .int
  | 6 => .int
  | _ => .int
theorem Zn2 : ∀ a, a < 7 → ∀ b, b < 7 → a ≠ b → (ZT2 a).2.1 ≠ (ZT2 b).2.1 := by decide +kernel
theorem Zo2 : ∀ k, k < 7 → parseFieldDescriptor (ZT2 k).2.2.1 = some (Zy2 k) := by decide +kernel
def Zi2 : List Nat := [105, 107, 109, 111, 113, 115, 117]
abbrev ZR3 : String := "LeagueRounds$Standings"
def ZT3 : u_T := fun k => match k with
  | 0 => ("LeagueRounds$Standings", "won", "[I", true)
  | 1 => ("LeagueRounds$Standings", "drawn", "[I", true)
  | 2 => ("LeagueRounds$Standings", "lost", "[I", true)
  | 3 => ("LeagueRounds$Standings", "goalsFor", "[I", true)
  | 4 => ("LeagueRounds$Standings", "goalsAgainst", "[I", true)
  | _ => ("", "", "", false)
def Zy3 : Nat → FieldType := fun k => match k with
  | 0 => .array .int
  | 1 => .array .int
  | 2 => .array .int
  | 3 => .array .int
  | 4 => .array .int
  | _ => .int
theorem Zn3 : ∀ a, a < 5 → ∀ b, b < 5 → a ≠ b → (ZT3 a).2.1 ≠ (ZT3 b).2.1 := by decide +kernel
theorem Zo3 : ∀ k, k < 5 → parseFieldDescriptor (ZT3 k).2.2.1 = some (Zy3 k) := by decide +kernel
def Zi3 : List Nat := [137, 139, 141, 143, 145]
abbrev ZR4 : String := "LeagueRounds$Timetable"
def ZT4 : u_T := fun k => match k with
  | 0 => ("LeagueRounds$Timetable", "width", "I", true)
  | 1 => ("LeagueRounds$Timetable", "opponents", "[I", true)
  | 2 => ("LeagueRounds$Timetable", "venues", "[I", true)
  | 3 => ("LeagueRounds$Timetable", "teamCount", "I", false)
  | 4 => ("LeagueRounds$Timetable", "roundCount", "I", false)
  | _ => ("", "", "", false)
def Zy4 : Nat → FieldType := fun k => match k with
  | 0 => .int
  | 1 => .array .int
  | 2 => .array .int
  | 3 => .int
  | 4 => .int
  | _ => .int
theorem Zn4 : ∀ a, a < 5 → ∀ b, b < 5 → a ≠ b → (ZT4 a).2.1 ≠ (ZT4 b).2.1 := by decide +kernel
theorem Zo4 : ∀ k, k < 5 → parseFieldDescriptor (ZT4 k).2.2.1 = some (Zy4 k) := by decide +kernel
def Zi4 : List Nat := [38, 40, 42, 44, 46]
abbrev ZR5 : String := "LeagueRounds$WashOuts"
def ZT5 : u_T := fun k => match k with
  | 0 => ("LeagueRounds$WashOuts", "timetable", "LLeagueRounds$Timetable;", true)
  | 1 => ("LeagueRounds$WashOuts", "results", "LLeagueRounds$Results;", true)
  | 2 => ("LeagueRounds$WashOuts", "washed", "[Z", true)
  | 3 => ("LeagueRounds$WashOuts", "count", "I", false)
  | _ => ("", "", "", false)
def Zy5 : Nat → FieldType := fun k => match k with
  | 0 => .object "LeagueRounds$Timetable"
  | 1 => .object "LeagueRounds$Results"
  | 2 => .array .boolean
  | 3 => .int
  | _ => .int
theorem Zn5 : ∀ a, a < 4 → ∀ b, b < 4 → a ≠ b → (ZT5 a).2.1 ≠ (ZT5 b).2.1 := by decide +kernel
theorem Zo5 : ∀ k, k < 4 → parseFieldDescriptor (ZT5 k).2.2.1 = some (Zy5 k) := by decide +kernel
def Zi5 : List Nat := [174, 176, 178, 180]
abbrev ZR6 : String := "LeagueRounds$Wishes"
def ZT6 : u_T := fun k => match k with
  | 0 => ("LeagueRounds$Wishes", "homeBans", "[I", true)
  | 1 => ("LeagueRounds$Wishes", "awayBans", "[I", true)
  | 2 => ("LeagueRounds$Wishes", "banCount", "I", false)
  | 3 => ("LeagueRounds$Wishes", "pairFirst", "[I", true)
  | 4 => ("LeagueRounds$Wishes", "pairSecond", "[I", true)
  | 5 => ("LeagueRounds$Wishes", "pairCount", "I", false)
  | 6 => ("LeagueRounds$Wishes", "fixedHome", "[I", true)
  | 7 => ("LeagueRounds$Wishes", "fixedAway", "[I", true)
  | 8 => ("LeagueRounds$Wishes", "fixedRound", "[I", true)
  | 9 => ("LeagueRounds$Wishes", "fixedCount", "I", false)
  | 10 => ("LeagueRounds$Wishes", "cap", "I", false)
  | _ => ("", "", "", false)
def Zy6 : Nat → FieldType := fun k => match k with
  | 0 => .array .int
  | 1 => .array .int
  | 2 => .int
  | 3 => .array .int
  | 4 => .array .int
  | 5 => .int
  | 6 => .array .int
  | 7 => .array .int
  | 8 => .array .int
  | 9 => .int
  | 10 => .int
  | _ => .int
theorem Zn6 : ∀ a, a < 11 → ∀ b, b < 11 → a ≠ b → (ZT6 a).2.1 ≠ (ZT6 b).2.1 := by decide +kernel
theorem Zo6 : ∀ k, k < 11 → parseFieldDescriptor (ZT6 k).2.2.1 = some (Zy6 k) := by decide +kernel
def Zi6 : List Nat := [67, 69, 71, 73, 75, 77, 79, 81, 83, 85, 87]
abbrev ZR7 : String := "LeagueRounds"
def ZT7 : u_T := fun k => match k with
  | 0 => ("LeagueRounds", "timetable", "LLeagueRounds$Timetable;", true)
  | 1 => ("LeagueRounds", "wishes", "LLeagueRounds$Wishes;", true)
  | 2 => ("LeagueRounds", "search", "LLeagueRounds$Search;", true)
  | 3 => ("LeagueRounds", "results", "LLeagueRounds$Results;", true)
  | 4 => ("LeagueRounds", "washOuts", "LLeagueRounds$WashOuts;", true)
  | 5 => ("LeagueRounds", "catchUps", "LLeagueRounds$CatchUp;", true)
  | _ => ("", "", "", false)
def Zy7 : Nat → FieldType := fun k => match k with
  | 0 => .object "LeagueRounds$Timetable"
  | 1 => .object "LeagueRounds$Wishes"
  | 2 => .object "LeagueRounds$Search"
  | 3 => .object "LeagueRounds$Results"
  | 4 => .object "LeagueRounds$WashOuts"
  | 5 => .object "LeagueRounds$CatchUp"
  | _ => .int
theorem Zn7 : ∀ a, a < 6 → ∀ b, b < 6 → a ≠ b → (ZT7 a).2.1 ≠ (ZT7 b).2.1 := by decide +kernel
theorem Zo7 : ∀ k, k < 6 → parseFieldDescriptor (ZT7 k).2.2.1 = some (Zy7 k) := by decide +kernel
def Zi7 : List Nat := [231, 233, 235, 237, 239, 241]
abbrev ZR8 : String := "LeagueRoundsModel"
def ZT8 : u_T := fun k => match k with
  | 0 => ("LeagueRoundsModel", "thrown", "I", false)
  | 1 => ("LeagueRoundsModel", "n", "I", false)
  | 2 => ("LeagueRoundsModel", "banCount", "I", false)
  | 3 => ("LeagueRoundsModel", "bans", "[Z", true)
  | 4 => ("LeagueRoundsModel", "pairs", "I", false)
  | 5 => ("LeagueRoundsModel", "ones", "[I", true)
  | 6 => ("LeagueRoundsModel", "others", "[I", true)
  | 7 => ("LeagueRoundsModel", "fixed", "I", false)
  | 8 => ("LeagueRoundsModel", "fixedHome", "[I", true)
  | 9 => ("LeagueRoundsModel", "fixedAway", "[I", true)
  | 10 => ("LeagueRoundsModel", "fixedRound", "[I", true)
  | 11 => ("LeagueRoundsModel", "cap", "I", false)
  | 12 => ("LeagueRoundsModel", "rounds", "I", false)
  | 13 => ("LeagueRoundsModel", "foes", "[I", true)
  | 14 => ("LeagueRoundsModel", "homes", "[Z", true)
  | 15 => ("LeagueRoundsModel", "played", "[Z", true)
  | 16 => ("LeagueRoundsModel", "goals", "[I", true)
  | 17 => ("LeagueRoundsModel", "against", "[I", true)
  | 18 => ("LeagueRoundsModel", "lost", "[Z", true)
  | 19 => ("LeagueRoundsModel", "dates", "[I", true)
  | 20 => ("LeagueRoundsModel", "washed", "[Z", true)
  | 21 => ("LeagueRoundsModel", "reserves", "I", false)
  | 22 => ("LeagueRoundsModel", "reserveDates", "[I", true)
  | 23 => ("LeagueRoundsModel", "tried", "[I", true)
  | 24 => ("LeagueRoundsModel", "atHome", "[Z", true)
  | 25 => ("LeagueRoundsModel", "levelRound", "[I", true)
  | 26 => ("LeagueRoundsModel", "levelTeam", "[I", true)
  | 27 => ("LeagueRoundsModel", "levelChoice", "[I", true)
  | 28 => ("LeagueRoundsModel", "games", "I", false)
  | 29 => ("LeagueRoundsModel", "gameCells", "[I", true)
  | 30 => ("LeagueRoundsModel", "gameDates", "[I", true)
  | 31 => ("LeagueRoundsModel", "stats", "[I", true)
  | 32 => ("LeagueRoundsModel", "order", "[I", true)
  | _ => ("", "", "", false)
def Zy8 : Nat → FieldType := fun k => match k with
  | 0 => .int
  | 1 => .int
  | 2 => .int
  | 3 => .array .boolean
  | 4 => .int
  | 5 => .array .int
  | 6 => .array .int
  | 7 => .int
  | 8 => .array .int
  | 9 => .array .int
  | 10 => .array .int
  | 11 => .int
  | 12 => .int
  | 13 => .array .int
  | 14 => .array .boolean
  | 15 => .array .boolean
  | 16 => .array .int
  | 17 => .array .int
  | 18 => .array .boolean
  | 19 => .array .int
  | 20 => .array .boolean
  | 21 => .int
  | 22 => .array .int
  | 23 => .array .int
  | 24 => .array .boolean
  | 25 => .array .int
  | 26 => .array .int
  | 27 => .array .int
  | 28 => .int
  | 29 => .array .int
  | 30 => .array .int
  | 31 => .array .int
  | 32 => .array .int
  | _ => .int
theorem Zn8 : ∀ a, a < 33 → ∀ b, b < 33 → a ≠ b → (ZT8 a).2.1 ≠ (ZT8 b).2.1 := by decide +kernel
theorem Zo8 : ∀ k, k < 33 → parseFieldDescriptor (ZT8 k).2.2.1 = some (Zy8 k) := by decide +kernel
def Zi8 : List Nat := [933, 935, 937, 939, 941, 943, 945, 947, 949, 951, 953, 955, 957, 959, 961, 963, 965, 967, 969, 971, 973, 975, 977, 979, 981, 983, 985, 987, 989, 991, 993, 995, 997]
def zcl : List vw_C := [(ZR0, ZT0, 11), (ZR1, ZT1, 4), (ZR2, ZT2, 7), (ZR3, ZT3, 5), (ZR4, ZT4, 5), (ZR5, ZT5, 4), (ZR6, ZT6, 11), (ZR7, ZT7, 6), (ZR8, ZT8, 33)]
def zNC : List (String × String) := [("java/lang/IllegalArgumentException", "java/lang/IllegalStateException"), ("java/lang/IllegalArgumentException", "java/lang/IndexOutOfBoundsException"), ("java/lang/IllegalArgumentException", "java/util/NoSuchElementException"), ("java/lang/IllegalStateException", "java/lang/IllegalArgumentException"), ("java/lang/IllegalStateException", "java/lang/IndexOutOfBoundsException"), ("java/lang/IllegalStateException", "java/util/NoSuchElementException"), ("java/lang/IndexOutOfBoundsException", "java/lang/IllegalArgumentException"), ("java/lang/IndexOutOfBoundsException", "java/lang/IllegalStateException"), ("java/lang/IndexOutOfBoundsException", "java/util/NoSuchElementException"), ("java/util/NoSuchElementException", "java/lang/IllegalArgumentException"), ("java/util/NoSuchElementException", "java/lang/IllegalStateException"), ("java/util/NoSuchElementException", "java/lang/IndexOutOfBoundsException")]
def zSR : List (Nat × String) := [(61, "no such number of teams"), (82, "no such team or round"), (84, "no such venue"), (94, "not two teams"), (102, "no more pairs"), (109, "not two teams, or no such round"), (114, "no more fixed games"), (119, "no such cap"), (133, "no such budget"), (138, "too many teams"), (261, "no such round or team"), (165, "no such team"), (179, "no such round"), (185, "the season has begun"), (193, "no such goals"), (265, "no home game in that round"), (204, "the game is missing and has no date"), (210, "no such place or field"), (227, "washed out already, or too many rounds are"), (235, "no such date"), (243, "a reserve date already, or no more dates"), (251, "too many games are missing")]
end
section
/-! THE SMALL MACHINE: values with places for addresses, a world of shapes and numbers, and the walk 'zW' over it; every row below says that the true machine goes as the small one does -/
/-- a shape: an array (kind 0 int, 1 boolean, 2 long; length), or an object (class number; fields: none a number, 'some r' a reference) -/
abbrev zs : Type := (Nat × Nat) ⊕ (Nat × List (Option (Option Nat)))
/-- a world: the shapes by place, and the numbers in them -/
abbrev zS : Type := List zs × (Nat → Nat → Int32)
/-- a method: name, bytes, locals, answer, handlers; the law's own: the script, which lies at place 999 -/
abbrev zM : Type := MethodName × ByteArray × Nat × Option FieldType × List (Nat × Nat × Nat × Nat) × Option (Nat × (Nat → Int32))
/-- an end: the answer or the class of what was thrown; the world; cells and slots made since the method began -/
abbrev zR : Type := (Option Value ⊕ String) × zS × Nat × Nat
def zc (ad : Nat → Nat) : Value → Value
  | .ref k => .ref (ad k)
  | v => v
def zfv (ad : Nat → Nat) (g : Nat → Int32) (j : Nat) : Option (Option Nat) → Value
  | none => .int (g j)
  | some none => .null
  | some (some q) => .ref (ad q)
def zce (tc : Nat → ClassId) (ad : Nat → Nat) (g : Nat → Int32) : zs → va_E
  | .inl (t, n) => .inl (tc t, n, if t = 2 then .inr (.inl (fun j => (g j).toInt64)) else .inl g)
  | .inr (c, fs) => .inr (c, fs.mapIdx (fun j f => zfv ad g j f))
def zw (tc : Nat → ClassId) (ad : Nat → Nat) (S : zS) : va_W := S.1.mapIdx (fun k z => (ad k, zce tc ad (S.2 k) z))
def zty (t : Nat) : FieldType := match t with
  | 0 => .int
  | 1 => .boolean
  | _ => .long
def zK (tc : Nat → ClassId) : List (ClassId × FieldType) := [(tc 0, .int), (tc 1, .boolean), (tc 2, .long)]
theorem zw_at {tc : Nat → ClassId} {ad : Nat → Nat} {S : zS} {k : Nat} {z : zs} (h : S.1[k]? = some z) : (zw tc ad S)[k]? = some (ad k, zce tc ad (S.2 k) z) := by
  unfold zw
  rw [List.getElem?_mapIdx, h]
  rfl
theorem zK_at (tc : Nat → ClassId) (t : Nat) (h : t < 3) : (zK tc)[t]? = some (tc t, zty t) := by
  match t, h with
  | 0, _ => rfl
  | 1, _ => rfl
  | 2, _ => rfl
/-! the words -/
def zgood : Cond → Bool
  | .methodLinkNest .. => true
  | .castable .. => true
  | .declares _ => true
  | w => goodWord w
theorem zgood_warm {s U : State} {w : Cond} (hW : s.WarmedH U.vm) (hg : zgood w = true) {a a' : Array Value} (h : w.before a s = true) : w.before a' U = true := by
  cases w
  case methodLinkNest x1 x2 x3 x4 => exact va_Nw.use rfl (va_Nw.warmM hW (va_Nw.of rfl h))
  case declares x => exact va_Nw.use rfl (va_Nw.warmD hW (va_Nw.of rfl h))
  case castable x y =>
    have h1 : (Cond.castable x y).before a (s.setVm U.vm) = true := Cond.before_shiftedCast (State.Shifted.of_warmed hW) _ rfl h
    exact va_tabs rfl (rfl : (s.setVm U.vm).vm = U.vm) h1
  all_goals exact word_at hW (good_of_word hg) h
abbrev tN9 : String := "java/lang/Throwable"
def zsl (n d : String) (A : Nat → Prop) (U : State) (H : Heap) : Prop := ∃ (c : ClassId) (k : Class) (i : Nat) (f : Field) (a : Nat) (cell : Cell) (v : Value), U.vm.findClass tN9 = some c ∧ U.fieldFound? tN9 n d = some (c, k, i, f) ∧ f.isStatic = true ∧ k.statics = some a ∧ H[a]? = some cell ∧ cell.vm.isStatics = true ∧ cell.cls = c ∧ f.slot < cell.slots.size ∧ k.staticTypes[f.slot]? = some f.type ∧ cell.slots[f.slot]? = some v ∧ v.isRef = true ∧ ¬ A a
theorem zsl.moved {n d : String} {A : Nat → Prop} {u U : State} {H H1 : Heap} (hvm : u.vm.Alike U.vm) (hq : ∀ q : Nat, q < H.size → ¬ A q → H1[q]? = H[q]?) (h : zsl n d A u H) : zsl n d A U H1 := by
  obtain ⟨c, k, i, f, a, cell, v, h1, h2, h3, h4, h5, h6, h7, h8, h9, h10, h11, h12⟩ := h
  obtain ⟨k', hi', he⟩ := State.fieldFound?_setVm hvm h2
  refine ⟨c, k', i, f, a, cell, v, by rw [hvm.findClass]; exact h1, hi', h3, by rw [he]; exact h4, ?_, h6, h7, h8, by rw [he]; exact h9, h10, h11, h12⟩
  rw [hq a (Array.getElem?_eq_some_iff.mp h5).1 h12]
  exact h5
abbrev steD9 : String := "[Ljava/lang/StackTraceElement;"
abbrev listD9 : String := "Ljava/util/List;"
/-- what every method finds true of the tables: the words, the classes that are no others, the texts, and where Throwable's two statics lie (in no cell of A) -/
def zT (A : Nat → Prop) (U : State) : Prop :=
  (∀ w ∈ lw_tbl, zgood w = true → w.before #[] U = true) ∧ (∀ q ∈ zNC, va_Nc q.1 q.2 U) ∧ (∀ q ∈ zSR, ∃ a, vk_R "LeagueRounds" q.1 q.2 a U) ∧ zsl "UNASSIGNED_STACK" steD9 A U U.heap ∧ zsl "SUPPRESSED_SENTINEL" listD9 A U U.heap
theorem zT.warm {A : Nat → Prop} {s U : State} (h : zT A s) (hW : s.WarmedH U.vm) (hq : ∀ q : Nat, q < s.heap.size → ¬ A q → U.heap[q]? = s.heap[q]?) : zT A U := by
  obtain ⟨h1, h2, h3, h4, h5⟩ := h
  refine ⟨fun w hw hg => zgood_warm hW hg (h1 w hw hg), fun q hm => va_Nc.moved hW.alike (h2 q hm), fun q hm => ?_, h4.moved hW.alike hq, h5.moved hW.alike hq⟩
  obtain ⟨a, ha⟩ := h3 q hm
  exact ⟨a, vk_R.warm hW ha⟩
/-- a word of the tables that stays -/
def zI (w : Cond) : Prop := w ∈ lw_tbl ∧ zgood w = true
theorem zT.w {A : Nat → Prop} {s : State} (h : zT A s) {w : Cond} (hw : zI w) {a : Array Value} : w.before a s = true := zgood_warm (State.WarmedH.refl s) hw.2 (h.1 w hw.1 hw.2)
theorem zI_at (i : Nat) {w : Cond} (h : tables_1[i]? = some w) (hg : zgood w = true) : zI w := ⟨List.mem_append_right _ (List.mem_of_getElem? h), hg⟩
theorem zI_sel (i : Nat) {w : Cond} (h : (k2_sels lw_privs)[i]? = some w) (hg : zgood w = true) : zI w := ⟨List.mem_append_left _ (List.mem_of_getElem? h), hg⟩
/-! locals -/
def zloc (lsM : Array Slot) (n : Nat) (ad : Nat → Nat) (ls : List Value) : Prop := lsM.size = n ∧ lv_wf lsM ∧ ∀ (i : Nat) (v : Value), ls[i]? = some v → v ≠ .null → v.category = 1 ∧ lsM[i]? = some (.val (zc ad v))
/-- what holds all through a method -/
def zX (l : Launch) (p : Program) (s : State) (m : MethodId) (meth : Method) (c : Code) (M : zM) (D : va_G) (tc : Nat → ClassId) (A : Nat → Prop) : Prop :=
  p.tables.exec = Jvm.exec ∧ c.code = M.2.1 ∧ c.maxLocals = M.2.2.1 ∧ meth.sig.returnType = M.2.2.2.1 ∧ meth.locks = false ∧ meth.name = M.1.name ∧ s.vm.findClass M.1.cls = some m.cls ∧ c.exceptionTable.toList = tableOf M.2.2.2.2.1 ∧ zT A s ∧ va_K D zcl (zK tc) s ∧ (∀ q, s.heap.size ≤ q → A q) ∧ l.stackTraces = false
/-- what holds now -/
def zL (M : zM) (D : va_G) (tc : Nat → ClassId) (A : Nat → Prop) (ad : Nat → Nat) (s : State) (S : zS) (H : Heap) (locs : List Loc) : Prop := va_P D zcl (zw tc ad S) H ∧ va_D A (zw tc ad S) ∧ va_S A s.heap H locs ∧ ∀ (L : Nat) (xs : Nat → Int32), M.2.2.2.2.2 = some (L, xs) → va_X (ad 999) L xs s s.heap ∧ ad 999 < s.heap.size ∧ ¬ A (ad 999)
/-- what holds at the end -/
def zQ (D : va_G) (tc : Nat → ClassId) (A : Nat → Prop) (ad : Nat → Nat) (S : zS) (r : zR) (st : State) (o : Outcome) (t : State) : Prop :=
  ∃ ad' : Nat → Nat, (∀ k, k < S.1.length ∨ k = 999 → ad' k = ad k) ∧ (r.2.1.1 = S.1 → ad' = ad) ∧ S.1.length ≤ r.2.1.1.length ∧
    (match r.1 with
      | .inl v => o = .returned (v.map (zc ad'))
      | .inr E => ∃ (q : Addr) (ce : Cell), o = .threw q ∧ t.heap[q]? = some ce ∧ ce.vm = .none ∧ t.vm.findClass E = some ce.cls) ∧
    va_P D zcl (zw tc ad' r.2.1) t.heap ∧ va_D A (zw tc ad' r.2.1) ∧ va_F A st t
def zE (below : List Frame) (s : State) (D : va_G) (tc : Nat → ClassId) (A : Nat → Prop) (ad : Nat → Nat) (S : zS) (r : zR) : State → Prop := fun t =>
  ∃ o, t.status = .running ∧ Ended t below o ∧ zQ D tc A ad S r s o t ∧ s.WarmedH t.vm ∧ ∃ L, s.sameButNew ({ t with vm := s.vm } : State) L r.2.2.1 r.2.2.2 ∧ ∀ q ∈ L, A q.base
def zrm (d : Nat) (r : zR) : Room := { frames := d, cells := r.2.2.1, slots := r.2.2.2, locals := 64 * d }
/-- THE WALK: the method M, now at pc with these locals, this stack, this world, so many cells and slots made, comes to the end r; d frames are left -/
def zW (l : Launch) (d : Nat) (M : zM) (pc : Nat) (ls st : List Value) (S : zS) (cs : Nat × Nat) (r : zR) : Prop :=
  ∀ (p : Program) (e : Env) (s : State) (m : MethodId) (args : Array Value) (below : List Frame) (meth : Method) (c : Code) (D : va_G) (tc : Nat → ClassId) (A : Nat → Prop), zX l p s m meth c M D tc A →
    ∀ (ad : Nat → Nat) (H : Heap) (locs : List Loc) (lsM : Array Slot), zL M D tc A ad s S H locs → zloc lsM M.2.2.1 ad ls →
      W p l e (zrm d r) s m args below meth c H locs cs.1 cs.2 (zE below s D tc A ad S r) (F0 m pc lsM (st.map (zc ad)))
def zcw (M : zM) : Cond := match M.2.2.2.2.1 with
  | [] => .code M.1 M.2.1 M.2.2.1 M.2.2.2.1
  | hh => .codeWith M.1 M.2.1 M.2.2.1 M.2.2.2.1 hh
/-- THE CONTRACT: called with these arguments in this world the method comes to the end r -/
def zMet (l : Launch) (d : Nat) (M : zM) (as : List Value) (S : zS) (r : zR) : Prop :=
  ∀ (D : va_G) (tc : Nat → ClassId) (A : Nat → Prop) (ad : Nat → Nat), l.stackTraces = false → MetFree l M.1 (headSpec [zcw M] (zrm d r))
    (va_Pc (as.map (zc ad)) (fun U => zT A U ∧ va_K D zcl (zK tc) U ∧ va_P D zcl (zw tc ad S) U.heap ∧ va_D A (zw tc ad S) ∧ ∀ q, U.heap.size ≤ q → A q)) (fun _ _ _ _ _ => True)
    (fun _ st o t => zQ D tc A ad S r st o t ∧ st.WarmedH t.vm ∧ ∃ L, st.sameButNew ({ t with vm := st.vm } : State) L r.2.2.1 r.2.2.2 ∧ ∀ q ∈ L, A q.base)
end
section
/-! rows of single instructions (written by wip/gen/rows.py) -/
section ZR
variable {l : Launch} {d : Nat} {M : zM} {pc : Nat} {ls st : List Value} {S : zS} {cs : Nat × Nat} {r : zR}
theorem zr_iconst {n : Int} (hd : decode M.2.1 pc = .ok (.iconst n, 1))  (k : zW l d M (pc + 1) ls (.int (Int32.ofInt n) :: st) S cs r) : zW l d M pc ls (st) S cs r := by
  intro p e s m args below meth c D tc A hX ad H locs lsM hL hls
  exact lv_iconst hX.1 hX.2.1 hd rfl (k p e s m args below meth c D tc A hX ad H locs lsM hL hls)
theorem zr_bipush {n : Int} (hd : decode M.2.1 pc = .ok (.bipush n, 2)) (hv : (Int8.ofInt n).toInt32 = Int32.ofInt n) (k : zW l d M (pc + 2) ls (.int (Int32.ofInt n) :: st) S cs r) : zW l d M pc ls (st) S cs r := by
  intro p e s m args below meth c D tc A hX ad H locs lsM hL hls
  exact lv_bipush hX.1 hX.2.1 hd hv (k p e s m args below meth c D tc A hX ad H locs lsM hL hls)
theorem zr_sipush {n : Int} (hd : decode M.2.1 pc = .ok (.sipush n, 3)) (hv : (Int16.ofInt n).toInt32 = Int32.ofInt n) (k : zW l d M (pc + 3) ls (.int (Int32.ofInt n) :: st) S cs r) : zW l d M pc ls (st) S cs r := by
  intro p e s m args below meth c D tc A hX ad H locs lsM hL hls
  exact lv_sipush hX.1 hX.2.1 hd hv (k p e s m args below meth c D tc A hX ad H locs lsM hL hls)
theorem zr_iadd {x y : Int32} (hd : decode M.2.1 pc = .ok (.iadd, 1))  (k : zW l d M (pc + 1) ls (.int (x + y) :: st) S cs r) : zW l d M pc ls (.int y :: .int x :: st) S cs r := by
  intro p e s m args below meth c D tc A hX ad H locs lsM hL hls
  exact lv_iadd hX.1 hX.2.1 hd (k p e s m args below meth c D tc A hX ad H locs lsM hL hls)
theorem zr_isub {x y : Int32} (hd : decode M.2.1 pc = .ok (.isub, 1))  (k : zW l d M (pc + 1) ls (.int (x - y) :: st) S cs r) : zW l d M pc ls (.int y :: .int x :: st) S cs r := by
  intro p e s m args below meth c D tc A hX ad H locs lsM hL hls
  exact lv_isub hX.1 hX.2.1 hd (k p e s m args below meth c D tc A hX ad H locs lsM hL hls)
theorem zr_imul {x y : Int32} (hd : decode M.2.1 pc = .ok (.imul, 1))  (k : zW l d M (pc + 1) ls (.int (x * y) :: st) S cs r) : zW l d M pc ls (.int y :: .int x :: st) S cs r := by
  intro p e s m args below meth c D tc A hX ad H locs lsM hL hls
  exact lv_imul hX.1 hX.2.1 hd (k p e s m args below meth c D tc A hX ad H locs lsM hL hls)
theorem zr_iand {x y : Int32} (hd : decode M.2.1 pc = .ok (.iand, 1))  (k : zW l d M (pc + 1) ls (.int (x &&& y) :: st) S cs r) : zW l d M pc ls (.int y :: .int x :: st) S cs r := by
  intro p e s m args below meth c D tc A hX ad H locs lsM hL hls
  exact lv_iand hX.1 hX.2.1 hd (k p e s m args below meth c D tc A hX ad H locs lsM hL hls)
theorem zr_ior {x y : Int32} (hd : decode M.2.1 pc = .ok (.ior, 1))  (k : zW l d M (pc + 1) ls (.int (x ||| y) :: st) S cs r) : zW l d M pc ls (.int y :: .int x :: st) S cs r := by
  intro p e s m args below meth c D tc A hX ad H locs lsM hL hls
  exact lv_ior hX.1 hX.2.1 hd (k p e s m args below meth c D tc A hX ad H locs lsM hL hls)
theorem zr_ixor {x y : Int32} (hd : decode M.2.1 pc = .ok (.ixor, 1))  (k : zW l d M (pc + 1) ls (.int (x ^^^ y) :: st) S cs r) : zW l d M pc ls (.int y :: .int x :: st) S cs r := by
  intro p e s m args below meth c D tc A hX ad H locs lsM hL hls
  exact lv_ixor hX.1 hX.2.1 hd (k p e s m args below meth c D tc A hX ad H locs lsM hL hls)
theorem zr_ishl {x y : Int32} (hd : decode M.2.1 pc = .ok (.ishl, 1))  (k : zW l d M (pc + 1) ls (.int (x <<< (y &&& 31)) :: st) S cs r) : zW l d M pc ls (.int y :: .int x :: st) S cs r := by
  intro p e s m args below meth c D tc A hX ad H locs lsM hL hls
  exact lv_ishl hX.1 hX.2.1 hd (k p e s m args below meth c D tc A hX ad H locs lsM hL hls)
theorem zr_ishr {x y : Int32} (hd : decode M.2.1 pc = .ok (.ishr, 1))  (k : zW l d M (pc + 1) ls (.int (x >>> (y &&& 31)) :: st) S cs r) : zW l d M pc ls (.int y :: .int x :: st) S cs r := by
  intro p e s m args below meth c D tc A hX ad H locs lsM hL hls
  exact lv_ishr hX.1 hX.2.1 hd (k p e s m args below meth c D tc A hX ad H locs lsM hL hls)
theorem zr_idiv {x y : Int32} (hd : decode M.2.1 pc = .ok (.idiv, 1)) (hne : ¬ y = 0) (k : zW l d M (pc + 1) ls (.int (x / y) :: st) S cs r) : zW l d M pc ls (.int y :: .int x :: st) S cs r := by
  intro p e s m args below meth c D tc A hX ad H locs lsM hL hls
  exact lv_idiv hX.1 hX.2.1 hd hne (k p e s m args below meth c D tc A hX ad H locs lsM hL hls)
theorem zr_irem {x y : Int32} (hd : decode M.2.1 pc = .ok (.irem, 1)) (hne : ¬ y = 0) (k : zW l d M (pc + 1) ls (.int (x - x / y * y) :: st) S cs r) : zW l d M pc ls (.int y :: .int x :: st) S cs r := by
  intro p e s m args below meth c D tc A hX ad H locs lsM hL hls
  exact lv_irem hX.1 hX.2.1 hd hne (k p e s m args below meth c D tc A hX ad H locs lsM hL hls)
theorem zr_i2l {x : Int32} (hd : decode M.2.1 pc = .ok (.i2l, 1))  (k : zW l d M (pc + 1) ls (.long x.toInt64 :: st) S cs r) : zW l d M pc ls (.int x :: st) S cs r := by
  intro p e s m args below meth c D tc A hX ad H locs lsM hL hls
  exact lv_i2l hX.1 hX.2.1 hd rfl (k p e s m args below meth c D tc A hX ad H locs lsM hL hls)
theorem zr_lconst {n : Fin 2} (hd : decode M.2.1 pc = .ok (.lconst n, 1))  (k : zW l d M (pc + 1) ls (.long (Int64.ofNat (n : Nat)) :: st) S cs r) : zW l d M pc ls (st) S cs r := by
  intro p e s m args below meth c D tc A hX ad H locs lsM hL hls
  exact lv_lconst hX.1 hX.2.1 hd rfl (k p e s m args below meth c D tc A hX ad H locs lsM hL hls)
theorem zr_lcmp {x y : Int64} (hd : decode M.2.1 pc = .ok (.lcmp, 1))  (k : zW l d M (pc + 1) ls (.int (lg_cmp x y) :: st) S cs r) : zW l d M pc ls (.long y :: .long x :: st) S cs r := by
  intro p e s m args below meth c D tc A hX ad H locs lsM hL hls
  exact W.lcmp hX.1 hX.2.1 hd (k p e s m args below meth c D tc A hX ad H locs lsM hL hls)
theorem zc_cat (ad : Nat → Nat) (v : Value) : (zc ad v).category = v.category := by cases v <;> rfl
theorem zr_dup {v : Value} (hd : decode M.2.1 pc = .ok (.dup, 1)) (hv : v.category = 1) (k : zW l d M (pc + 1) ls (v :: v :: st) S cs r) : zW l d M pc ls (v :: st) S cs r := by
  intro p e s m args below meth c D tc A hX ad H locs lsM hL hls
  exact lv_dup hX.1 hX.2.1 hd (by rw [zc_cat]; exact hv) (k p e s m args below meth c D tc A hX ad H locs lsM hL hls)
theorem zr_dup2 {v w : Value} (hd : decode M.2.1 pc = .ok (.dup2, 1)) (hv : v.category = 1) (hw : w.category = 1) (k : zW l d M (pc + 1) ls (v :: w :: v :: w :: st) S cs r) : zW l d M pc ls (v :: w :: st) S cs r := by
  intro p e s m args below meth c D tc A hX ad H locs lsM hL hls
  exact lv_dup2_11 hX.1 hX.2.1 hd (by rw [zc_cat]; exact hv) (by rw [zc_cat]; exact hw) (k p e s m args below meth c D tc A hX ad H locs lsM hL hls)
theorem zr_iload_n {i : Fin 4} {x : Int32} (hd : decode M.2.1 pc = .ok (.iload_n i, 1)) (hv : ls[i.val]? = some (.int x)) (k : zW l d M (pc + 1) ls (.int x :: st) S cs r) : zW l d M pc ls (st) S cs r := by
  intro p e s m args below meth c D tc A hX ad H locs lsM hL hls
  exact lv_iload_n hX.1 hX.2.1 hd rfl (hls.2.2 _ _ hv (by simp)).2 (k p e s m args below meth c D tc A hX ad H locs lsM hL hls)
theorem zr_iload {i : Nat} {x : Int32} (hd : decode M.2.1 pc = .ok (.iload i, 2)) (hv : ls[i]? = some (.int x)) (k : zW l d M (pc + 2) ls (.int x :: st) S cs r) : zW l d M pc ls (st) S cs r := by
  intro p e s m args below meth c D tc A hX ad H locs lsM hL hls
  exact lv_iload hX.1 hX.2.1 hd (hls.2.2 _ _ hv (by simp)).2 (k p e s m args below meth c D tc A hX ad H locs lsM hL hls)
theorem zr_aload_n {i : Fin 4} {x : Nat} (hd : decode M.2.1 pc = .ok (.aload_n i, 1)) (hv : ls[i.val]? = some (.ref x)) (k : zW l d M (pc + 1) ls (.ref x :: st) S cs r) : zW l d M pc ls (st) S cs r := by
  intro p e s m args below meth c D tc A hX ad H locs lsM hL hls
  exact lv_aload_n hX.1 hX.2.1 hd rfl (hls.2.2 _ _ hv (by simp)).2 (k p e s m args below meth c D tc A hX ad H locs lsM hL hls)
theorem zr_aload {i : Nat} {x : Nat} (hd : decode M.2.1 pc = .ok (.aload i, 2)) (hv : ls[i]? = some (.ref x)) (k : zW l d M (pc + 2) ls (.ref x :: st) S cs r) : zW l d M pc ls (st) S cs r := by
  intro p e s m args below meth c D tc A hX ad H locs lsM hL hls
  exact lv_aload hX.1 hX.2.1 hd (hls.2.2 _ _ hv (by simp)).2 (k p e s m args below meth c D tc A hX ad H locs lsM hL hls)
def zpl (ad : Nat → Nat) (i : Nat) : List Value → List (Nat × Value)
  | [] => []
  | .null :: vs => zpl ad (i + 1) vs
  | v :: vs => (i, zc ad v) :: zpl ad (i + 1) vs
theorem zpl_in {ad : Nat → Nat} : ∀ (vs : List Value) (i : Nat) (q : Nat × Value), q ∈ zpl ad i vs → ∃ (j : Nat) (v : Value), vs[j]? = some v ∧ v ≠ .null ∧ q = (i + j, zc ad v)
  | [], i, q, h => by simp [zpl] at h
  | v :: vs, i, q, h => by
    have rc : q ∈ zpl ad (i + 1) vs → ∃ (j : Nat) (w : Value), (v :: vs)[j]? = some w ∧ w ≠ .null ∧ q = (i + j, zc ad w) := fun h => by
      obtain ⟨j, w, h1, h2, h3⟩ := zpl_in vs (i + 1) q h
      exact ⟨j + 1, w, by simpa using h1, h2, by rw [h3]; congr 1; omega⟩
    cases v
    case null => exact rc (by simpa [zpl] using h)
    all_goals
      rcases List.mem_cons.mp (by simpa only [zpl] using h) with h | h
      · exact ⟨0, _, rfl, by simp, h⟩
      · exact rc h
theorem zpl_of {ad : Nat → Nat} : ∀ (vs : List Value) (i j : Nat) (v : Value), vs[j]? = some v → v ≠ .null → (i + j, zc ad v) ∈ zpl ad i vs
  | [], i, j, v, h, _ => by simp at h
  | w :: vs, i, 0, v, h, hn => by
    simp at h
    subst h
    cases w
    case null => exact absurd rfl hn
    all_goals exact List.mem_cons_self
  | w :: vs, i, j + 1, v, h, hn => by
    have h1 := zpl_of (ad := ad) vs (i + 1) j v (by simpa using h) hn
    rw [show i + (j + 1) = i + 1 + j by omega]
    cases w
    case null => simpa only [zpl] using h1
    all_goals exact List.mem_cons_of_mem _ h1
theorem zloc.has {lsM : Array Slot} {n : Nat} {ad : Nat → Nat} {ls : List Value} (h : zloc lsM n ad ls) : lv_has lsM n (zpl ad 0 ls) := by
  refine ⟨h.1, h.2.1, fun q hq => ?_⟩
  obtain ⟨j, v, h1, h2, h3⟩ := zpl_in ls 0 q hq
  rw [h3, Nat.zero_add]
  exact (h.2.2 j v h1 h2).2
theorem zloc.set {lsM ls' : Array Slot} {n : Nat} {ad : Nat → Nat} {ls : List Value} {i : Nat} {v : Value} (h : zloc lsM n ad ls) (hc : v.category = 1)
    (h' : lv_has ls' n ((i, zc ad v) :: (zpl ad 0 ls).filter (fun q => !(q.1 == i) && !(q.1 + 1 == i && q.2.category == 2)))) : zloc ls' n ad (ls.set i v) := by
  refine ⟨h'.1, h'.2.1, fun j w hj hw => ?_⟩
  by_cases e : i = j
  · subst e
    have hl : i < ls.length := by
      have := (List.getElem?_eq_some_iff.mp hj).1
      simpa using this
    rw [List.getElem?_set_self hl] at hj
    cases hj
    exact ⟨hc, h'.2.2 (i, zc ad v) List.mem_cons_self⟩
  · rw [List.getElem?_set_ne e] at hj
    obtain ⟨c1, -⟩ := h.2.2 j w hj hw
    refine ⟨c1, h'.2.2 (j, zc ad w) (List.mem_cons_of_mem _ (List.mem_filter.mpr ⟨by simpa using zpl_of ls 0 j w hj hw, ?_⟩))⟩
    have hcat : ¬ (zc ad w).category = 2 := by rw [zc_cat]; omega
    simp only [Bool.and_eq_true, Bool.not_eq_true', beq_eq_false_iff_ne, ne_eq, Bool.and_eq_false_iff]
    exact ⟨fun q => e q.symm, Or.inr hcat⟩
theorem zr_istore_n {i : Fin 4} {x : Int32} (hd : decode M.2.1 pc = .ok (.istore_n i, 1)) (hn : i.val < M.2.2.1) (k : zW l d M (pc + 1) (ls.set i.val (.int x)) st S cs r) : zW l d M pc ls (.int x :: st) S cs r := by
  intro p e s m args below meth c D tc A hX ad H locs lsM hL hls
  exact lv_istore_n hX.1 hX.2.1 hd rfl hls.has hn rfl fun ls' h => k p e s m args below meth c D tc A hX ad H locs ls' hL (hls.set rfl h)
theorem zr_istore {i : Nat} {x : Int32} (hd : decode M.2.1 pc = .ok (.istore i, 2)) (hn : i < M.2.2.1) (k : zW l d M (pc + 2) (ls.set i (.int x)) st S cs r) : zW l d M pc ls (.int x :: st) S cs r := by
  intro p e s m args below meth c D tc A hX ad H locs lsM hL hls
  exact lv_istore hX.1 hX.2.1 hd hls.has hn rfl fun ls' h => k p e s m args below meth c D tc A hX ad H locs ls' hL (hls.set rfl h)
theorem zr_astore_n {i : Fin 4} {x : Nat} (hd : decode M.2.1 pc = .ok (.astore_n i, 1)) (hn : i.val < M.2.2.1) (k : zW l d M (pc + 1) (ls.set i.val (.ref x)) st S cs r) : zW l d M pc ls (.ref x :: st) S cs r := by
  intro p e s m args below meth c D tc A hX ad H locs lsM hL hls
  exact lv_astore_n hX.1 hX.2.1 hd rfl hls.has hn rfl fun ls' h => k p e s m args below meth c D tc A hX ad H locs ls' hL (hls.set rfl h)
theorem zr_astore {i : Nat} {x : Nat} (hd : decode M.2.1 pc = .ok (.astore i, 2)) (hn : i < M.2.2.1) (k : zW l d M (pc + 2) (ls.set i (.ref x)) st S cs r) : zW l d M pc ls (.ref x :: st) S cs r := by
  intro p e s m args below meth c D tc A hX ad H locs lsM hL hls
  exact lv_astore hX.1 hX.2.1 hd hls.has hn rfl fun ls' h => k p e s m args below meth c D tc A hX ad H locs ls' hL (hls.set rfl h)
theorem zr_iinc {i : Nat} {n : Int} {x : Int32} (hd : decode M.2.1 pc = .ok (.iinc i n, 3)) (hn : i < M.2.2.1) (hv : ls[i]? = some (.int x)) (k : zW l d M (pc + 3) (ls.set i (.int (x + Int32.ofInt n))) st S cs r) : zW l d M pc ls st S cs r := by
  intro p e s m args below meth c D tc A hX ad H locs lsM hL hls
  have hm : (0 + i, Value.int x) ∈ zpl ad 0 ls := zpl_of (ad := ad) ls 0 i _ hv (by simp)
  rw [Nat.zero_add] at hm
  obtain ⟨q, hq⟩ := List.getElem?_of_mem hm
  exact lv_iinc hX.1 hX.2.1 hd hls.has hq rfl hn rfl fun ls' h => k p e s m args below meth c D tc A hX ad H locs ls' hL (hls.set rfl h)
theorem zr_if_eq {x : Int32} {off : Int} (tgt : Nat) (hd : decode M.2.1 pc = .ok (.ifCond .eq off, 3)) (ht : (pc : Int) + off = (tgt : Int)) (kt : x = 0 → zW l d M tgt ls st S cs r) (kf : ¬ (x = 0) → zW l d M (pc + 3) ls st S cs r) : zW l d M pc ls (.int x :: st) S cs r := by
  intro p e s m args below meth c D tc A hX ad H locs lsM hL hls
  exact lv_if_eq hX.1 hX.2.1 hd ht (fun h => kt h p e s m args below meth c D tc A hX ad H locs lsM hL hls) (fun h => kf h p e s m args below meth c D tc A hX ad H locs lsM hL hls)
theorem zr_icmp_eq {x y : Int32} {off : Int} (tgt : Nat) (hd : decode M.2.1 pc = .ok (.if_icmp .eq off, 3)) (ht : (pc : Int) + off = (tgt : Int)) (kt : x = y → zW l d M tgt ls st S cs r) (kf : ¬ (x = y) → zW l d M (pc + 3) ls st S cs r) : zW l d M pc ls (.int y :: .int x :: st) S cs r := by
  intro p e s m args below meth c D tc A hX ad H locs lsM hL hls
  exact lv_icmp_eq hX.1 hX.2.1 hd ht (fun h => kt h p e s m args below meth c D tc A hX ad H locs lsM hL hls) (fun h => kf h p e s m args below meth c D tc A hX ad H locs lsM hL hls)
theorem zr_if_ne {x : Int32} {off : Int} (tgt : Nat) (hd : decode M.2.1 pc = .ok (.ifCond .ne off, 3)) (ht : (pc : Int) + off = (tgt : Int)) (kt : ¬ x = 0 → zW l d M tgt ls st S cs r) (kf : x = 0 → zW l d M (pc + 3) ls st S cs r) : zW l d M pc ls (.int x :: st) S cs r := by
  intro p e s m args below meth c D tc A hX ad H locs lsM hL hls
  exact lv_if_ne hX.1 hX.2.1 hd ht (fun h => kt h p e s m args below meth c D tc A hX ad H locs lsM hL hls) (fun h => kf h p e s m args below meth c D tc A hX ad H locs lsM hL hls)
theorem zr_icmp_ne {x y : Int32} {off : Int} (tgt : Nat) (hd : decode M.2.1 pc = .ok (.if_icmp .ne off, 3)) (ht : (pc : Int) + off = (tgt : Int)) (kt : ¬ x = y → zW l d M tgt ls st S cs r) (kf : x = y → zW l d M (pc + 3) ls st S cs r) : zW l d M pc ls (.int y :: .int x :: st) S cs r := by
  intro p e s m args below meth c D tc A hX ad H locs lsM hL hls
  exact lv_icmp_ne hX.1 hX.2.1 hd ht (fun h => kt h p e s m args below meth c D tc A hX ad H locs lsM hL hls) (fun h => kf h p e s m args below meth c D tc A hX ad H locs lsM hL hls)
theorem zr_if_lt {x : Int32} {off : Int} (tgt : Nat) (hd : decode M.2.1 pc = .ok (.ifCond .lt off, 3)) (ht : (pc : Int) + off = (tgt : Int)) (kt : x < 0 → zW l d M tgt ls st S cs r) (kf : ¬ (x < 0) → zW l d M (pc + 3) ls st S cs r) : zW l d M pc ls (.int x :: st) S cs r := by
  intro p e s m args below meth c D tc A hX ad H locs lsM hL hls
  exact lv_if_lt hX.1 hX.2.1 hd ht (fun h => kt h p e s m args below meth c D tc A hX ad H locs lsM hL hls) (fun h => kf h p e s m args below meth c D tc A hX ad H locs lsM hL hls)
theorem zr_icmp_lt {x y : Int32} {off : Int} (tgt : Nat) (hd : decode M.2.1 pc = .ok (.if_icmp .lt off, 3)) (ht : (pc : Int) + off = (tgt : Int)) (kt : x < y → zW l d M tgt ls st S cs r) (kf : ¬ (x < y) → zW l d M (pc + 3) ls st S cs r) : zW l d M pc ls (.int y :: .int x :: st) S cs r := by
  intro p e s m args below meth c D tc A hX ad H locs lsM hL hls
  exact lv_icmp_lt hX.1 hX.2.1 hd ht (fun h => kt h p e s m args below meth c D tc A hX ad H locs lsM hL hls) (fun h => kf h p e s m args below meth c D tc A hX ad H locs lsM hL hls)
theorem zr_if_ge {x : Int32} {off : Int} (tgt : Nat) (hd : decode M.2.1 pc = .ok (.ifCond .ge off, 3)) (ht : (pc : Int) + off = (tgt : Int)) (kt : 0 ≤ x → zW l d M tgt ls st S cs r) (kf : ¬ (0 ≤ x) → zW l d M (pc + 3) ls st S cs r) : zW l d M pc ls (.int x :: st) S cs r := by
  intro p e s m args below meth c D tc A hX ad H locs lsM hL hls
  exact lv_if_ge hX.1 hX.2.1 hd ht (fun h => kt h p e s m args below meth c D tc A hX ad H locs lsM hL hls) (fun h => kf h p e s m args below meth c D tc A hX ad H locs lsM hL hls)
theorem zr_icmp_ge {x y : Int32} {off : Int} (tgt : Nat) (hd : decode M.2.1 pc = .ok (.if_icmp .ge off, 3)) (ht : (pc : Int) + off = (tgt : Int)) (kt : y ≤ x → zW l d M tgt ls st S cs r) (kf : ¬ (y ≤ x) → zW l d M (pc + 3) ls st S cs r) : zW l d M pc ls (.int y :: .int x :: st) S cs r := by
  intro p e s m args below meth c D tc A hX ad H locs lsM hL hls
  exact lv_icmp_ge hX.1 hX.2.1 hd ht (fun h => kt h p e s m args below meth c D tc A hX ad H locs lsM hL hls) (fun h => kf h p e s m args below meth c D tc A hX ad H locs lsM hL hls)
theorem zr_if_gt {x : Int32} {off : Int} (tgt : Nat) (hd : decode M.2.1 pc = .ok (.ifCond .gt off, 3)) (ht : (pc : Int) + off = (tgt : Int)) (kt : 0 < x → zW l d M tgt ls st S cs r) (kf : ¬ (0 < x) → zW l d M (pc + 3) ls st S cs r) : zW l d M pc ls (.int x :: st) S cs r := by
  intro p e s m args below meth c D tc A hX ad H locs lsM hL hls
  exact lv_if_gt hX.1 hX.2.1 hd ht (fun h => kt h p e s m args below meth c D tc A hX ad H locs lsM hL hls) (fun h => kf h p e s m args below meth c D tc A hX ad H locs lsM hL hls)
theorem zr_icmp_gt {x y : Int32} {off : Int} (tgt : Nat) (hd : decode M.2.1 pc = .ok (.if_icmp .gt off, 3)) (ht : (pc : Int) + off = (tgt : Int)) (kt : y < x → zW l d M tgt ls st S cs r) (kf : ¬ (y < x) → zW l d M (pc + 3) ls st S cs r) : zW l d M pc ls (.int y :: .int x :: st) S cs r := by
  intro p e s m args below meth c D tc A hX ad H locs lsM hL hls
  exact lv_icmp_gt hX.1 hX.2.1 hd ht (fun h => kt h p e s m args below meth c D tc A hX ad H locs lsM hL hls) (fun h => kf h p e s m args below meth c D tc A hX ad H locs lsM hL hls)
theorem zr_if_le {x : Int32} {off : Int} (tgt : Nat) (hd : decode M.2.1 pc = .ok (.ifCond .le off, 3)) (ht : (pc : Int) + off = (tgt : Int)) (kt : x ≤ 0 → zW l d M tgt ls st S cs r) (kf : ¬ (x ≤ 0) → zW l d M (pc + 3) ls st S cs r) : zW l d M pc ls (.int x :: st) S cs r := by
  intro p e s m args below meth c D tc A hX ad H locs lsM hL hls
  exact lv_if_le hX.1 hX.2.1 hd ht (fun h => kt h p e s m args below meth c D tc A hX ad H locs lsM hL hls) (fun h => kf h p e s m args below meth c D tc A hX ad H locs lsM hL hls)
theorem zr_icmp_le {x y : Int32} {off : Int} (tgt : Nat) (hd : decode M.2.1 pc = .ok (.if_icmp .le off, 3)) (ht : (pc : Int) + off = (tgt : Int)) (kt : x ≤ y → zW l d M tgt ls st S cs r) (kf : ¬ (x ≤ y) → zW l d M (pc + 3) ls st S cs r) : zW l d M pc ls (.int y :: .int x :: st) S cs r := by
  intro p e s m args below meth c D tc A hX ad H locs lsM hL hls
  exact lv_icmp_le hX.1 hX.2.1 hd ht (fun h => kt h p e s m args below meth c D tc A hX ad H locs lsM hL hls) (fun h => kf h p e s m args below meth c D tc A hX ad H locs lsM hL hls)
theorem zr_goto {off : Int} (tgt : Nat) (hd : decode M.2.1 pc = .ok (.goto off, 3)) (ht : (pc : Int) + off = (tgt : Int)) (k : zW l d M tgt ls st S cs r) : zW l d M pc ls st S cs r := by
  intro p e s m args below meth c D tc A hX ad H locs lsM hL hls
  exact lv_goto hX.1 hX.2.1 hd ht (k p e s m args below meth c D tc A hX ad H locs lsM hL hls)
theorem zr_tabIn {dflt lo hi : Int} {offs : Array Int} {len : Nat} {x : Int32} {off : Int} (tgt : Nat) (hd : decode M.2.1 pc = .ok (.tableswitch dflt lo hi offs, len)) (h1 : ¬ x.toInt < lo) (h2 : ¬ hi < x.toInt) (ho : offs[(x.toInt - lo).toNat]? = some off) (ht : (pc : Int) + off = (tgt : Int)) (k : zW l d M tgt ls st S cs r) : zW l d M pc ls (.int x :: st) S cs r := by
  intro p e s m args below meth c D tc A hX ad H locs lsM hL hls
  exact lv_tableIn hX.1 hX.2.1 hd h1 h2 ho ht (k p e s m args below meth c D tc A hX ad H locs lsM hL hls)
theorem zr_tabOut {dflt lo hi : Int} {offs : Array Int} {len : Nat} {x : Int32} (tgt : Nat) (hd : decode M.2.1 pc = .ok (.tableswitch dflt lo hi offs, len)) (h : x.toInt < lo ∨ hi < x.toInt) (ht : (pc : Int) + dflt = (tgt : Int)) (k : zW l d M tgt ls st S cs r) : zW l d M pc ls (.int x :: st) S cs r := by
  intro p e s m args below meth c D tc A hX ad H locs lsM hL hls
  exact lv_tableOut hX.1 hX.2.1 hd h ht (k p e s m args below meth c D tc A hX ad H locs lsM hL hls)
/-- a class of the list, its field rows, and that it can be made -/
def zC (ci : Nat) (C : String) (T : u_T) (N : Nat) (ty : Nat → FieldType) : Prop := zcl[ci]? = some (C, T, N) ∧ (∀ w ∈ u_ws C T N, zI w) ∧ (∀ k, k < N → parseFieldDescriptor (T k).2.2.1 = some (ty k)) ∧ (∀ a, a < N → ∀ b, b < N → a ≠ b → (T a).2.1 ≠ (T b).2.1) ∧ zI (.instantiable C N) ∧ zI (.initialized C)
def zU (σ : Nat → Nat → Int32) (k j : Nat) (x : Int32) : Nat → Nat → Int32 := fun a b => if a = k ∧ b = j then x else σ a b
theorem zU_row (σ : Nat → Nat → Int32) (k j : Nat) (x : Int32) : zU σ k j x k = upd (σ k) j x := by
  funext b
  simp [zU, upd]
theorem zU_other (σ : Nat → Nat → Int32) {k j a : Nat} (x : Int32) (h : a ≠ k) : zU σ k j x a = σ a := by
  funext b
  simp [zU, h]
theorem zw_set {tc : Nat → ClassId} {ad : Nat → Nat} {S : zS} {k : Nat} {z z' : zs} {g : Nat → Nat → Int32} (h : S.1[k]? = some z) (hg : ∀ a, a ≠ k → g a = S.2 a) : (zw tc ad S).set k (ad k, zce tc ad (g k) z') = zw tc ad (S.1.set k z', g) := by
  have hl := (List.getElem?_eq_some_iff.mp h).1
  apply List.ext_getElem?
  intro j
  unfold zw
  by_cases e : j = k
  · subst e
    rw [List.getElem?_set_self (by simpa using hl), List.getElem?_mapIdx]
    simp [List.getElem?_set_self hl]
  · rw [List.getElem?_set_ne (fun q => e q.symm), List.getElem?_mapIdx, List.getElem?_mapIdx]
    simp only [List.getElem?_set_ne (fun q => e q.symm)]
    rw [hg j e]
theorem zw_num {tc : Nat → ClassId} {ad : Nat → Nat} {S : zS} {k : Nat} {z : zs} {g : Nat → Nat → Int32} (h : S.1[k]? = some z) (hg : ∀ a, a ≠ k → g a = S.2 a) : (zw tc ad S).set k (ad k, zce tc ad (g k) z) = zw tc ad (S.1, g) := by
  have e : S.1.set k z = S.1 := by
    apply List.ext_getElem?
    intro j
    by_cases e : j = k
    · subst e
      rw [List.getElem?_set_self (List.getElem?_eq_some_iff.mp h).1, h]
    · rw [List.getElem?_set_ne (fun q => e q.symm)]
  rw [zw_set h hg, e]
theorem zE.keep {below : List Frame} {s : State} {D : va_G} {tc : Nat → ClassId} {A : Nat → Prop} {ad : Nat → Nat} {S S1 : zS} {r : zR} (h : S1.1 = S.1) {t : State} (hz : zE below s D tc A ad S1 r t) : zE below s D tc A ad S r t := by
  obtain ⟨o, h1, h2, ⟨ad', q1, q2, q3, q4⟩, h4⟩ := hz
  rw [h] at q1 q2 q3
  exact ⟨o, h1, h2, ⟨ad', q1, q2, q3, q4⟩, h4⟩
theorem W.imp {p : Program} {l : Launch} {e : Env} {R : Room} {s : State} {m : MethodId} {args : Array Value} {below : List Frame} {meth : Method} {c : Code} {H : Heap} {locs : List Loc} {cells slots : Nat} {Q Q1 : State → Prop} {g : JFrame} (h : ∀ t, Q1 t → Q t) (k : W p l e R s m args below meth c H locs cells slots Q1 g) : W p l e R s m args below meth c H locs cells slots Q g := by
  intro T hT X
  obtain ⟨t, a, b⟩ := k T hT X
  exact ⟨t, a, h t b⟩
theorem zL.next {M : zM} {D : va_G} {tc : Nat → ClassId} {A : Nat → Prop} {ad : Nat → Nat} {s : State} {S S1 : zS} {H H1 : Heap} {locs locs1 : List Loc} (h : zL M D tc A ad s S H locs) (hP : va_P D zcl (zw tc ad S1) H1) (hD : va_D A (zw tc ad S1)) (hS : va_S A s.heap H1 locs1) : zL M D tc A ad s S1 H1 locs1 := ⟨hP, hD, hS, h.2.2.2⟩
abbrev zX.T {l : Launch} {p : Program} {s : State} {m : MethodId} {meth : Method} {c : Code} {M : zM} {D : va_G} {tc : Nat → ClassId} {A : Nat → Prop} (hX : zX l p s m meth c M D tc A) : zT A s := hX.2.2.2.2.2.2.2.2.1
abbrev zX.K {l : Launch} {p : Program} {s : State} {m : MethodId} {meth : Method} {c : Code} {M : zM} {D : va_G} {tc : Nat → ClassId} {A : Nat → Prop} (hX : zX l p s m meth c M D tc A) : va_K D zcl (zK tc) s := hX.2.2.2.2.2.2.2.2.2.1
abbrev zX.own {l : Launch} {p : Program} {s : State} {m : MethodId} {meth : Method} {c : Code} {M : zM} {D : va_G} {tc : Nat → ClassId} {A : Nat → Prop} (hX : zX l p s m meth c M D tc A) : s.vm.findClass M.1.cls = some m.cls := hX.2.2.2.2.2.2.1
theorem zr_get {ci q j N index : Nat} {C : String} {T : u_T} {ty : Nat → FieldType} {fs : List (Option (Option Nat))} {f : Option (Option Nat)} (hd : decode M.2.1 pc = .ok (.getfield index, 3)) (hC : zC ci C T N ty) (hS : S.1[q]? = some (.inr (ci, fs))) (hl : zI (.fieldLink M.1.cls index (T j).1 (T j).2.1 (T j).2.2.1)) (hj : j < N) (hf : fs[j]? = some f) {v : Value} (hv : ∀ ad, zc ad v = zfv ad (S.2 q) j f) (k : zW l d M (pc + 3) ls (v :: st) S cs r) : zW l d M pc ls (.ref q :: st) S cs r := by
  intro p e s m args below meth c D tc A hX ad H locs lsM hL hls
  have h1 : (zw tc ad S)[q]? = some (ad q, .inr (ci, fs.mapIdx (fun j f => zfv ad (S.2 q) j f))) := zw_at hS
  refine va_get hX.1 hX.2.1 (fun w h => hX.T.w (hC.2.1 w h)) (fun _ h => h) hX.own hX.K hL.1 q h1 hC.1 j hj (hX.T.w hl) (fun _ h => h) (v := zfv ad (S.2 q) j f) (by rw [List.getElem?_mapIdx, hf]; rfl) hd ?_
  rw [← hv ad]
  exact k p e s m args below meth c D tc A hX ad H locs lsM hL hls
theorem zr_geti {ci q j N index : Nat} {C : String} {T : u_T} {ty : Nat → FieldType} {fs : List (Option (Option Nat))} (hd : decode M.2.1 pc = .ok (.getfield index, 3)) (hC : zC ci C T N ty) (hl : zI (.fieldLink M.1.cls index (T j).1 (T j).2.1 (T j).2.2.1)) (hj : j < N) (hS : S.1[q]? = some (.inr (ci, fs))) (hf : fs[j]? = some none) (k : zW l d M (pc + 3) ls (.int (S.2 q j) :: st) S cs r) : zW l d M pc ls (.ref q :: st) S cs r := zr_get hd hC hS hl hj hf (fun _ => rfl) k
theorem zr_getr {ci q j N index x : Nat} {C : String} {T : u_T} {ty : Nat → FieldType} {fs : List (Option (Option Nat))} (hd : decode M.2.1 pc = .ok (.getfield index, 3)) (hC : zC ci C T N ty) (hl : zI (.fieldLink M.1.cls index (T j).1 (T j).2.1 (T j).2.2.1)) (hj : j < N) (hS : S.1[q]? = some (.inr (ci, fs))) (hf : fs[j]? = some (some (some x))) (k : zW l d M (pc + 3) ls (.ref x :: st) S cs r) : zW l d M pc ls (.ref q :: st) S cs r := zr_get hd hC hS hl hj hf (fun _ => rfl) k
theorem zmap_num {ad : Nat → Nat} {g : Nat → Int32} {fs : List (Option (Option Nat))} {j : Nat} {x : Int32} (hf : fs[j]? = some none) : (fs.mapIdx (fun j f => zfv ad g j f)).set j (.int x) = fs.mapIdx (fun i f => zfv ad (upd g j x) i f) := by
  have hl := (List.getElem?_eq_some_iff.mp hf).1
  apply List.ext_getElem?
  intro i
  by_cases e : i = j
  · subst e
    rw [List.getElem?_set_self (by simpa using hl), List.getElem?_mapIdx, hf]
    simp [zfv, upd]
  · rw [List.getElem?_set_ne (fun q => e q.symm), List.getElem?_mapIdx, List.getElem?_mapIdx]
    cases h : fs[i]? with
    | none => rfl
    | some f =>
      cases f with
      | none => simp [zfv, upd, e]
      | some f => cases f <;> rfl
theorem zmap_ref {ad : Nat → Nat} {g : Nat → Int32} {fs : List (Option (Option Nat))} {j x : Nat} (hl : j < fs.length) : (fs.mapIdx (fun j f => zfv ad g j f)).set j (.ref (ad x)) = (fs.set j (some (some x))).mapIdx (fun j f => zfv ad g j f) := by
  apply List.ext_getElem?
  intro i
  by_cases e : i = j
  · subst e
    rw [List.getElem?_set_self (by simpa using hl), List.getElem?_mapIdx, List.getElem?_set_self hl]
    rfl
  · rw [List.getElem?_set_ne (fun q => e q.symm), List.getElem?_mapIdx, List.getElem?_mapIdx, List.getElem?_set_ne (fun q => e q.symm)]
theorem zr_puti {ci q j N index : Nat} {C : String} {T : u_T} {ty : Nat → FieldType} {fs : List (Option (Option Nat))} {x : Int32} (hd : decode M.2.1 pc = .ok (.putfield index, 3)) (hC : zC ci C T N ty) (hl : zI (.fieldLink M.1.cls index (T j).1 (T j).2.1 (T j).2.2.1)) (hj : j < N) (hfin : (T j).2.2.2 = false) (hty : ty j = .int) (hS : S.1[q]? = some (.inr (ci, fs))) (hf : fs[j]? = some none) (k : zW l d M (pc + 3) ls st (S.1, zU S.2 q j x) cs r) : zW l d M pc ls (.int x :: .ref q :: st) S cs r := by
  intro p e s m args below meth c D tc A hX ad H locs lsM hL hls
  have h1 : (zw tc ad S)[q]? = some (ad q, .inr (ci, fs.mapIdx (fun j f => zfv ad (S.2 q) j f))) := zw_at hS
  have hpd : parseFieldDescriptor (T j).2.2.1 = some .int := by rw [hC.2.2.1 j hj, hty]
  refine va_put hX.1 hX.2.1 (fun w h => hX.T.w (hC.2.1 w h)) (fun _ h => h) ty hC.2.2.1 hC.2.2.2.1 hX.own hX.K hL.1 hL.2.1 hL.2.2.1 q h1 hC.1 j hj (hX.T.w hl) (fun _ h => h) hfin hpd rfl rfl (by simpa using (List.getElem?_eq_some_iff.mp hf).1) hd ?_
  intro H1 locs1 hP hD hS1
  have e1 : (zw tc ad S).set q (ad q, .inr (ci, (fs.mapIdx (fun j f => zfv ad (S.2 q) j f)).set j (.int x))) = zw tc ad (S.1, zU S.2 q j x) := by
    rw [zmap_num hf, ← zU_row S.2 q j x]
    exact zw_num (z := .inr (ci, fs)) hS (fun a ha => zU_other S.2 x ha)
  have hP2 : va_P D zcl ((zw tc ad S).set q (ad q, .inr (ci, (fs.mapIdx (fun j f => zfv ad (S.2 q) j f)).set j (.int x)))) H1 := hP
  have hD2 : va_D A ((zw tc ad S).set q (ad q, .inr (ci, (fs.mapIdx (fun j f => zfv ad (S.2 q) j f)).set j (.int x)))) := hD
  rw [e1] at hP2 hD2
  exact W.imp (fun t h => zE.keep (S := S) (S1 := (S.1, zU S.2 q j x)) rfl h) (k p e s m args below meth c D tc A hX ad H1 locs1 lsM (hL.next hP2 hD2 hS1) hls)
theorem zr_putiF {ci q j N index : Nat} {C : String} {T : u_T} {ty : Nat → FieldType} {fs : List (Option (Option Nat))} {x : Int32} (hd : decode M.2.1 pc = .ok (.putfield index, 3)) (hC : zC ci C T N ty) (hl : zI (.fieldLink M.1.cls index (T j).1 (T j).2.1 (T j).2.2.1)) (hj : j < N) (hfin : (T j).2.2.2 = true) (hi : M.1.name = "<init>") (ho : (T j).1 = M.1.cls) (hty : ty j = .int) (hS : S.1[q]? = some (.inr (ci, fs))) (hf : fs[j]? = some none) (k : zW l d M (pc + 3) ls st (S.1, zU S.2 q j x) cs r) : zW l d M pc ls (.int x :: .ref q :: st) S cs r := by
  intro p e s m args below meth c D tc A hX ad H locs lsM hL hls
  have h1 : (zw tc ad S)[q]? = some (ad q, .inr (ci, fs.mapIdx (fun j f => zfv ad (S.2 q) j f))) := zw_at hS
  have hpd : parseFieldDescriptor (T j).2.2.1 = some .int := by rw [hC.2.2.1 j hj, hty]
  refine va_putF hX.1 hX.2.1 (fun w h => hX.T.w (hC.2.1 w h)) (fun _ h => h) ty hC.2.2.1 hC.2.2.2.1 hX.own hX.K hL.1 hL.2.1 hL.2.2.1 q h1 hC.1 j hj (hX.T.w hl) (fun _ h => h) hfin (hX.2.2.2.2.2.1.trans hi) ho hpd rfl rfl (by simpa using (List.getElem?_eq_some_iff.mp hf).1) hd ?_
  intro H1 locs1 hP hD hS1
  have e1 : (zw tc ad S).set q (ad q, .inr (ci, (fs.mapIdx (fun j f => zfv ad (S.2 q) j f)).set j (.int x))) = zw tc ad (S.1, zU S.2 q j x) := by
    rw [zmap_num hf, ← zU_row S.2 q j x]
    exact zw_num (z := .inr (ci, fs)) hS (fun a ha => zU_other S.2 x ha)
  have hP2 : va_P D zcl ((zw tc ad S).set q (ad q, .inr (ci, (fs.mapIdx (fun j f => zfv ad (S.2 q) j f)).set j (.int x)))) H1 := hP
  have hD2 : va_D A ((zw tc ad S).set q (ad q, .inr (ci, (fs.mapIdx (fun j f => zfv ad (S.2 q) j f)).set j (.int x)))) := hD
  rw [e1] at hP2 hD2
  exact W.imp (fun t h => zE.keep (S := S) (S1 := (S.1, zU S.2 q j x)) rfl h) (k p e s m args below meth c D tc A hX ad H1 locs1 lsM (hL.next hP2 hD2 hS1) hls)
theorem zr_putrF {ci q j N index x : Nat} {C : String} {T : u_T} {ty : Nat → FieldType} {fs : List (Option (Option Nat))} (hd : decode M.2.1 pc = .ok (.putfield index, 3)) (hC : zC ci C T N ty) (hl : zI (.fieldLink M.1.cls index (T j).1 (T j).2.1 (T j).2.2.1)) (hj : j < N) (hfin : (T j).2.2.2 = true) (hi : M.1.name = "<init>") (ho : (T j).1 = M.1.cls) (hty : (∃ n, ty j = .object n) ∨ ∃ t, ty j = .array t) (hS : S.1[q]? = some (.inr (ci, fs))) (hf : j < fs.length) (hr : r.2.1.1 = S.1 → False) (k : zW l d M (pc + 3) ls st (S.1.set q (.inr (ci, fs.set j (some (some x)))), S.2) cs r) : zW l d M pc ls (.ref x :: .ref q :: st) S cs r := by
  intro p e s m args below meth c D tc A hX ad H locs lsM hL hls
  have h1 : (zw tc ad S)[q]? = some (ad q, .inr (ci, fs.mapIdx (fun j f => zfv ad (S.2 q) j f))) := zw_at hS
  have hpd : parseFieldDescriptor (T j).2.2.1 = some (ty j) := hC.2.2.1 j hj
  have hn : narrow (ty j) (.ref (ad x)) = .ref (ad x) := by rcases hty with ⟨n, h⟩ | ⟨n, h⟩ <;> rw [h] <;> rfl
  have hfit : fits (ty j) (.ref (ad x)) = true := by rcases hty with ⟨n, h⟩ | ⟨n, h⟩ <;> rw [h] <;> rfl
  refine va_putF hX.1 hX.2.1 (fun w h => hX.T.w (hC.2.1 w h)) (fun _ h => h) ty hC.2.2.1 hC.2.2.2.1 hX.own hX.K hL.1 hL.2.1 hL.2.2.1 q h1 hC.1 j hj (hX.T.w hl) (fun _ h => h) hfin (hX.2.2.2.2.2.1.trans hi) ho hpd hn hfit (by simpa using hf) hd ?_
  intro H1 locs1 hP hD hS1
  have e1 : (zw tc ad S).set q (ad q, .inr (ci, (fs.mapIdx (fun j f => zfv ad (S.2 q) j f)).set j (.ref (ad x)))) = zw tc ad (S.1.set q (.inr (ci, fs.set j (some (some x)))), S.2) := by
    rw [zmap_ref hf]
    exact zw_set (z := .inr (ci, fs)) (z' := .inr (ci, fs.set j (some (some x)))) hS (fun a ha => rfl)
  have hP2 : va_P D zcl ((zw tc ad S).set q (ad q, .inr (ci, (fs.mapIdx (fun j f => zfv ad (S.2 q) j f)).set j (.ref (ad x))))) H1 := hP
  have hD2 : va_D A ((zw tc ad S).set q (ad q, .inr (ci, (fs.mapIdx (fun j f => zfv ad (S.2 q) j f)).set j (.ref (ad x))))) := hD
  rw [e1] at hP2 hD2
  refine W.imp (fun t h => ?_) (k p e s m args below meth c D tc A hX ad H1 locs1 lsM (hL.next hP2 hD2 hS1) hls)
  obtain ⟨o, a1, a2, ⟨ad', q1, q2, q3, q4⟩, a4⟩ := h
  exact ⟨o, a1, a2, ⟨ad', by simpa using q1, fun h => (hr h).elim, by simpa using q3, q4⟩, a4⟩
theorem zr_iald {q n : Nat} {i : Int32} (hd : decode M.2.1 pc = .ok (.iaload, 1)) (hS : S.1[q]? = some (.inl (0, n))) (hin : vp_in i n) (k : zW l d M (pc + 1) ls (.int (S.2 q i.toNatClampNeg) :: st) S cs r) : zW l d M pc ls (.int i :: .ref q :: st) S cs r := by
  intro p e s m args below meth c D tc A hX ad H locs lsM hL hls
  exact va_iald hX.1 hX.2.1 hX.K hL.1 q 0 (zw_at hS) (zK_at tc 0 (by decide)) hin hd (k p e s m args below meth c D tc A hX ad H locs lsM hL hls)
theorem zr_zald {q n : Nat} {i : Int32} (hd : decode M.2.1 pc = .ok (.baload, 1)) (hS : S.1[q]? = some (.inl (1, n))) (hin : vp_in i n) (k : zW l d M (pc + 1) ls (.int (S.2 q i.toNatClampNeg) :: st) S cs r) : zW l d M pc ls (.int i :: .ref q :: st) S cs r := by
  intro p e s m args below meth c D tc A hX ad H locs lsM hL hls
  exact va_zald hX.1 hX.2.1 hX.K hL.1 q 1 (zw_at hS) (zK_at tc 1 (by decide)) hin hd (k p e s m args below meth c D tc A hX ad H locs lsM hL hls)
theorem zr_lald {q n : Nat} {i : Int32} (hd : decode M.2.1 pc = .ok (.laload, 1)) (hS : S.1[q]? = some (.inl (2, n))) (hin : vp_in i n) (k : zW l d M (pc + 1) ls (.long (S.2 q i.toNatClampNeg).toInt64 :: st) S cs r) : zW l d M pc ls (.int i :: .ref q :: st) S cs r := by
  intro p e s m args below meth c D tc A hX ad H locs lsM hL hls
  exact va_lald hX.1 hX.2.1 hX.K hL.1 q 2 (zw_at hS) (zK_at tc 2 (by decide)) hin hd (k p e s m args below meth c D tc A hX ad H locs lsM hL hls)
theorem zr_iast {q n : Nat} {i x : Int32} (hd : decode M.2.1 pc = .ok (.iastore, 1)) (hS : S.1[q]? = some (.inl (0, n))) (hin : vp_in i n) (k : zW l d M (pc + 1) ls st (S.1, zU S.2 q i.toNatClampNeg x) cs r) : zW l d M pc ls (.int x :: .int i :: .ref q :: st) S cs r := by
  intro p e s m args below meth c D tc A hX ad H locs lsM hL hls
  refine va_iast hX.1 hX.2.1 hX.K hL.1 hL.2.1 hL.2.2.1 q 0 (zw_at hS) (zK_at tc 0 (by decide)) hin hd ?_
  intro H1 locs1 hP hD hS1
  have e1 : (zw tc ad S).set q (ad q, .inl (tc 0, n, .inl (upd (S.2 q) i.toNatClampNeg x))) = zw tc ad (S.1, zU S.2 q i.toNatClampNeg x) := by
    rw [← zU_row S.2 q i.toNatClampNeg x]
    exact zw_num (z := .inl (0, n)) hS (fun a ha => zU_other S.2 x ha)
  rw [e1] at hP hD
  exact W.imp (fun t h => zE.keep (S := S) (S1 := (S.1, zU S.2 q i.toNatClampNeg x)) rfl h) (k p e s m args below meth c D tc A hX ad H1 locs1 lsM (hL.next hP hD hS1) hls)
theorem zr_zast {q n : Nat} {i x : Int32} (hd : decode M.2.1 pc = .ok (.bastore, 1)) (hS : S.1[q]? = some (.inl (1, n))) (hin : vp_in i n) (hx : x = 0 ∨ x = 1) (k : zW l d M (pc + 1) ls st (S.1, zU S.2 q i.toNatClampNeg x) cs r) : zW l d M pc ls (.int x :: .int i :: .ref q :: st) S cs r := by
  intro p e s m args below meth c D tc A hX ad H locs lsM hL hls
  refine va_zast hX.1 hX.2.1 hX.K hL.1 hL.2.1 hL.2.2.1 q 1 (zw_at hS) (zK_at tc 1 (by decide)) hin hd ?_
  intro H1 locs1 hP hD hS1
  have hv : vp_nar .boolean x = x := by rcases hx with rfl | rfl <;> rfl
  rw [hv] at hP hD
  have e1 : (zw tc ad S).set q (ad q, .inl (tc 1, n, .inl (upd (S.2 q) i.toNatClampNeg x))) = zw tc ad (S.1, zU S.2 q i.toNatClampNeg x) := by
    rw [← zU_row S.2 q i.toNatClampNeg x]
    exact zw_num (z := .inl (1, n)) hS (fun a ha => zU_other S.2 x ha)
  rw [e1] at hP hD
  exact W.imp (fun t h => zE.keep (S := S) (S1 := (S.1, zU S.2 q i.toNatClampNeg x)) rfl h) (k p e s m args below meth c D tc A hX ad H1 locs1 lsM (hL.next hP hD hS1) hls)
theorem zr_last {q n : Nat} {i x : Int32} (hd : decode M.2.1 pc = .ok (.lastore, 1)) (hS : S.1[q]? = some (.inl (2, n))) (hin : vp_in i n) (k : zW l d M (pc + 1) ls st (S.1, zU S.2 q i.toNatClampNeg x) cs r) : zW l d M pc ls (.long x.toInt64 :: .int i :: .ref q :: st) S cs r := by
  intro p e s m args below meth c D tc A hX ad H locs lsM hL hls
  refine va_last hX.1 hX.2.1 hX.K hL.1 hL.2.1 hL.2.2.1 q 2 (zw_at hS) (zK_at tc 2 (by decide)) hin hd ?_
  intro H1 locs1 hP hD hS1
  have e1 : (zw tc ad S).set q (ad q, .inl (tc 2, n, .inr (.inl (vp_updL (fun j => (S.2 q j).toInt64) i.toNatClampNeg x.toInt64)))) = zw tc ad (S.1, zU S.2 q i.toNatClampNeg x) := by
    have e2 : (vp_updL (fun j => (S.2 q j).toInt64) i.toNatClampNeg x.toInt64) = fun j => (zU S.2 q i.toNatClampNeg x q j).toInt64 := by
      funext j
      rw [zU_row]
      unfold vp_updL upd
      split <;> rfl
    rw [e2]
    exact zw_num (z := .inl (2, n)) hS (fun a ha => zU_other S.2 x ha)
  rw [e1] at hP hD
  exact W.imp (fun t h => zE.keep (S := S) (S1 := (S.1, zU S.2 q i.toNatClampNeg x)) rfl h) (k p e s m args below meth c D tc A hX ad H1 locs1 lsM (hL.next hP hD hS1) hls)
theorem zr_alen {q t n : Nat} (hd : decode M.2.1 pc = .ok (.arraylength, 1)) (hS : S.1[q]? = some (.inl (t, n))) (ht : t < 3) (k : zW l d M (pc + 1) ls (.int (Int32.ofNat n) :: st) S cs r) : zW l d M pc ls (.ref q :: st) S cs r := by
  intro p e s m args below meth c D tc A hX ad H locs lsM hL hls
  exact va_alen hX.1 hX.2.1 hX.K hL.1 q t (zw_at hS) (zK_at tc t ht) rfl hd (k p e s m args below meth c D tc A hX ad H locs lsM hL hls)
theorem zr_sld {L : Nat} {xs : Nat → Int32} {i : Int32} (hd : decode M.2.1 pc = .ok (.iaload, 1)) (hM : M.2.2.2.2.2 = some (L, xs)) (hin : vp_in i L) (k : zW l d M (pc + 1) ls (.int (xs i.toNatClampNeg) :: st) S cs r) : zW l d M pc ls (.int i :: .ref 999 :: st) S cs r := by
  intro p e s m args below meth c D tc A hX ad H locs lsM hL hls
  obtain ⟨hx, hb, hA⟩ := hL.2.2.2 L xs hM
  exact va_sld hX.1 hX.2.1 hx hb hA hL.2.2.1 hin hd (k p e s m args below meth c D tc A hX ad H locs lsM hL hls)
theorem zr_slen {L : Nat} {xs : Nat → Int32} (hd : decode M.2.1 pc = .ok (.arraylength, 1)) (hM : M.2.2.2.2.2 = some (L, xs)) (k : zW l d M (pc + 1) ls (.int (Int32.ofNat L) :: st) S cs r) : zW l d M pc ls (.ref 999 :: st) S cs r := by
  intro p e s m args below meth c D tc A hX ad H locs lsM hL hls
  obtain ⟨hx, hb, hA⟩ := hL.2.2.2 L xs hM
  exact va_slen hX.1 hX.2.1 hx hb hA hL.2.2.1 hd (k p e s m args below meth c D tc A hX ad H locs lsM hL hls)
theorem zend_ret {p : Program} {e : Env} {s : State} {m : MethodId} {args : Array Value} {below : List Frame} {meth : Method} {c : Code} {D : va_G} {tc : Nat → ClassId} {A : Nat → Prop} (hX : zX l p s m meth c M D tc A) {ad : Nat → Nat} {H : Heap} {locs : List Loc} (hL : zL M D tc A ad s S H locs) {v : Option Value} {mc ms : Nat} {g : JFrame}
    (h : W p l e (zrm d (.inl v, S, mc, ms)) s m args below meth c H locs mc ms (MQ below (fun _ st o t => o = .returned (v.map (zc ad)) ∧ t.heap = H) args s mc ms (fun q => A q)) g) : W p l e (zrm d (.inl v, S, mc, ms)) s m args below meth c H locs mc ms (zE below s D tc A ad S (.inl v, S, mc, ms)) g := by
  refine W.imp (fun t ht => ?_) h
  obtain ⟨o, h1, h2, ⟨h3, h4⟩, L, ⟨-, h5, h6⟩, h7⟩ := ht
  refine ⟨o, h1, h2, ⟨ad, fun _ _ => rfl, fun _ => rfl, Nat.le_refl _, h3, ?_, hL.2.1, ?_⟩, h5, L, h6, h7⟩
  · rw [h4]; exact hL.1
  · exact ⟨by rw [h4]; exact hL.2.2.1.1, fun q g1 g2 => by rw [h4]; exact hL.2.2.1.2.1 q g1 g2⟩
theorem zr_iret {x : Int32} (hr : M.2.2.2.1 = some .int) (hd : decode M.2.1 pc = .ok (.ireturn, 1)) {mc ms : Nat} (h1 : cs.1 ≤ mc) (h2 : cs.2 ≤ ms) : zW l d M pc ls ([.int x]) S cs (.inl (some (.int x)), S, mc, ms) := by
  intro p e s m args below meth c D tc A hX ad H locs lsM hL hls
  refine W.widen h1 h2 (zend_ret hX hL ?_)
  exact W.iret hX.1 hX.2.1 (hX.2.2.2.1.trans hr) (fun t ht _ => ⟨rfl, ht⟩) hL.2.2.1.2.2 hd hX.2.2.2.2.1
theorem zr_zret {x : Int32} (hr : M.2.2.2.1 = some .boolean) (hx : x = 0 ∨ x = 1) (hd : decode M.2.1 pc = .ok (.ireturn, 1)) {mc ms : Nat} (h1 : cs.1 ≤ mc) (h2 : cs.2 ≤ ms) : zW l d M pc ls ([.int x]) S cs (.inl (some (.int x)), S, mc, ms) := by
  intro p e s m args below meth c D tc A hX ad H locs lsM hL hls
  refine W.widen h1 h2 (zend_ret hX hL ?_)
  exact W.zret hX.1 hX.2.1 (hX.2.2.2.1.trans hr) (by rcases hx with rfl | rfl <;> rfl) (fun t ht _ => ⟨rfl, ht⟩) hL.2.2.1.2.2 hd hX.2.2.2.2.1
theorem zr_vret (hr : M.2.2.2.1 = none) (hd : decode M.2.1 pc = .ok (.return_, 1)) {mc ms : Nat} (h1 : cs.1 ≤ mc) (h2 : cs.2 ≤ ms) : zW l d M pc ls ([]) S cs (.inl none, S, mc, ms) := by
  intro p e s m args below meth c D tc A hX ad H locs lsM hL hls
  refine W.widen h1 h2 (zend_ret hX hL ?_)
  exact W.vret hX.1 hX.2.1 (hX.2.2.2.1.trans hr) (fun t ht _ => ⟨rfl, ht⟩) hL.2.2.1.2.2 hd hX.2.2.2.2.1
theorem zr_aret {x : Nat} {E : String} (hr : M.2.2.2.1 = some (.object E)) (hd : decode M.2.1 pc = .ok (.areturn, 1)) {mc ms : Nat} (h1 : cs.1 ≤ mc) (h2 : cs.2 ≤ ms) : zW l d M pc ls ([.ref x]) S cs (.inl (some (.ref x)), S, mc, ms) := by
  intro p e s m args below meth c D tc A hX ad H locs lsM hL hls
  refine W.widen h1 h2 (zend_ret hX hL ?_)
  exact W.aret hX.1 hX.2.1 (hX.2.2.2.1.trans hr) (Or.inl ⟨_, rfl⟩) (Or.inr ⟨_, rfl⟩) (fun t ht _ => ⟨rfl, ht⟩) hL.2.2.1.2.2 hd hX.2.2.2.2.1
end ZR
end
section
/-! contracts: from a walk to a contract, and calls -/
theorem zcw_spec {M : zM} {args : Array Value} {s : State} {m : MethodId} (h : (zcw M).before args s = true) (hn : s.methodNamed? M.1 = some m) : ∃ meth c, s.vm.method? m = some meth ∧ meth.code = some c ∧ c.code = M.2.1 ∧ c.maxLocals = M.2.2.1 ∧ meth.sig.returnType = M.2.2.2.1 ∧ meth.locks = false ∧ c.exceptionTable.toList = tableOf M.2.2.2.2.1 ∧ parseMethodDescriptor M.1.desc = some meth.sig := by
  obtain ⟨y, b, n, ret, hh, sc⟩ := M
  cases hh with
  | nil =>
    obtain ⟨meth, c, h1, h2, h3, h4, h5, h6, h7, h8⟩ := Cond.code_spec hn (show (Cond.code y b n ret).before args s = true from h)
    refine ⟨meth, c, h1, h2, h3, h4, h5, h6, ?_, h8⟩
    have : c.exceptionTable = #[] := by simpa using h7
    rw [this]
    rfl
  | cons q hh =>
    obtain ⟨m', meth, c, hn', h1, h2, h3, h4, h5, h6, h7, h8⟩ := Cond.codeWith_spec (show (Cond.codeWith y b n ret (q :: hh)).before args s = true from h)
    cases hn.symm.trans hn'
    exact ⟨meth, c, h1, h2, h3, h4, h6, h7, by rw [← table_eq c.exceptionTable.toList, h5], h8⟩
theorem zargs_in : ∀ (vs : List Value) (i j : Nat) (v : Value), (∀ w ∈ vs, w.category = 1) → vs[j]? = some v → (i + j, v) ∈ lv_args i vs
  | [], i, j, v, _, h => by simp at h
  | w :: vs, i, 0, v, hc, h => by
    simp at h
    subst h
    exact List.mem_cons_self
  | w :: vs, i, j + 1, v, hc, h => by
    have hw : ¬ w.category = 2 := by have := hc w List.mem_cons_self; omega
    have h1 := zargs_in vs (i + 1) j v (fun x hx => hc x (List.mem_cons_of_mem _ hx)) (by simpa using h)
    refine List.mem_cons_of_mem _ ?_
    rw [if_neg hw, show i + (j + 1) = i + 1 + j by omega]
    exact h1
theorem zsl_len : ∀ (vs : List Value), (∀ w ∈ vs, w.category = 1) → (lg_sl vs).length = vs.length
  | [], _ => rfl
  | w :: vs, hc => by
    have hw : ¬ w.category = 2 := by have := hc w List.mem_cons_self; omega
    have h1 := zsl_len vs (fun x hx => hc x (List.mem_cons_of_mem _ hx))
    unfold lg_sl at h1 ⊢
    rw [List.flatMap_cons, if_neg hw, List.length_append, h1]
    simp
    omega
theorem zMet_of {l : Launch} {d : Nat} {M : zM} {as ls : List Value} {S : zS} {r : zR} (hy : plainName M.1.cls = true) (hs : M.2.2.2.2.2 = none) (hc : ∀ v ∈ as, v.category = 1) (hn : as.length ≤ M.2.2.1) (hls : ls = as ++ List.replicate (M.2.2.1 - as.length) .null)
    (k : zW l d M 0 ls [] S (0, 0) r) : zMet l d M as S r := by
  intro D tc A ad hl
  refine MetFree.of_bodyS (code := M.2.1) (maxLocals := M.2.2.1) (ret := M.2.2.2.1) hy ?_ ?_
  · intro args s m h hn
    obtain ⟨meth, c, h1, h2, h3, h4, h5, h6, -⟩ := zcw_spec (atoms_spec (ws := [zcw M]) h _ List.mem_cons_self) hn
    exact ⟨meth, c, h1, h2, h3, h4, h5, h6⟩
  · intro p e s m args below meth c s₁ B hml hP _
    obtain ⟨hav, hT, hK, hP, hD, hA⟩ := hP
    have hcw := atoms_spec (ws := [zcw M]) B.pre _ List.mem_cons_self
    obtain ⟨meth', c', h1, h2, h3, h4, h5, h6, h7, h8⟩ := zcw_spec hcw B.named
    cases B.method.symm.trans h1
    have X := Stand.of_body B
    cases X.code.symm.trans h2
    have hX : zX l p s m meth c M D tc A := ⟨B.exec, h3, h4, h5, h6, (name_of_methodNamed B.named B.method).1, findClass_of_methodNamed B.named, h7, hT, hK, hA, hl⟩
    have hh0 : s₁.heap = s.heap := by rw [B.state]; rfl
    have hc2 : ∀ w ∈ as.map (zc ad), w.category = 1 := fun w hw => by
      obtain ⟨v, hv, rfl⟩ := List.mem_map.mp hw
      rw [zc_cat]; exact hc v hv
    have hen := lv_entry (as.map (zc ad)) (n := M.2.2.1) (by rw [zsl_len _ hc2]; simpa using hn)
    have hlo : zloc ((lg_sl (as.map (zc ad)) ++ List.replicate (M.2.2.1 - (lg_sl (as.map (zc ad))).length) Slot.unset).toArray) M.2.2.1 ad ls := by
      refine ⟨hen.1, hen.2.1, fun i v hi hv => ?_⟩
      rw [hls] at hi
      by_cases hlt : i < as.length
      · rw [List.getElem?_append_left hlt] at hi
        have hc1 := hc v (List.mem_of_getElem? hi)
        refine ⟨hc1, hen.2.2 (i, zc ad v) ?_⟩
        have := zargs_in (as.map (zc ad)) 0 i (zc ad v) hc2 (by rw [List.getElem?_map, hi]; rfl)
        simpa using this
      · rw [List.getElem?_append_right (by omega)] at hi
        have := List.mem_of_getElem? hi
        rw [List.mem_replicate] at this
        exact absurd this.2 hv
    have key := k p e s m args below meth c D tc A hX ad s.heap [] _ ⟨hP, hD, ⟨Nat.le_refl _, fun _ _ _ => rfl, fun q hq => (by cases hq)⟩, fun L xs h => (by rw [hs] at h; cases h)⟩ hlo
    have key2 : W p l e (zrm d r) s m args below meth c s.heap [] 0 0 (zE below s D tc A ad S r) (entryFrame m args M.2.2.1) := by
      rw [hav, lg_entry_eq]
      rw [hav] at key
      exact key
    obtain ⟨t, a1, o, b1, b2, b3, b4⟩ := key2 s₁ hh0 X
    exact ⟨t, o, a1, b1, b2, b3, b4⟩
section ZC
variable {p : Program} {l : Launch} {e : Env} {R : Room} {s : State} {m : MethodId} {args : Array Value} {below : List Frame} {meth : Method} {c : Code} {T : State} {locs : List Loc} {cells slots : Nat}
/-- the invoking instruction itself: which method comes, at what state -/
def zinv (p : Program) (l : Launch) (e : Env) (R : Room) (s : State) (m : MethodId) (args : Array Value) (below : List Frame) (meth : Method) (c : Code) (T : State) (locs : List Loc) (cells slots : Nat) (g : JFrame) (y : MethodName) (a : Array Value) (rest : List Value) : Prop :=
  ∃ (mk : MethodId) (vm₁ : Vm), s.methodNamed? y = some mk ∧ s.WarmedH vm₁ ∧ Stand p l e R s m args below meth c (T.setVm vm₁) locs cells slots ∧
    ∀ target, (∀ acts, Steps p.tables e below (doInvoke e ((T.setVm vm₁).setTop { g with stack := rest }) acts mk a).1 target) → Steps p.tables e below (T.setTop g) target
/-- a call's run, whatever its end -/
theorem zcall0 {M' : zM} {d : Nat} {as : List Value} {S : zS} {r' : zR} {D : va_G} {tc : Nat → ClassId} {A : Nat → Prop} {ad : Nat → Nat} (X : Stand p l e R s m args below meth c T locs cells slots) (hM : zMet l d M' as S r') (hl : l.stackTraces = false)
    (hPc : zT A T ∧ va_K D zcl (zK tc) T ∧ va_P D zcl (zw tc ad S) T.heap ∧ va_D A (zw tc ad S) ∧ ∀ q, T.heap.size ≤ q → A q) (hcw : zI (zcw M')) (hini : zI (.initialized M'.1.cls)) {mk : MethodId} (hn : T.methodNamed? M'.1 = some mk)
    {g : JFrame} (hg : g.method = m) (hsize : g.locals.size = c.maxLocals) {ig : Instr} {len : Nat} (hdg : decode c.code g.pc = .ok (ig, len)) (hW : 2 * g.monitorRoom + (g.stack.map fun v => v.category).sum ≤ 8) (hfr : d + 1 ≤ R.frames) (hlo : 8 + (M'.2.2.1 + 11) + 64 * d ≤ R.locals) (h4 : cells + r'.2.2.1 ≤ R.cells) (h5 : slots + r'.2.2.2 ≤ R.slots) :
    ∃ (o : Outcome) (t : State) (L : List Loc), Steps p.tables e below (doInvoke e (T.setTop g) [] mk (as.map (zc ad)).toArray).1 t ∧ Ended t (.java g :: below) o ∧ zQ D tc A ad S r' (T.calling g mk (as.map (zc ad)).toArray) o t ∧ (T.calling g mk (as.map (zc ad)).toArray).WarmedH t.vm ∧
      (T.calling g mk (as.map (zc ad)).toArray).sameButNew ({ t with vm := (T.calling g mk (as.map (zc ad)).toArray).vm } : State) L r'.2.2.1 r'.2.2.2 ∧ ∀ q ∈ L, A q.base := by
  have h1 : (headSpec [zcw M'] (zrm d r')).pre.before (as.map (zc ad)).toArray T = true := atoms_intro fun w hw => by
    rw [List.mem_singleton.mp hw]
    exact hPc.1.w hcw
  obtain ⟨methY, cY, hmY, hcY, -, hlY, -⟩ := zcw_spec (hPc.1.w hcw (a := #[])) hn
  obtain ⟨kY, hkY, -⟩ := className_of_methodNamed hn
  have hinitY : kY.init = .initialized := Cond.initialized_spec (findClass_of_methodNamed hn) hkY (hPc.1.w hini (a := #[]))
  have h : At T g.method c below := by rw [hg]; exact X.here
  have happ : (headSpec [zcw M'] (zrm d r')).appliesLoose M'.1 e.platform (T.calling g mk (as.map (zc ad)).toArray) = true :=
    Spec.appliesLoose_calling (g := g) h hdg hn hkY hinitY
      (X.room_calling (g := g) (R' := (headSpec [zcw M'] (zrm d r')).room) hsize hmY hcY hfr (by rw [hlY]; show _ + _ + 64 * d ≤ _; omega) h4 h5) h1
  obtain ⟨mid, hmid⟩ := h.above
  have hfrm : (T.setTop g).frames = (.java g :: mid) ++ below := by rw [State.frames_setTop' g h.top, hmid]; rfl
  have hv2 : ((T.setTop g).pushFrame (.invoking mk (as.map (zc ad)).toArray)).vm = T.vm := by simp [State.pushFrame, State.setFrames, State.setTop, State.modifyTopJava]
  have hh2 : ((T.setTop g).pushFrame (.invoking mk (as.map (zc ad)).toArray)).heap = T.heap := by simp [State.pushFrame, State.setFrames, State.setTop, State.modifyTopJava]
  have hW2 : T.WarmedH ((T.setTop g).pushFrame (.invoking mk (as.map (zc ad)).toArray)).vm := by rw [hv2]; exact State.WarmedH.refl T
  have hPc2 : zT A ((T.setTop g).pushFrame (.invoking mk (as.map (zc ad)).toArray)) ∧ va_K D zcl (zK tc) ((T.setTop g).pushFrame (.invoking mk (as.map (zc ad)).toArray)) ∧ va_P D zcl (zw tc ad S) ((T.setTop g).pushFrame (.invoking mk (as.map (zc ad)).toArray)).heap ∧ va_D A (zw tc ad S) ∧ ∀ q, ((T.setTop g).pushFrame (.invoking mk (as.map (zc ad)).toArray)).heap.size ≤ q → A q := by
    refine ⟨hPc.1.warm hW2 (fun q _ _ => by rw [hh2]), hPc.2.1.moved hW2.alike, ?_⟩
    rw [hh2]
    exact hPc.2.2
  obtain ⟨o, s₂, hsteps, -, hend, hq, hw, L, hsm, hL⟩ := Steps.callFree (hM D tc A ad hl) p X.admits X.cas X.clock (acts := []) hfrm happ ⟨rfl, hPc2⟩ trivial
  rw [State.frames_setTop' g h.top, X.tail] at hend
  exact ⟨o, s₂, L, hsteps, hend, hq, hw, hsm, hL⟩
end ZC
/-- at pc the machine calls y with the arguments 'as', 'rest' stays on the stack -/
def zJ (l : Launch) (M : zM) (pc : Nat) (S : zS) (stk : List Value) (y : MethodName) (as rest : List Value) : Prop :=
  (∃ ig, decode M.2.1 pc = .ok (ig, 3)) ∧ ∀ (p : Program) (e : Env) (s : State) (m : MethodId) (args : Array Value) (below : List Frame) (meth : Method) (c : Code) (D : va_G) (tc : Nat → ClassId) (A : Nat → Prop), zX l p s m meth c M D tc A →
    ∀ (R : Room) (ad : Nat → Nat) (H : Heap) (locs : List Loc) (cells slots : Nat) (lsM : Array Slot) (T : State), zL M D tc A ad s S H locs → lsM.size = M.2.2.1 → T.heap = H → Stand p l e R s m args below meth c T locs cells slots →
      zinv p l e R s m args below meth c T locs cells slots (F0 m pc lsM (stk.map (zc ad))) y (as.map (zc ad)).toArray (rest.map (zc ad))
theorem zsum (ad : Nat → Nat) : ∀ (vs : List Value), ((vs.map (zc ad)).map fun v => v.category).sum ≤ 2 * vs.length
  | [] => Nat.le_refl _
  | v :: vs => by
    have h1 := zsum ad vs
    have h2 := lv_cat (zc ad v)
    simp only [List.map_cons, List.sum_cons, List.length_cons]
    omega
section ZC2
variable {l : Launch} {d : Nat} {M M' : zM} {pc : Nat} {ls st as rest : List Value} {S S' : zS} {cs : Nat × Nat} {r : zR} {v : Option Value} {mc ms : Nat}
/-- what a call finds and leaves, machine side -/
theorem zcall1 {r' : zR} (hJ : zJ l M pc S st M'.1 as rest) (hM : zMet l d M' as S r') (hcw : zI (zcw M')) (hini : zI (.initialized M'.1.cls)) (hml : M'.2.2.1 ≤ 45) (hre : rest.length ≤ 4) (h1 : cs.1 + r'.2.2.1 ≤ r.2.2.1) (h2 : cs.2 + r'.2.2.2 ≤ r.2.2.2)
    {p : Program} {e : Env} {s : State} {m : MethodId} {args : Array Value} {below : List Frame} {meth : Method} {c : Code} {D : va_G} {tc : Nat → ClassId} {A : Nat → Prop} (hX : zX l p s m meth c M D tc A) {ad : Nat → Nat} {H : Heap} {locs : List Loc} {lsM : Array Slot} (hL : zL M D tc A ad s S H locs) (hls : zloc lsM M.2.2.1 ad ls)
    {T : State} (hT : T.heap = H) (X : Stand p l e (zrm (d + 1) r) s m args below meth c T locs cs.1 cs.2) :
    ∃ (o : Outcome) (t U T' : State) (L : List Loc) (mk : MethodId), (∀ target, Steps p.tables e below t target → Steps p.tables e below (T.setTop (F0 m pc lsM (st.map (zc ad)))) target) ∧ zQ D tc A ad S r' (U.calling (F0 m pc lsM (rest.map (zc ad))) mk (as.map (zc ad)).toArray) o t ∧ U.heap = H ∧ s.WarmedH t.vm ∧ (∀ q ∈ L, A q.base) ∧
      T'.heap = t.heap ∧ T'.vm = t.vm ∧ Stand p l e (zrm (d + 1) r) s m args below meth c T' (locs ++ L) (cs.1 + r'.2.2.1) (cs.2 + r'.2.2.2) ∧
      ((∀ w, o = .returned w → t = T'.setTop (F0 m (pc + 3) lsM (w.toList ++ rest.map (zc ad)))) ∧ ∀ q, o = .threw q → t = (T'.setTop (F0 m pc lsM (rest.map (zc ad)))).pushFrame (.throwing q)) := by
  obtain ⟨⟨ig, hdg⟩, hJ⟩ := hJ
  obtain ⟨mk, vm₁, hn, hW₁, X₁, hst⟩ := hJ p e s m args below meth c D tc A hX _ ad H locs _ _ lsM T hL hls.1 hT X
  have hT1 : (T.setVm vm₁).heap = H := hT
  have hdg' : decode c.code (F0 m pc lsM (rest.map (zc ad))).pc = .ok (ig, 3) := by rw [hX.2.1]; exact hdg
  obtain ⟨o, t, L, hsteps, hend, hq, hw, hsm, hLA⟩ := zcall0 (ad := ad) (D := D) (tc := tc) (A := A) X₁ hM hX.2.2.2.2.2.2.2.2.2.2.2
    ⟨hX.T.warm hW₁ (fun q g1 g2 => by rw [hT1]; exact hL.2.2.1.2.1 q g1 g2), hX.K.moved hW₁.alike, by rw [hT1]; exact hL.1, hL.2.1, fun q hq => hX.2.2.2.2.2.2.2.2.2.2.1 q (Nat.le_trans hL.2.2.1.1 (by rw [← hT1]; exact hq))⟩
    hcw hini (X₁.named hn) (g := F0 m pc lsM (rest.map (zc ad))) rfl (by show lsM.size = _; rw [hls.1, hX.2.2.1]) hdg' (by show 2 * 0 + ((rest.map (zc ad)).map fun v => v.category).sum ≤ 8; have := zsum ad rest; omega) (Nat.le_refl _) (by show _ ≤ 64 * (d + 1); omega) h1 h2
  have hWt : s.WarmedH t.vm := State.WarmedH.trans hW₁ hw
  cases o with
  | returned w =>
    obtain ⟨T', X', hW', -, ht⟩ := X₁.outOf (g := F0 m pc lsM (rest.map (zc ad))) rfl hdg' hend hw hsm
    refine ⟨.returned w, t, T.setVm vm₁, T', L, mk, fun target h => hst _ fun acts => by rw [doInvoke_state]; exact hsteps.trans h, hq, hT1, hWt, hLA, by rw [ht]; simp [State.setTop, State.modifyTopJava], by rw [ht]; simp [State.setTop, State.modifyTopJava], X', fun w' h => ?_, fun q h => (by cases h)⟩
    cases h
    exact ht
  | threw x =>
    obtain ⟨T', X', hW', -, ht⟩ := X₁.outOfThrown (g := F0 m pc lsM (rest.map (zc ad))) rfl hend hw hsm
    refine ⟨.threw x, t, T.setVm vm₁, T', L, mk, fun target h => hst _ fun acts => by rw [doInvoke_state]; exact hsteps.trans h, hq, hT1, hWt, hLA, by rw [ht, throwing_heap], by rw [ht, throwing_vm], X', fun w' h => (by cases h), fun q h => ?_⟩
    cases h
    exact ht
theorem zS_after {D : va_G} {tc : Nat → ClassId} {A : Nat → Prop} {ad : Nat → Nat} {s U t : State} {H H1 : Heap} {locs L : List Loc} (hL : zL M D tc A ad s S H locs) (hU : U.heap = H) (h1 : H1 = t.heap) (hF : va_F A U t) (hLA : ∀ q ∈ L, A q.base) : va_S A s.heap H1 (locs ++ L) := by
  subst h1
  rw [← hU] at hL
  refine ⟨Nat.le_trans hL.2.2.1.1 hF.1, fun q g1 g2 => ?_, fun q hq => ?_⟩
  · rw [hF.2 q (Nat.lt_of_lt_of_le g1 hL.2.2.1.1) g2]
    exact hL.2.2.1.2.1 q g1 g2
  · rcases List.mem_append.mp hq with h | h
    · exact hL.2.2.1.2.2 q h
    · exact hLA q h
/-- a call that returns and makes no cells that last -/
theorem zr_call (hJ : zJ l M pc S st M'.1 as rest) (hM : zMet l d M' as S (.inl v, S', mc, ms)) (hcw : zI (zcw M')) (hini : zI (.initialized M'.1.cls)) (hml : M'.2.2.1 ≤ 45) (hre : rest.length ≤ 4) (hsh : S'.1 = S.1) (h1 : cs.1 + mc ≤ r.2.2.1) (h2 : cs.2 + ms ≤ r.2.2.2)
    (k : zW l (d + 1) M (pc + 3) ls (v.toList ++ rest) S' (cs.1 + mc, cs.2 + ms) r) : zW l (d + 1) M pc ls st S cs r := by
  intro p e s m args below meth c D tc A hX ad H locs lsM hL hls T hT X
  obtain ⟨o, t, U, T', L, mk, hst, ⟨ad', q1, q2, q3, q4, q5, q6, q7⟩, hU, hW, hLA, e1, e2, X', ho, -⟩ := zcall1 (r := r) hJ hM hcw hini hml hre h1 h2 hX hL hls hT X
  have had : ad' = ad := q2 hsh
  subst had
  have ht := ho _ q4
  have hUc : (U.calling (F0 m pc lsM (rest.map (zc ad'))) mk (as.map (zc ad')).toArray).heap = H := hU
  have hL1 : zL M D tc A ad' s S' T'.heap (locs ++ L) := hL.next (by rw [e1]; exact q5) q6 (zS_after hL hUc e1 q7 hLA)
  obtain ⟨t2, a1, b1⟩ := k p e s m args below meth c D tc A hX ad' T'.heap (locs ++ L) lsM hL1 hls T' rfl X'
  refine ⟨t2, hst t2 ?_, zE.keep hsh b1⟩
  rw [ht]
  have e3 : (v.map (zc ad')).toList ++ rest.map (zc ad') = (v.toList ++ rest).map (zc ad') := by cases v <;> rfl
  rw [e3]
  exact a1
/-! the invoking instructions -/
theorem zJ_virt {index q ci N : Nat} {C : String} {T0 : u_T} {ty : Nat → FieldType} {fs : List (Option (Option Nat))} {n : Nat} (hd : decode M.2.1 pc = .ok (.invokevirtual index, 3)) (hC : zC ci C T0 N ty) (hy : M'.1.cls = C) (hlink : zI (.methodLink M.1.cls index M'.1)) (hin : zI (.instanceMethod M'.1)) (hsel : zI (.selects C M'.1 M'.1)) (hcw : zI (zcw M')) (hne : C ≠ "java/lang/invoke/MethodHandle" ∧ C ≠ "java/lang/invoke/VarHandle")
    (hn : (parseMethodDescriptor M'.1.desc).map (fun d => d.parameters.length) = some n) (hS : S.1[q]? = some (.inr (ci, fs))) (has : as.length = n) (hst : st = as.reverse ++ .ref q :: rest) : zJ l M pc S st M'.1 (.ref q :: as) rest := by
  refine ⟨⟨_, hd⟩, ?_⟩
  intro p e s m args below meth c D tc A hX R ad H locs cells slots lsM T hL hsz hT X
  subst hT
  obtain ⟨cellB, hcell, hobj, hcls⟩ := va_recv hX.K hL.1 hC.1 (zw_at hS)
  obtain ⟨mk, methM, hnamed, hmethM, hstM, habM⟩ := Cond.instanceMethod_spec (hX.T.w hin (a := args))
  obtain ⟨methM', cM, hmethM', -, -, -, -, -, -, hsigM⟩ := zcw_spec (hX.T.w hcw (a := args)) hnamed
  cases hmethM.symm.trans hmethM'
  have hy' : M'.1.cls ≠ "java/lang/invoke/MethodHandle" ∧ M'.1.cls ≠ "java/lang/invoke/VarHandle" := by rw [hy]; exact hne
  obtain ⟨c2, r2, m2, q1, q2, q3, q4, kP, hkP, hkPi⟩ := Cond.selects_spec (hX.T.w hsel (a := args))
  cases hcls.symm.trans q1
  cases (State.methodFound?_of_named hnamed hy').symm.trans q2
  cases hnamed.symm.trans q3
  have hselP : selectMethod e.platform s.vm cellB.cls mk = .method mk := by rw [Launch.admits_selectMethod X.admits]; exact q4
  have hlen : (as.map (zc ad)).length = methM.sig.parameters.length := by
    rw [hsigM] at hn
    rw [List.length_map, has]
    exact (Option.some.inj hn).symm
  obtain ⟨vm₁, X₁, hstep₁⟩ := X.invokevirtual hX.1 hX.own (hX.T.w hlink) hnamed hmethM hstM hkP hkPi hy' (a := ad q) (cell := cellB) hcell
    (fun z h => by rw [h] at hobj; cases hobj) hselP hmethM habM hkP hkPi (g := F0 m pc lsM (st.map (zc ad))) rfl (argsL := as.map (zc ad)) (rest := rest.map (zc ad)) hlen (by subst hst; simp [zc]) (by rw [hX.2.1]; exact hd)
  exact ⟨mk, vm₁, hnamed, X₁.warmed, X₁, hstep₁⟩
theorem zJ_stat {index n : Nat} (hd : decode M.2.1 pc = .ok (.invokestatic index, 3)) (hlink : zI (.methodLink M.1.cls index M'.1)) (hin : zI (.static M'.1)) (hini : zI (.initialized M'.1.cls)) (hcw : zI (zcw M')) (hne : M'.1.cls ≠ "java/lang/invoke/MethodHandle" ∧ M'.1.cls ≠ "java/lang/invoke/VarHandle")
    (hn : (parseMethodDescriptor M'.1.desc).map (fun d => d.parameters.length) = some n) (has : as.length = n) (hst : st = as.reverse ++ rest) : zJ l M pc S st M'.1 as rest := by
  refine ⟨⟨_, hd⟩, ?_⟩
  intro p e s m args below meth c D tc A hX R ad H locs cells slots lsM T hL hsz hT X
  obtain ⟨mk, hnamed⟩ : ∃ mk, s.methodNamed? M'.1 = some mk := by
    obtain ⟨y, b, n0, ret, hh, sc⟩ := M'
    cases hh with
    | nil => exact Cond.code_named (hX.T.w hcw (a := args))
    | cons q hh =>
      obtain ⟨m', -, -, hn', -⟩ := Cond.codeWith_spec (hX.T.w hcw (a := args))
      exact ⟨m', hn'⟩
  obtain ⟨methM, cM, hmethM, -, -, -, -, -, -, hsigM⟩ := zcw_spec (hX.T.w hcw (a := args)) hnamed
  have hstatic : methM.isStatic = true := Cond.static_spec hnamed hmethM (hX.T.w hin (a := args))
  obtain ⟨kP, hkP, -⟩ := className_of_methodNamed hnamed
  have hinitP : kP.init = .initialized := Cond.initialized_spec (findClass_of_methodNamed hnamed) hkP (hX.T.w hini (a := args))
  have hlen : (as.map (zc ad)).length = methM.sig.parameters.length := by
    rw [hsigM] at hn
    rw [List.length_map, has]
    exact (Option.some.inj hn).symm
  obtain ⟨vm₁, X₁, hstep₁⟩ := X.invokestatic hX.1 hX.own (hX.T.w hlink) hnamed hmethM hstatic hkP hinitP hne (g := F0 m pc lsM (st.map (zc ad))) rfl (argsL := as.map (zc ad)) (rest := rest.map (zc ad)) hlen (by subst hst; simp) (by rw [hX.2.1]; exact hd)
  exact ⟨mk, vm₁, hnamed, X₁.warmed, X₁, hstep₁⟩
theorem zJ_statN {index n : Nat} {host : String} (hd : decode M.2.1 pc = .ok (.invokestatic index, 3)) (hlink : zI (.methodLinkNest M.1.cls index M'.1 host)) (hin : zI (.static M'.1)) (hini : zI (.initialized M'.1.cls)) (hcw : zI (zcw M')) (hhh : M'.2.2.2.2.1 = []) (hne : M'.1.cls ≠ "java/lang/invoke/MethodHandle" ∧ M'.1.cls ≠ "java/lang/invoke/VarHandle")
    (hn : (parseMethodDescriptor M'.1.desc).map (fun d => d.parameters.length) = some n) (has : as.length = n) (hst : st = as.reverse ++ rest) : zJ l M pc S st M'.1 as rest := by
  refine ⟨⟨_, hd⟩, ?_⟩
  intro p e s m args below meth c D tc A hX R ad H locs cells slots lsM T hL hsz hT X
  obtain ⟨mk, hnamed⟩ : ∃ mk, s.methodNamed? M'.1 = some mk := by
    obtain ⟨y, b, n0, ret, hh, sc⟩ := M'
    cases hhh
    exact Cond.code_named (hX.T.w hcw (a := args))
  obtain ⟨methM, cM, hmethM, -, -, -, -, -, -, hsigM⟩ := zcw_spec (hX.T.w hcw (a := args)) hnamed
  have hstatic : methM.isStatic = true := Cond.static_spec hnamed hmethM (hX.T.w hin (a := args))
  obtain ⟨kP, hkP, -⟩ := className_of_methodNamed hnamed
  have hinitP : kP.init = .initialized := Cond.initialized_spec (findClass_of_methodNamed hnamed) hkP (hX.T.w hini (a := args))
  have hlen : (as.map (zc ad)).length = methM.sig.parameters.length := by
    rw [hsigM] at hn
    rw [List.length_map, has]
    exact (Option.some.inj hn).symm
  obtain ⟨vm₁, X₁, hstep₁⟩ := X.invokestaticNest hX.1 hX.own (hX.T.w hlink) hnamed hmethM hstatic hkP hinitP hne (g := F0 m pc lsM (st.map (zc ad))) rfl (argsL := as.map (zc ad)) (rest := rest.map (zc ad)) hlen (by subst hst; simp) (by rw [hX.2.1]; exact hd)
  exact ⟨mk, vm₁, hnamed, X₁.warmed, X₁, hstep₁⟩
theorem zJ_spec {index q n : Nat} (hd : decode M.2.1 pc = .ok (.invokespecial index, 3)) (hi : M'.1.name = "<init>") (hlink : zI (.methodLink M.1.cls index M'.1)) (hin : zI (.instanceMethod M'.1)) (hcw : zI (.code M'.1 M'.2.1 M'.2.2.1 none)) (hne : M'.1.cls ≠ "java/lang/invoke/MethodHandle" ∧ M'.1.cls ≠ "java/lang/invoke/VarHandle")
    (hn : (parseMethodDescriptor M'.1.desc).map (fun d => d.parameters.length) = some n) (has : as.length = n) (hst : st = as.reverse ++ .ref q :: rest) : zJ l M pc S st M'.1 (.ref q :: as) rest := by
  refine ⟨⟨_, hd⟩, ?_⟩
  intro p e s m args below meth c D tc A hX R ad H locs cells slots lsM T hL hsz hT X
  have hpl : e.platform.magicAccessors = ({} : Platform).magicAccessors := by rw [X.admits.platform]
  have hlen : ∀ sig, parseMethodDescriptor M'.1.desc = some sig → (as.map (zc ad)).length = sig.parameters.length := fun sig h => by
    rw [h] at hn
    rw [List.length_map, has]
    exact (Option.some.inj hn).symm
  obtain ⟨mk, methM, cM, kP, vm₁, hnamed, hmethM, hcodeM, -, hlocalsM, -, hkP, -, hW₁, hstep₁⟩ := Steps.initColdArgs (e := e) (args := args) X.here hX.1 X.warmed hpl hX.own hi hne (hX.T.w hlink) (hX.T.w hin) (hX.T.w hcw) (f := F0 m pc lsM (st.map (zc ad))) rfl (a := ad q) (argsL := as.map (zc ad)) (rest := rest.map (zc ad)) hlen (by subst hst; simp [zc]) (by rw [hX.2.1]; exact hd)
  exact ⟨mk, vm₁, hnamed, hW₁, X.noted hW₁, hstep₁⟩
theorem zJ_specN {index q n : Nat} {host : String} (hd : decode M.2.1 pc = .ok (.invokespecial index, 3)) (hi : M'.1.name = "<init>") (hlink : zI (.methodLinkNest M.1.cls index M'.1 host)) (hin : zI (.instanceMethod M'.1)) (hcw : zI (.code M'.1 M'.2.1 M'.2.2.1 none)) (hne : M'.1.cls ≠ "java/lang/invoke/MethodHandle" ∧ M'.1.cls ≠ "java/lang/invoke/VarHandle")
    (hn : (parseMethodDescriptor M'.1.desc).map (fun d => d.parameters.length) = some n) (has : as.length = n) (hst : st = as.reverse ++ .ref q :: rest) : zJ l M pc S st M'.1 (.ref q :: as) rest := by
  refine ⟨⟨_, hd⟩, ?_⟩
  intro p e s m args below meth c D tc A hX R ad H locs cells slots lsM T hL hsz hT X
  have hpl : e.platform.magicAccessors = ({} : Platform).magicAccessors := by rw [X.admits.platform]
  have hlen : ∀ sig, parseMethodDescriptor M'.1.desc = some sig → (as.map (zc ad)).length = sig.parameters.length := fun sig h => by
    rw [h] at hn
    rw [List.length_map, has]
    exact (Option.some.inj hn).symm
  obtain ⟨mk, methM, cM, kP, vm₁, hnamed, hmethM, hcodeM, -, hlocalsM, -, hkP, -, hW₁, hstep₁⟩ := Steps.initColdArgsNest (e := e) (args := args) X.here hX.1 X.warmed hpl hX.own hi hne (hX.T.w hlink) (hX.T.w hin) (hX.T.w hcw) (f := F0 m pc lsM (st.map (zc ad))) rfl (a := ad q) (argsL := as.map (zc ad)) (rest := rest.map (zc ad)) hlen (by subst hst; simp [zc]) (by rw [hX.2.1]; exact hd)
  exact ⟨mk, vm₁, hnamed, hW₁, X.noted hW₁, hstep₁⟩
end ZC2
end
section
/-! cells that are made: arrays, objects; a constructor's call -/
def zok (n : Nat) : Value → Bool
  | .ref k => decide (k < n ∨ k = 999)
  | _ => true
def zokf (n : Nat) : Option (Option Nat) → Bool
  | some (some q) => decide (q < n)
  | _ => true
def zoks (n : Nat) : zs → Bool
  | .inl _ => true
  | .inr q => q.2.all (zokf n)
def zwf (L : List zs) (ls st : List Value) : Bool := decide (L.length < 999) && L.all (zoks L.length) && ls.all (zok L.length) && st.all (zok L.length)
def zN (σ : Nat → Nat → Int32) (n : Nat) : Nat → Nat → Int32 := fun k => if k = n then (fun _ => 0) else σ k
def zag (n : Nat) (ad ad' : Nat → Nat) : Prop := ∀ k, k < n ∨ k = 999 → ad' k = ad k
theorem zc_ag {n : Nat} {ad ad' : Nat → Nat} (h : zag n ad ad') {v : Value} (hv : zok n v = true) : zc ad' v = zc ad v := by
  cases v
  case ref k =>
    have hk : k < n ∨ k = 999 := by simpa [zok] using hv
    show Value.ref (ad' k) = Value.ref (ad k)
    rw [h k hk]
  all_goals rfl
theorem zce_ag {n : Nat} {ad ad' : Nat → Nat} (h : zag n ad ad') {tc : Nat → ClassId} {g : Nat → Int32} {z : zs} (hz : zoks n z = true) : zce tc ad' g z = zce tc ad g z := by
  cases z with
  | inl q => rfl
  | inr q =>
    obtain ⟨c, fs⟩ := q
    have hf : ∀ f ∈ fs, zokf n f = true := by simpa [zoks] using hz
    show (Sum.inr (c, _) : va_E) = Sum.inr (c, _)
    congr 2
    apply List.ext_getElem?
    intro i
    rw [List.getElem?_mapIdx, List.getElem?_mapIdx]
    cases hi : fs[i]? with
    | none => rfl
    | some f =>
      have h1 := hf f (List.mem_of_getElem? hi)
      cases f with
      | none => rfl
      | some f =>
        cases f with
        | none => rfl
        | some q =>
          have hq : q < n := by simpa [zokf] using h1
          show some (Value.ref (ad' q)) = some (Value.ref (ad q))
          rw [h q (Or.inl hq)]
theorem zwf_parts {L : List zs} {ls st : List Value} (h : zwf L ls st = true) : L.length < 999 ∧ (∀ z ∈ L, zoks L.length z = true) ∧ (∀ v ∈ ls, zok L.length v = true) ∧ ∀ v ∈ st, zok L.length v = true := by
  simpa [zwf, and_assoc] using h
theorem zw_ag {tc : Nat → ClassId} {ad ad' : Nat → Nat} {S : zS} (h : zag S.1.length ad ad') (hz : ∀ z ∈ S.1, zoks S.1.length z = true) : zw tc ad' S = zw tc ad S := by
  apply List.ext_getElem?
  intro i
  unfold zw
  rw [List.getElem?_mapIdx, List.getElem?_mapIdx]
  cases hi : S.1[i]? with
  | none => rfl
  | some z =>
    have hl := (List.getElem?_eq_some_iff.mp hi).1
    show some (ad' i, zce tc ad' (S.2 i) z) = some (ad i, zce tc ad (S.2 i) z)
    rw [h i (Or.inl hl), zce_ag h (hz z (List.mem_of_getElem? hi))]
theorem zw_push {tc : Nat → ClassId} {ad ad' : Nat → Nat} {S : zS} {z : zs} (h : zag S.1.length ad ad') (hz : ∀ z ∈ S.1, zoks S.1.length z = true) : zw tc ad' (S.1 ++ [z], zN S.2 S.1.length) = zw tc ad S ++ [(ad' S.1.length, zce tc ad' (fun _ => 0) z)] := by
  rw [← zw_ag (tc := tc) h hz]
  unfold zw
  show (S.1 ++ [z]).mapIdx _ = _
  rw [List.mapIdx_append]
  congr 1
  · apply List.ext_getElem?
    intro i
    rw [List.getElem?_mapIdx, List.getElem?_mapIdx]
    cases hi : S.1[i]? with
    | none => rfl
    | some w =>
      have hl := (List.getElem?_eq_some_iff.mp hi).1
      have : zN S.2 S.1.length i = S.2 i := by
        unfold zN
        rw [if_neg (by omega)]
      show some (ad' i, zce tc ad' (zN S.2 S.1.length i) w) = _
      rw [this]
      rfl
  · simp [zN]
theorem zloc.ag {lsM : Array Slot} {n k : Nat} {ad ad' : Nat → Nat} {ls : List Value} (h : zag k ad ad') (hv : ∀ v ∈ ls, zok k v = true) (hl : zloc lsM n ad ls) : zloc lsM n ad' ls := by
  refine ⟨hl.1, hl.2.1, fun i v hi hn => ?_⟩
  rw [zc_ag h (hv v (List.mem_of_getElem? hi))]
  exact hl.2.2 i v hi hn
theorem zmap_ag {n : Nat} {ad ad' : Nat → Nat} (h : zag n ad ad') {st : List Value} (hv : ∀ v ∈ st, zok n v = true) : st.map (zc ad') = st.map (zc ad) := List.map_congr_left fun v hm => zc_ag h (hv v hm)
/-- the end of a walk from a larger world is an end from the smaller -/
theorem zE.more {below : List Frame} {s : State} {D : va_G} {tc : Nat → ClassId} {A : Nat → Prop} {ad ad1 : Nat → Nat} {S S1 : zS} {r : zR} (h : zag S.1.length ad ad1) (hl : S.1.length < S1.1.length) {t : State} (hz : zE below s D tc A ad1 S1 r t) : zE below s D tc A ad S r t := by
  obtain ⟨o, h1, h2, ⟨ad', q1, q2, q3, q4⟩, h4⟩ := hz
  refine ⟨o, h1, h2, ⟨ad', fun k hk => ?_, fun e => ?_, by omega, q4⟩, h4⟩
  · rw [q1 k (hk.elim (fun g => Or.inl (by omega)) Or.inr), h k hk]
  · rw [e] at q3
    omega
theorem zL.scr {M : zM} {D : va_G} {tc : Nat → ClassId} {A : Nat → Prop} {ad ad1 : Nat → Nat} {s : State} {S S1 : zS} {H H1 : Heap} {locs locs1 : List Loc} (h : zL M D tc A ad s S H locs) (h9 : ad1 999 = ad 999) (hP : va_P D zcl (zw tc ad1 S1) H1) (hD : va_D A (zw tc ad1 S1)) (hS : va_S A s.heap H1 locs1) : zL M D tc A ad1 s S1 H1 locs1 := ⟨hP, hD, hS, by rw [h9]; exact h.2.2.2⟩
theorem zag_up (n : Nat) (ad : Nat → Nat) (q : Nat) (hn : n < 999) : zag n ad (va_up ad n q) := fun k hk => by
  unfold va_up
  rw [if_neg (by omega)]
theorem zup_self (n : Nat) (ad : Nat → Nat) (q : Nat) : va_up ad n q n = q := by simp [va_up]
section ZA
variable {l : Launch} {d : Nat} {M M' : zM} {pc : Nat} {ls st as rest : List Value} {S S' : zS} {cs : Nat × Nat} {r : zR}
theorem zr_newa {at0 : ArrayType} {t N : Nat} {n : Int32} (hd : decode M.2.1 pc = .ok (.newarray at0, 2)) (hty : newarray.typeOf at0 = zty t) (ht : t < 3) (hw : zI (.arrayClass (newarray.typeOf at0))) (hn : ¬ n < 0) (hN : n.toNatClampNeg = N) (hb : N ≤ 100000) (h1 : cs.1 + 1 ≤ r.2.2.1) (h2 : cs.2 + N ≤ r.2.2.2) (hwf : zwf S.1 ls st = true)
    (k : zW l d M (pc + 2) ls (.ref S.1.length :: st) (S.1 ++ [.inl (t, N)], zN S.2 S.1.length) (cs.1 + 1, cs.2 + N) r) : zW l d M pc ls (.int n :: st) S cs r := by
  intro p e s m args below meth c D tc A hX ad H locs lsM hL hls
  obtain ⟨w1, w2, w3, w4⟩ := zwf_parts hwf
  refine va_newa hX.1 hX.2.1 (hX.T.w hw) hty hX.K hL.1 hL.2.1 hL.2.2.1 hX.2.2.2.2.2.2.2.2.2.2.1 (a0 := (N, if t = 2 then .inr (.inl (fun _ => (0 : Int32).toInt64)) else .inl (fun _ => 0))) ?_ hn hN ?_ h1 h2 hd ?_
  · intro cA
    match t, ht with
    | 0, _ => rfl
    | 1, _ => rfl
    | 2, _ => rfl
  · match t, ht with
    | 0, _ => show N * 4 ≤ _; omega
    | 1, _ => show N * 1 ≤ _; omega
    | 2, _ => show N * 8 ≤ _; omega
  · intro q cA H1 hK1 hP hD hS1
    have hcA : cA = tc t := by
      have a1 := (hK1.2 3 (cA, zty t) rfl).2
      have a2 := (hX.K.2 t _ (zK_at tc t ht)).2
      match t, ht with
      | 0, _ => exact Option.some.inj (a1.symm.trans a2)
      | 1, _ => exact Option.some.inj (a1.symm.trans a2)
      | 2, _ => exact Option.some.inj (a1.symm.trans a2)
    subst hcA
    have hag := zag_up S.1.length ad q w1
    have e1 : zw tc ad S ++ [(q, .inl (tc t, N, if t = 2 then .inr (.inl (fun _ => (0 : Int32).toInt64)) else .inl (fun _ => 0)))] = zw tc (va_up ad S.1.length q) (S.1 ++ [.inl (t, N)], zN S.2 S.1.length) := by
      rw [zw_push hag w2, zup_self]
      rfl
    rw [e1] at hP hD
    have key := k p e s m args below meth c D tc A hX (va_up ad S.1.length q) H1 locs lsM (hL.scr (hag 999 (Or.inr rfl)) hP hD hS1) (hls.ag hag w3)
    refine W.imp (fun t0 h => zE.more (S1 := (S.1 ++ [.inl (t, N)], zN S.2 S.1.length)) hag (by simp) h) ?_
    have e2 : (Value.ref S.1.length :: st).map (zc (va_up ad S.1.length q)) = .ref q :: st.map (zc ad) := by
      rw [List.map_cons, zmap_ag hag w4]
      show Value.ref (va_up ad S.1.length q S.1.length) :: _ = _
      rw [zup_self]
    rw [e2] at key
    exact key
def zbl (b : Bool) : Option (Option Nat) := if b then some none else none
def zbv (b : Bool) : Value := if b then .null else .int 0
theorem zr_new {ci N index : Nat} {C : String} {T0 : u_T} {ty : Nat → FieldType} (bs : List Bool) (hd : decode M.2.1 pc = .ok (.new index, 3)) (hC : zC ci C T0 N ty) (hfs : ∀ j, j < N → defaultValue (ty j) = vp_V (bs.map zbv) j) (hlink : zI (.classLink M.1.cls index C)) (h1 : cs.1 + 1 ≤ r.2.2.1) (h2 : cs.2 + N ≤ r.2.2.2) (hwf : zwf S.1 ls st = true)
    (k : zW l d M (pc + 3) ls (.ref S.1.length :: st) (S.1 ++ [.inr (ci, bs.map zbl)], zN S.2 S.1.length) (cs.1 + 1, cs.2 + N) r) : zW l d M pc ls st S cs r := by
  intro p e s m args below meth c D tc A hX ad H locs lsM hL hls
  obtain ⟨w1, w2, w3, w4⟩ := zwf_parts hwf
  refine va_new hX.1 hX.2.1 (fun w h => hX.T.w (hC.2.1 w h)) (fun _ h => h) ty hC.2.2.1 hX.own (hX.T.w hlink) (hX.T.w hC.2.2.2.2.1) (hX.T.w hC.2.2.2.2.2) hX.K hL.1 hL.2.1 hL.2.2.1 hX.2.2.2.2.2.2.2.2.2.2.1 hC.1 hfs h1 h2 hd ?_
  intro q H1 hP hD hS1
  have hag := zag_up S.1.length ad q w1
  have e0 : (bs.map zbl).mapIdx (fun j f => zfv (va_up ad S.1.length q) (fun _ => 0) j f) = bs.map zbv := by
    apply List.ext_getElem?
    intro i
    rw [List.getElem?_mapIdx, List.getElem?_map, List.getElem?_map]
    cases bs[i]? with
    | none => rfl
    | some b => cases b <;> rfl
  have e1 : zw tc ad S ++ [(q, .inr (ci, bs.map zbv))] = zw tc (va_up ad S.1.length q) (S.1 ++ [.inr (ci, bs.map zbl)], zN S.2 S.1.length) := by
    rw [zw_push hag w2, zup_self, ← e0]
    rfl
  rw [e1] at hP hD
  have key := k p e s m args below meth c D tc A hX (va_up ad S.1.length q) H1 locs lsM (hL.scr (hag 999 (Or.inr rfl)) hP hD hS1) (hls.ag hag w3)
  refine W.imp (fun t0 h => zE.more (S1 := (S.1 ++ [.inr (ci, bs.map zbl)], zN S.2 S.1.length)) hag (by simp) h) ?_
  have e2 : (Value.ref S.1.length :: st).map (zc (va_up ad S.1.length q)) = .ref q :: st.map (zc ad) := by
    rw [List.map_cons, zmap_ag hag w4]
    show Value.ref (va_up ad S.1.length q S.1.length) :: _ = _
    rw [zup_self]
  rw [e2] at key
  exact key
theorem zr_obj {index q : Nat} (hd : decode M.2.1 pc = .ok (.invokespecial index, 3)) (hl : zI (.methodLink M.1.cls index Lib.objectInit)) (hi : zI (.instanceMethod Lib.objectInit)) (hc : zI (.code Lib.objectInit ⟨#[0xb1]⟩ 1 none)) (hre : st.length ≤ 4) (k : zW l (d + 1) M (pc + 3) ls st S cs r) : zW l (d + 1) M pc ls (.ref q :: st) S cs r := by
  intro p e s m args below meth c D tc A hX ad H locs lsM hL hls
  refine W.objInit hX.1 hX.2.1 hX.own (hX.T.w hl) (hX.T.w hi) (hX.T.w hc) (g := F0 m pc lsM ((Value.ref q :: st).map (zc ad))) rfl (by show lsM.size = _; rw [hls.1, hX.2.2.1]) (a := ad q) (rest := st.map (zc ad)) rfl hd (by show 1 ≤ d + 1; omega) ?_ ?_
  · show 2 * 0 + ((st.map (zc ad)).map fun v => v.category).sum + 12 ≤ 64 * (d + 1)
    have := zsum ad st
    omega
  · exact k p e s m args below meth c D tc A hX ad H locs lsM hL hls
/-- a call that returns nothing and makes cells that last -/
theorem zr_callA {mc ms : Nat} (hJ : zJ l M pc S st M'.1 as rest) (hM : zMet l d M' as S (.inl none, S', mc, ms)) (hcw : zI (zcw M')) (hini : zI (.initialized M'.1.cls)) (hml : M'.2.2.1 ≤ 45) (hre : rest.length ≤ 4) (hsh : S.1.length < S'.1.length ∨ S'.1.length = S.1.length) (hr : r.2.1.1 = S.1 → False) (h1 : cs.1 + mc ≤ r.2.2.1) (h2 : cs.2 + ms ≤ r.2.2.2) (hwf : zwf S.1 ls rest = true)
    (k : zW l (d + 1) M (pc + 3) ls rest S' (cs.1 + mc, cs.2 + ms) r) : zW l (d + 1) M pc ls st S cs r := by
  intro p e s m args below meth c D tc A hX ad H locs lsM hL hls T hT X
  obtain ⟨w1, w2, w3, w4⟩ := zwf_parts hwf
  obtain ⟨o, t, U, T', L, mk, hst, ⟨ad', q1, q2, q3, q4, q5, q6, q7⟩, hU, hW, hLA, e1, e2, X', ho, -⟩ := zcall1 (r := r) hJ hM hcw hini hml hre h1 h2 hX hL hls hT X
  have hag : zag S.1.length ad ad' := q1
  have ht := ho _ q4
  have hUc : (U.calling (F0 m pc lsM (rest.map (zc ad))) mk (as.map (zc ad)).toArray).heap = H := hU
  have hL1 : zL M D tc A ad' s S' T'.heap (locs ++ L) := hL.scr (hag 999 (Or.inr rfl)) (by rw [e1]; exact q5) q6 (zS_after hL hUc e1 q7 hLA)
  obtain ⟨t2, a1, b1⟩ := k p e s m args below meth c D tc A hX ad' T'.heap (locs ++ L) lsM hL1 (hls.ag hag w3) T' rfl X'
  refine ⟨t2, hst t2 ?_, ?_⟩
  · rw [ht]
    have e3 : (Option.map (zc ad') none).toList ++ rest.map (zc ad) = rest.map (zc ad') := by
      rw [zmap_ag hag w4]
      rfl
    rw [e3]
    exact a1
  · obtain ⟨o, g1, g2, ⟨ad2, p1, p2, p3, p4⟩, g4⟩ := b1
    refine ⟨o, g1, g2, ⟨ad2, fun k hk => ?_, fun e => (hr e).elim, by omega, p4⟩, g4⟩
    rw [p1 k (hk.elim (fun g => Or.inl (by omega)) Or.inr), hag k hk]
end ZA
end
section
/-! throwing -/
theorem zsame0 {s t : State} {k n : Nat} (h : s.sameButNew t [] k n) : s.heap.size ≤ t.heap.size ∧ ∀ q : Nat, q < s.heap.size → t.heap[q]? = s.heap[q]? := by
  obtain ⟨-, h2, -, -, -, h6⟩ := h
  refine ⟨h2, fun q hq => ?_⟩
  obtain ⟨c', e1, e2, -, e4⟩ := h6 q s.heap[q] (Array.getElem?_eq_getElem hq)
  have hsl : c'.slots = s.heap[q].slots := Array.ext_getElem? fun i => e4 i (fun hm => by cases hm)
  rw [e1, Array.getElem?_eq_getElem hq, e2, hsl]
section ZT1
variable {p : Program} {l : Launch} {e : Env} {R : Room} {s : State} {m : MethodId} {args : Array Value} {below : List Frame} {meth : Method} {c : Code} {T : State} {locs : List Loc} {cells slots : Nat}
/-- the same frame as if it had been called in the heap that stands now -/
theorem zfresh (X : Stand p l e R s m args below meth c T locs cells slots) {k n : Nat} (hk : cells + k ≤ R.cells) (hn : slots + n ≤ R.slots) :
    Stand p l e { frames := R.frames, locals := R.locals, cells := k, slots := n } ((T.setVm s.vm).setFrames (.invoking m args :: below)) m args below meth c T [] 0 0 := by
  have hcur : (T.setVm s.vm).cur < (T.setVm s.vm).threads.size := State.cur_lt_of_top (s := T.setVm s.vm) X.here.top
  have hF : ((T.setVm s.vm).setFrames (.invoking m args :: below)).frames = .invoking m args :: below := State.frames_setFrames _ hcur
  obtain ⟨g₀, hg0⟩ := Option.isSome_iff_exists.mp (show (T.setVm s.vm).topJava?.isSome from X.here.top)
  obtain ⟨rr, hr⟩ := State.topJava?_eq_some.mp hg0
  have hlim : e.platform.stackLimits (T.setVm s.vm).me = e.platform.stackLimits s.me := X.limits
  have hbyt : (T.setVm s.vm).me.stackBytes = s.me.stackBytes := X.bytes
  have hroom := X.room
  have hh := X.heapSize
  have hu := X.used
  have hbook := X.book
  have hinuse : ((T.setVm s.vm).setFrames (.invoking m args :: below)).localsInUse = s.localsInUse := by
    rw [State.localsInUse_invoking hF (meth := meth) (c := c) X.method X.code, State.localsInUse_invoking X.frames X.method X.code]
  refine { admits := X.admits, cas := X.cas, clock := X.clock, frames := hF, room := ?_, hears := X.hears, method := X.method, code := X.code, here := X.here, tail := X.tail, warmed := X.warmed, limits := ?_, bytes := ?_, same := ?_ }
  · simp only [State.hasRoom, Bool.and_eq_true, decide_eq_true_eq] at hroom ⊢
    obtain ⟨⟨⟨⟨r1, r2, r3, r4, r5, r6⟩, r7⟩, r8⟩, -⟩ := hroom
    rw [X.frames] at r2 r3
    rw [hF, hinuse, State.stackLimits_setFrames, State.stackBytes_setFrames, hlim, hbyt]
    exact ⟨⟨⟨⟨r1, r2, r3, r4, r5, r6⟩, show T.heap.size + k ≤ _ by omega⟩, show T.slotsUsed + n ≤ _ by omega⟩, hbook⟩
  · rw [State.stackLimits_setFrames]
    rfl
  · rw [State.stackBytes_setFrames]
    rfl
  · have hdrop : T.heap.toList.drop T.heap.size = [] := List.drop_eq_nil_of_le (Nat.le_of_eq Array.length_toList)
    refine ⟨?_, Nat.le_refl _, Nat.le_refl _, ?_, ?_, fun a c9 h9 => ⟨c9, h9, rfl, rfl, fun _ _ => rfl⟩⟩
    · obtain ⟨th, hth, -⟩ := State.frames_cons hr
      show T.setVm s.vm = { ((T.setVm s.vm).setFrames (.invoking m args :: below)).setFrames (T.setVm s.vm).frames with heap := T.heap, slotsUsed := T.slotsUsed }
      rw [State.setFrames_setFrames, State.setFrames_self hth]
      rfl
    · show T.slotsUsed = T.slotsUsed + ((T.heap.toList.drop T.heap.size).map (·.slots.size)).sum
      rw [hdrop]
      rfl
    · show ((T.heap.toList.drop T.heap.size).map (·.slots.size)).sum ≤ 0
      rw [hdrop]
      exact Nat.le_refl _
end ZT1
theorem zsl_isRef {n d : String} {A : Nat → Prop} {s : State} {args : Array Value} (h : zsl n d A s s.heap) : (Cond.isRef (.static tN9 n d)).before args s = true := by
  obtain ⟨c, k, i, f, a, cell, v, h1, h2, h3, h4, h5, h6, h7, h8, h9, h10, h11, h12⟩ := h
  have he : (Term.static tN9 n d).eval args s none [] s = some v := by simp [Term.eval, State.fieldNamed?, h2, h3, h4, h5, h6, h10]
  simp only [Cond.before, Cond.holds, Cond.value, he]
  cases v <;> simp_all [Value.isRef]
theorem zsl_lays {n d : String} {A : Nat → Prop} {s : State} {args : Array Value} (h : zsl n d A s s.heap) : (Cond.laysStatic tN9 n d).before args s = true := by
  obtain ⟨c, k, i, f, a, cell, v, h1, h2, h3, h4, h5, h6, h7, h8, h9, h10, h11, h12⟩ := h
  show (Cond.laysStatic tN9 n d).holds args s none s [] = true
  exact Cond.laysStatic_of h1 h2 h3 h4 h5 h6 h7 h8 h9
def zhw : List Cond := [.isRef (.static tN9 "UNASSIGNED_STACK" steD9), .isRef (.static tN9 "SUPPRESSED_SENTINEL" listD9), .laysStatic tN9 "UNASSIGNED_STACK" steD9, .laysStatic tN9 "SUPPRESSED_SENTINEL" listD9]
def zch : List String := ["java/lang/RuntimeException", "java/lang/Exception"]
/-- the words of 'throw new E(text)' out of LeagueRounds: E's link, its constructor's -/
def zAt (ik ic : Nat) (E : String) : Prop := (∀ w ∈ Bundle.ownAtoms "LeagueRounds" ic E zch, w ∈ zhw ∨ zI w) ∧ zI (.classLink "LeagueRounds" ik E) ∧ zI (.initialized E) ∧ Bundle.fit E = true
theorem zT.at {A : Nat → Prop} {s : State} (h : zT A s) {ik ic : Nat} {E : String} (ha : zAt ik ic E) {args : Array Value} : ∀ w ∈ Bundle.ownAtoms "LeagueRounds" ic E zch, w.before args s = true := by
  intro w hw
  rcases ha.1 w hw with h1 | h1
  · simp only [zhw, List.mem_cons, List.not_mem_nil, or_false] at h1
    rcases h1 with rfl | rfl | rfl | rfl
    · exact zsl_isRef h.2.2.2.1
    · exact zsl_isRef h.2.2.2.2
    · exact zsl_lays h.2.2.2.1
    · exact zsl_lays h.2.2.2.2
  · exact h.w h1
section ZT2
variable {l : Launch} {d : Nat} {M : zM} {pc : Nat} {ls st : List Value} {S : zS} {cs : Nat × Nat}
/-- what is thrown leaves the method: the end, from what the library's row says -/
theorem zthrown {p : Program} {e : Env} {s : State} {m : MethodId} {args : Array Value} {below : List Frame} {meth : Method} {c : Code} {D : va_G} {tc : Nat → ClassId} {A : Nat → Prop} (hX : zX l p s m meth c M D tc A) {ad : Nat → Nat} {H : Heap} {locs : List Loc} (hL : zL M D tc A ad s S H locs) {R : Room} {T U : State} {E : String} {q mc ms : Nat} {ce : Cell}
    (hT : T.heap = H) (X : Stand p l e R s m args below meth c T locs cs.1 cs.2) (h1 : cs.1 + 1 ≤ mc) (h2 : cs.2 + 6 ≤ ms) (hrun : U.status = .running) (hend : Ended U below (.threw q)) (hW : s.WarmedH U.vm) (hsame : ((T.setVm s.vm).setFrames (.invoking m args :: below)).sameButNew ({ U with vm := s.vm } : State) [] 1 6) (hce : U.heap[q]? = some ce) (hv : ce.vm = .none) (hcl : s.vm.findClass E = some ce.cls) :
    zE below s D tc A ad S (.inr E, S, mc, ms) U := by
  obtain ⟨f1, f2⟩ := zsame0 hsame
  have f1' : H.size ≤ U.heap.size := by rw [← hT]; exact f1
  have f2' : ∀ z : Nat, z < H.size → U.heap[z]? = H[z]? := fun z hz => by rw [← hT]; exact f2 z (by show z < T.heap.size; rw [hT]; exact hz)
  have hall : s.sameButNew ({ U with vm := s.vm } : State) locs mc ms := by
    obtain ⟨e1, e2⟩ := hsame
    rw [State.setFrames_setFrames] at e1
    have h3 := X.same.trans (show (T.setVm s.vm).sameButNew ({ U with vm := s.vm } : State) [] 1 6 from ⟨e1, e2⟩)
    rw [List.append_nil] at h3
    exact h3.mono h1 h2
  refine ⟨.threw q, hrun, hend, ⟨ad, fun _ _ => rfl, fun _ => rfl, Nat.le_refl _, ⟨q, ce, rfl, hce, hv, ?_⟩, hL.1.kept (fun k x hx => f2' x.1 (hL.1 k x hx).lt), hL.2.1, ?_⟩, hW, locs, hall, hL.2.2.1.2.2⟩
  · rw [hW.alike.findClass]
    exact hcl
  · exact ⟨Nat.le_trans hL.2.2.1.1 f1', fun z g1 g2 => (f2' z (Nat.lt_of_lt_of_le g1 hL.2.2.1.1)).trans (hL.2.2.1.2.1 z g1 g2)⟩
theorem zthrow0 {ik ic is len : Nat} {E text : String} {il : Instr} (hown : M.1.cls = "LeagueRounds") (hat : zAt ik ic E) (hsr : (is, text) ∈ zSR) (d0 : decode M.2.1 pc = .ok (.new ik, 3)) (d3 : decode M.2.1 (pc + 3) = .ok (.dup, 1))
    (d6 : decode M.2.1 (pc + 4 + len) = .ok (.invokespecial ic, 3)) (d9 : decode M.2.1 (pc + 4 + len + 3) = .ok (.athrow, 1)) (hh : M.2.2.2.2.1 = []) (hre : st.length ≤ 4) {mc ms : Nat} (h1 : cs.1 + 1 ≤ mc) (h2 : cs.2 + 6 ≤ ms)
    (hldc : ∀ {p : Program} {e : Env} {R : Room} {s : State} {m : MethodId} {args : Array Value} {below : List Frame} {meth : Method} {c : Code} {T : State} {locs : List Loc} {cells slots : Nat} {a : Nat} {lsM : Array Slot} {stM : List Value}, Stand p l e R s m args below meth c T locs cells slots → p.tables.exec = Jvm.exec → c.code = M.2.1 → s.vm.findClass "LeagueRounds" = some m.cls → vk_R "LeagueRounds" is text a s →
      ∀ target, Steps p.tables e below (T.setTop (F0 m (pc + 4 + len) lsM (.ref a :: stM))) target → Steps p.tables e below (T.setTop (F0 m (pc + 4) lsM stM)) target) :
    zW l (d + 6) M pc ls st S cs (.inr E, S, mc, ms) := by
  intro p e s m args below meth c D tc A hX ad H locs lsM hL hls T hT X
  have htr : e.platform.stackTraces = false := (show e.platform.stackTraces = l.stackTraces by rw [X.admits.platform]).trans hX.2.2.2.2.2.2.2.2.2.2.2
  have Y := zfresh X (k := 1) (n := 6) h1 h2
  have hW0 : s.WarmedH ((T.setVm s.vm).setFrames (.invoking m args :: below)).vm := State.WarmedH.refl s
  have hT' : zT A ((T.setVm s.vm).setFrames (.invoking m args :: below)) := hX.T.warm hW0 (fun q g1 g2 => by
    show T.heap[q]? = _
    rw [hT]
    exact hL.2.2.1.2.1 q g1 g2)
  have hown' : ((T.setVm s.vm).setFrames (.invoking m args :: below)).vm.findClass "LeagueRounds" = some m.cls := by rw [← hown]; exact hX.own
  have hins : (Cond.instantiable E 6).before args ((T.setVm s.vm).setFrames (.invoking m args :: below)) = true := hT'.at hat _ (by simp [Bundle.ownAtoms])
  obtain ⟨vm₁, cX, kX, hfX, hkX, -, -, X₁, st1⟩ := Y.newCold hX.1 (own := "LeagueRounds") (C := E) (index := ik) (n := 6) hown' (hT'.w hat.2.1) hins (hT'.w hat.2.2.1)
    (g := F0 m pc lsM (st.map (zc ad))) rfl (by rw [hX.2.1]; exact d0) (Nat.le_refl _) (Nat.le_refl _)
  have hcellA : ((T.setVm vm₁).pushCell { cls := cX, slots := kX.instanceTypes.map defaultValue, vm := .none }).heap[T.heap.size]? = some (freshCell cX kX) := State.heap_pushCell_size _ _
  obtain ⟨sa, hsa⟩ := hT'.2.2.1 _ hsr
  have hhe : ((T.setVm s.vm).setFrames (.invoking m args :: below)).heap = T.heap := rfl
  obtain ⟨U, hsteps, hrun, hend, hW, hsame, ce, hce, hO⟩ := X₁.ctorThrowS hX.1 htr (own := "LeagueRounds") (cls := E) (names := zch) (ic := ic) hown' hat.2.2.2 (by decide) (hT'.at hat) (fun x hx => nomatch hx) hfX hkX hcellA (by rw [hhe]; exact Nat.le_refl _) (msg := .ref sa) rfl
    (g := F0 m (pc + 4 + len) lsM (.ref sa :: .ref T.heap.size :: .ref T.heap.size :: st.map (zc ad))) rfl (by show lsM.size = _; rw [hls.1, hX.2.2.1]) rfl rfl (rest := st.map (zc ad)) rfl
    (by rw [hX.2.1]; exact d6) (by rw [hX.2.1]; exact d9) (fun x hx => by rw [hX.2.2.2.2.2.2.2.1, hh] at hx; cases hx) (by show 2 + 3 < d + 6; omega)
    (by
      show 2 * 0 + (1 + ((st.map (zc ad)).map fun v => v.category).sum) + (13 * (2 + 1) + 42) ≤ 64 * (d + 6)
      have := zsum ad st
      omega) hX.2.2.2.2.1
  refine ⟨U, ?_, zthrown hX hL hT X h1 h2 hrun hend (State.WarmedH.trans hW0 hW) hsame hce hO.vm hO.cls⟩
  refine st1 _ ?_
  have d3' : decode c.code (pc + 3) = .ok (.dup, 1) := by rw [hX.2.1]; exact d3
  have hx := hX.1
  generalize ((T.setVm vm₁).pushCell { cls := cX, slots := kX.instanceTypes.map defaultValue, vm := .none }) = T1 at X₁ hsteps ⊢
  show Steps p.tables e below (T1.setTop (F0 m (pc + 3) lsM (.ref T.heap.size :: st.map (zc ad)))) _
  jvm_step X₁.here [X₁.here.top, hx, d3', Value.category]
  exact hldc X₁ hX.1 hX.2.1 hown' hsa _ hsteps
/-- 'throw new E(text)' -/
theorem zr_throw {ik ic is : Nat} {E text : String} (hown : M.1.cls = "LeagueRounds") (hat : zAt ik ic E) (hsr : (is, text) ∈ zSR) (d0 : decode M.2.1 pc = .ok (.new ik, 3)) (d3 : decode M.2.1 (pc + 3) = .ok (.dup, 1)) (d4 : decode M.2.1 (pc + 4) = .ok (.ldc is, 2))
    (d6 : decode M.2.1 (pc + 6) = .ok (.invokespecial ic, 3)) (d9 : decode M.2.1 (pc + 9) = .ok (.athrow, 1)) (hh : M.2.2.2.2.1 = []) (hre : st.length ≤ 4) {mc ms : Nat} (h1 : cs.1 + 1 ≤ mc) (h2 : cs.2 + 6 ≤ ms) : zW l (d + 6) M pc ls st S cs (.inr E, S, mc, ms) :=
  zthrow0 (il := .ldc is) (len := 2) hown hat hsr d0 d3 d6 d9 hh hre h1 h2 (fun X hx hb ho hs target h => X.ldcString hx ho hs.1 hs.2 (g := F0 _ (pc + 4) _ _) rfl (by rw [hb]; exact d4) target h)
theorem zr_throwW {ik ic is : Nat} {E text : String} (hown : M.1.cls = "LeagueRounds") (hat : zAt ik ic E) (hsr : (is, text) ∈ zSR) (d0 : decode M.2.1 pc = .ok (.new ik, 3)) (d3 : decode M.2.1 (pc + 3) = .ok (.dup, 1)) (d4 : decode M.2.1 (pc + 4) = .ok (.ldc_w is, 3))
    (d7 : decode M.2.1 (pc + 7) = .ok (.invokespecial ic, 3)) (d10 : decode M.2.1 (pc + 10) = .ok (.athrow, 1)) (hh : M.2.2.2.2.1 = []) (hre : st.length ≤ 4) {mc ms : Nat} (h1 : cs.1 + 1 ≤ mc) (h2 : cs.2 + 6 ≤ ms) : zW l (d + 6) M pc ls st S cs (.inr E, S, mc, ms) :=
  zthrow0 (il := .ldc_w is) (len := 3) hown hat hsr d0 d3 d7 d10 hh hre h1 h2 (fun X hx hb ho hs target h => X.ldcStringW hx ho hs.1 hs.2 (g := F0 _ (pc + 4) _ _) rfl (by rw [hb]; exact d4) target h)
end ZT2
end
section
/-! what is thrown goes through, or is caught by name -/
section ZH1
variable {l : Launch} {d : Nat} {M M' : zM} {pc : Nat} {ls st as rest : List Value} {S S' : zS} {cs : Nat × Nat} {E : String} {mc' ms' mc ms : Nat}
/-- the callee throws, and this method has no handlers -/
theorem zr_callX (hJ : zJ l M pc S st M'.1 as rest) (hM : zMet l d M' as S (.inr E, S', mc', ms')) (hcw : zI (zcw M')) (hini : zI (.initialized M'.1.cls)) (hml : M'.2.2.1 ≤ 45) (hre : rest.length ≤ 4) (hsh : S'.1 = S.1) (hh : M.2.2.2.2.1 = []) (h1 : cs.1 + mc' ≤ mc) (h2 : cs.2 + ms' ≤ ms) :
    zW l (d + 1) M pc ls st S cs (.inr E, S', mc, ms) := by
  intro p e s m args below meth c D tc A hX ad H locs lsM hL hls T hT X
  obtain ⟨o, t, U, T', L, mk, hst, ⟨ad', q1, q2, q3, ⟨q, ce, q4, b1, b2, b3⟩, q5, q6, q7⟩, hU, hW, hLA, e1, e2, X', -, ho⟩ := zcall1 (r := (.inr E, S', mc, ms)) hJ hM hcw hini hml hre h1 h2 hX hL hls hT X
  have had : ad' = ad := q2 hsh
  subst had
  have ht := ho _ q4
  have hUc : (U.calling (F0 m pc lsM (rest.map (zc ad'))) mk (as.map (zc ad')).toArray).heap = H := hU
  have hS1 := zS_after hL hUc e1 q7 hLA
  obtain ⟨st1, hrun, hend, hWt, hsm⟩ := X'.leaveThrown q (g := F0 m pc lsM (rest.map (zc ad'))) rfl rfl rfl (fun x hx => by rw [hX.2.2.2.2.2.2.2.1, hh] at hx; cases hx) hX.2.2.2.2.1
  have hhp : (T'.setFrames (.throwing q :: below)).heap = t.heap := e1
  have hvm : (T'.setFrames (.throwing q :: below)).vm = t.vm := e2
  refine ⟨_, hst _ (by rw [ht]; exact st1), .threw q, hrun, hend, ⟨ad', q1, q2, q3, ⟨q, ce, rfl, by rw [hhp]; exact b1, b2, by rw [hvm]; exact b3⟩, by rw [hhp]; exact q5, q6, ?_⟩, hWt, locs ++ L, hsm.mono h1 h2, hS1.2.2⟩
  rw [e1] at hS1
  exact ⟨by rw [hhp]; exact hS1.1, fun z g1 g2 => by rw [hhp]; exact hS1.2.1 z g1 g2⟩
end ZH1
section ZH2
variable {e : Env} {f : JFrame} {a : Addr} {cell : Cell}
/-- one row of the table that covers the place and names a class, resolved or not -/
theorem zseek1 {s : State} {x : ExceptionTableEntry} {t : List ExceptionTableEntry} {c : ClassId} {Q : Handler → Pre} {E : CtlPost} {d : Bool} {acts : List Action} (hx : covers x f.pc = true) (h0 : x.catchType ≠ 0) (hl : s.vm.ClassLinks e.platform f.method.cls x.catchType c)
    (hcell : s.heap[a]? = some cell) (hobj : ∀ k, cell.vm ≠ .statics k) {k1 k2 : Class} (hk1 : s.vm.classes[cell.cls]? = some k1) (hk2 : s.vm.classes[c]? = some k2) (b : Bool) (hb : s.vm.assignable cell.cls c = b) :
    wp (findHandler.go f a (x :: t)) Q E e d acts s ↔ (if b then Q (.found x.handlerPc) d acts (s.setVm (s.vm.noted f.method.cls x.catchType (.cls c))) else wp (findHandler.go f a t) Q E e d acts (s.setVm (s.vm.noted f.method.cls x.catchType (.cls c)))) := by
  have hcov : (decide (x.startPc ≤ f.pc) && decide (f.pc < x.endPc)) = true := by simpa only [covers] using hx
  obtain ⟨ha, ht⟩ := (resolveClass_links e.toSetting hl).op (op := VmOp.resolveClass f.method.cls x.catchType) rfl
  have hal : s.vm.Alike (s.vm.noted f.method.cls x.catchType (.cls c)) := (Vm.Alike.refl s.vm).noted _ _ _
  obtain ⟨k1', hk1', -⟩ := hal.2.2 _ _ hk1
  obtain ⟨k2', hk2', -⟩ := hal.2.2 _ _ hk2
  have hb' : (s.vm.noted f.method.cls x.catchType (.cls c)).assignable cell.cls c = b := by rw [hal.assignable]; exact hb
  cases b <;> simp [findHandler.go, hcov, h0, ha, ht, hcell, hobj, hk1', hk2', hb', VmOp.dirties, VmOp.acts]
/-- a row: it covers the place, and links to a class to which the thrown object's can, or can not, be assigned -/
def zrow (s₀ : State) (pl : Platform) (dc : ClassId) (pc : Nat) (cls : ClassId) (b : Bool) (x : ExceptionTableEntry) : Prop := covers x pc = true ∧ x.catchType ≠ 0 ∧ ∃ c, s₀.vm.ClassLinks pl dc x.catchType c ∧ s₀.vm.assignable cls c = b
theorem zseek {s₀ : State} (hobj : ∀ k, cell.vm ≠ .statics k) {k0 : Class} (hk0 : s₀.vm.classes[cell.cls]? = some k0) {x : ExceptionTableEntry} (rest : List ExceptionTableEntry) (hx : zrow s₀ e.platform f.method.cls f.pc cell.cls true x) :
    ∀ (pre : List ExceptionTableEntry) (s : State), s₀.WarmedH s.vm → s.heap[a]? = some cell → (∀ y ∈ pre, zrow s₀ e.platform f.method.cls f.pc cell.cls false y) →
      ∃ vm', s₀.WarmedH vm' ∧ ∀ (Q : Handler → Pre) (E : CtlPost) (d : Bool) (acts : List Action), wp (findHandler.go f a (pre ++ x :: rest)) Q E e d acts s ↔ Q (.found x.handlerPc) d acts (s.setVm vm') := by
  have one : ∀ (y : ExceptionTableEntry) (b : Bool) (s : State), zrow s₀ e.platform f.method.cls f.pc cell.cls b y → s₀.WarmedH s.vm → s.heap[a]? = some cell → ∃ vm', s₀.WarmedH vm' ∧
      ∀ (t : List ExceptionTableEntry) (Q : Handler → Pre) (E : CtlPost) (d : Bool) (acts : List Action), wp (findHandler.go f a (y :: t)) Q E e d acts s ↔ (if b then Q (.found y.handlerPc) d acts (s.setVm vm') else wp (findHandler.go f a t) Q E e d acts (s.setVm vm')) := by
    intro y b s hy hW hcell
    obtain ⟨h1, h2, c, hl, hb⟩ := hy
    obtain ⟨dk, _, _, kt, hd, _, _, _, _, hkt, _, hopen⟩ := hl.here
    obtain ⟨k0', hk0', -⟩ := hW.alike.2.2 _ _ hk0
    obtain ⟨kt', hkt', -⟩ := hW.alike.2.2 _ _ hkt
    exact ⟨_, hW.noted hd hopen (State.rightAt_cls hl), fun t Q E d acts => zseek1 h1 h2 (hW.classLinks hl) hcell hobj hk0' hkt' b (by rw [hW.alike.assignable]; exact hb)⟩
  intro pre
  induction pre with
  | nil =>
    intro s hW hcell _
    obtain ⟨vm', hW', h⟩ := one x true s hx hW hcell
    exact ⟨vm', hW', fun Q E d acts => by rw [List.nil_append]; exact (h rest Q E d acts).trans (by simp)⟩
  | cons y ys ih =>
    intro s hW hcell hp
    obtain ⟨vm1, hW1, h1⟩ := one y false s (hp y List.mem_cons_self) hW hcell
    obtain ⟨vm2, hW2, h2⟩ := ih (s.setVm vm1) hW1 hcell (fun z hz => hp z (List.mem_cons_of_mem _ hz))
    exact ⟨vm2, hW2, fun Q E d acts => by rw [List.cons_append]; exact ((h1 (ys ++ x :: rest) Q E d acts).trans (by simp)).trans (h2 Q E d acts)⟩
end ZH2
section ZH3
variable {p : Program} {l : Launch} {e : Env} {R : Room} {s : State} {m : MethodId} {args : Array Value} {below : List Frame} {meth : Method} {c : Code} {T : State} {locs : List Loc} {cells slots : Nat}
/-- caught: the walk goes on at the handler -/
theorem zcaught (X : Stand p l e R s m args below meth c T locs cells slots) {q : Addr} {g : JFrame} (hg : g.method = m) {cell : Cell} (hcell : T.heap[q]? = some cell) (hobj : ∀ k, cell.vm ≠ .statics k) {k0 : Class} (hk0 : s.vm.classes[cell.cls]? = some k0)
    (pre : List ExceptionTableEntry) (x : ExceptionTableEntry) (rest : List ExceptionTableEntry) (hsplit : c.exceptionTable.toList = pre ++ x :: rest) (hp : ∀ y ∈ pre, zrow s e.platform m.cls g.pc cell.cls false y) (hx : zrow s e.platform m.cls g.pc cell.cls true x) :
    ∃ vm', Stand p l e R s m args below meth c (T.setVm vm') locs cells slots ∧ ∀ target, Steps p.tables e below ((T.setVm vm').setTop { g with pc := x.handlerPc, stack := [.ref q] }) target → Steps p.tables e below ((T.setTop g).pushFrame (.throwing q)) target := by
  subst hg
  have hv : ((T.setTop g).pushFrame (.throwing q)).vm = T.vm := throwing_vm T g q
  have hh : ((T.setTop g).pushFrame (.throwing q)).heap = T.heap := throwing_heap T g q
  obtain ⟨vm', hW', hgo⟩ := zseek (e := e) (f := g) (a := q) (s₀ := s) hobj hk0 rest hx pre ((T.setTop g).pushFrame (.throwing q)) (by rw [hv]; exact X.warmed) (by rw [hh]; exact hcell) hp
  refine ⟨vm', X.noted hW', fun target hrest => ?_⟩
  have hfind : ∀ (Q : Handler → Pre) (E : CtlPost) (d : Bool) (acts : List Action), wp (findHandler g q) Q E e d acts ((T.setTop g).pushFrame (.throwing q)) ↔ Q (.found x.handlerPc) d acts (((T.setTop g).pushFrame (.throwing q)).setVm vm') := fun Q E d acts => by
    rw [W.findHandler_eq (meth := meth) (code := c) (by rw [hv]; exact X.method') X.code, hsplit]
    exact hgo Q E d acts
  have hstep : ∀ r : List Frame, (stepThrowing e ((T.setTop g).pushFrame (.throwing q)) q (.java g :: r)).Is ((((T.setTop g).pushFrame (.throwing q)).setVm vm').setFrames (.java { g with pc := x.handlerPc, stack := [.ref q] } :: r)) [] := by
    intro r
    simp only [stepThrowing, searchFrame, vmDo]
    generalize hr : Sem.go _ e false [] ((T.setTop g).pushFrame (.throwing q)) = res
    obtain ⟨as, rfl, ha⟩ := Sem.eq_ok_of hr (a := Handler.found x.handlerPc) (s' := ((T.setTop g).pushFrame (.throwing q)).setVm vm') (acts' := []) (by simp [hfind _ _ _ _])
    exact ⟨rfl, ha⟩
  obtain ⟨hgo1, hw1⟩ := X.here.throwing q
  refine Steps.head hgo1 hw1 ?_
  obtain ⟨g₀, hg0⟩ := Option.isSome_iff_exists.mp X.here.top
  obtain ⟨r, hr⟩ := State.topJava?_eq_some.mp hg0
  rw [stepThread_throwing (frames_entered X.here.top _), (hstep _).1]
  have hr' : (T.setVm vm').frames = .java g₀ :: r := hr
  rw [State.setTop_of_frames _ hr'] at hrest
  have e1 : ∀ (u : State) (F G : List Frame), ((u.setFrames F).setVm vm').setFrames G = (u.setVm vm').setFrames G := fun u F G => by
    have : (u.setFrames F).setVm vm' = (u.setVm vm').setFrames F := rfl
    rw [this, State.setFrames_setFrames]
  rw [hr, List.tail_cons, State.pushFrame, e1, State.setTop_of_frames _ hr, e1]
  exact hrest
end ZH3
section ZH4
variable {l : Launch} {d : Nat} {M M' : zM} {pc : Nat} {ls st as rest : List Value} {S S' : zS} {cs : Nat × Nat} {E : String} {mc' ms' mc ms : Nat}
/-- the callee throws E, the row for E catches it, and the handler gives back n: 'catch (E e) { return n; }' -/
theorem zr_callC {pre suf : List (Nat × Nat × Nat × Nat)} {x : Nat × Nat × Nat × Nat} {n : Int} (hJ : zJ l M pc S st M'.1 as rest) (hM : zMet l d M' as S (.inr E, S', mc', ms')) (hcw : zI (zcw M')) (hini : zI (.initialized M'.1.cls)) (hml : M'.2.2.1 ≤ 45) (hre : rest.length ≤ 4) (hsh : S'.1 = S.1)
    (hh : M.2.2.2.2.1 = pre ++ x :: suf) (hpre : ∀ y ∈ pre, (y.1 ≤ pc ∧ pc < y.2.1) ∧ y.2.2.2 ≠ 0 ∧ ∃ N, zI (.classLink M.1.cls y.2.2.2 N) ∧ (E, N) ∈ zNC) (hx : (x.1 ≤ pc ∧ pc < x.2.1) ∧ x.2.2.2 ≠ 0 ∧ zI (.classLink M.1.cls x.2.2.2 E)) (hcast : zI (.castable E E)) (h1 : cs.1 + mc' ≤ mc) (h2 : cs.2 + ms' ≤ ms)
    {k la : Nat} (hk : k < M.2.2.1) (hast : ∀ {p : Program} {e : Env} {R : Room} {s : State} {m : MethodId} {args : Array Value} {below : List Frame} {meth : Method} {c : Code} {H : Heap} {locs : List Loc} {cells slots : Nat} {Q : State → Prop} {lsM : Array Slot} {q : Nat} {lv : List (Nat × Value)}, p.tables.exec = Jvm.exec → c.code = M.2.1 → lv_has lsM M.2.2.1 lv →
      (∀ ls' : Array Slot, W p l e R s m args below meth c H locs cells slots Q (F0 m (x.2.2.1 + la) ls' [])) → W p l e R s m args below meth c H locs cells slots Q (F0 m x.2.2.1 lsM [.ref q]))
    (d1 : decode M.2.1 (x.2.2.1 + la) = .ok (.iconst n, 1)) (d2 : decode M.2.1 (x.2.2.1 + la + 1) = .ok (.ireturn, 1)) (hr : M.2.2.2.1 = some .int) : zW l (d + 1) M pc ls st S cs (.inl (some (.int (Int32.ofInt n))), S', mc, ms) := by
  intro p e s m args below meth c D tc A hX ad H locs lsM hL hls T hT X
  obtain ⟨o, t, U, T', L, mk, hst, ⟨ad', q1, q2, q3, ⟨q, ce, q4, b1, b2, b3⟩, q5, q6, q7⟩, hU, hW, hLA, e1, e2, X', -, ho⟩ := zcall1 (r := (.inl (some (.int (Int32.ofInt n))), S', mc, ms)) hJ hM hcw hini hml hre h1 h2 hX hL hls hT X
  have had : ad' = ad := q2 hsh
  subst had
  have ht := ho _ q4
  have hUc : (U.calling (F0 m pc lsM (rest.map (zc ad'))) mk (as.map (zc ad')).toArray).heap = H := hU
  have hS1 := zS_after hL hUc e1 q7 hLA
  have hpl : e.platform.magicAccessors = ({} : Platform).magicAccessors := by rw [X.admits.platform]
  have hcl : s.vm.findClass E = some ce.cls := by rw [hW.alike.findClass] at b3; exact b3
  obtain ⟨k0, hk0, -⟩ := Vm.findClass_spec hcl
  have htab : c.exceptionTable.toList = tableOf pre ++ (⟨x.1, x.2.1, x.2.2.1, x.2.2.2⟩ : ExceptionTableEntry) :: tableOf suf := by
    rw [hX.2.2.2.2.2.2.2.1, hh]
    simp [tableOf]
  have hrx : zrow s e.platform m.cls pc ce.cls true (⟨x.1, x.2.1, x.2.2.1, x.2.2.2⟩ : ExceptionTableEntry) := by
    obtain ⟨g1, g2, g3⟩ := hx
    obtain ⟨c5, hc5, hcl5⟩ := Cond.classLink_spec hX.own (hX.T.w g3 (a := args)) e.platform hpl
    obtain ⟨c3, c4, hc3, hc4, hasg⟩ := Cond.castable_spec (hX.T.w hcast (a := args))
    cases Option.some.inj (hc3.symm.trans hcl)
    cases Option.some.inj (hc4.symm.trans hc5)
    exact ⟨by simpa [covers] using g1, g2, _, hcl5, hasg⟩
  have hrp : ∀ y ∈ tableOf pre, zrow s e.platform m.cls pc ce.cls false y := by
    intro y hy
    obtain ⟨z, hz, rfl⟩ := List.mem_map.mp hy
    obtain ⟨g1, g2, N, g3, g4⟩ := hpre z hz
    obtain ⟨c5, hc5, hcl5⟩ := Cond.classLink_spec hX.own (hX.T.w g3 (a := args)) e.platform hpl
    obtain ⟨a8, b8, w1, w2, w3⟩ := hX.T.2.1 (E, N) g4
    cases Option.some.inj (w1.symm.trans hcl)
    cases Option.some.inj (w2.symm.trans hc5)
    exact ⟨by simpa [covers] using g1, g2, _, hcl5, w3⟩
  obtain ⟨vm2, X2, st2⟩ := zcaught X' (q := q) (g := F0 m pc lsM (rest.map (zc ad'))) rfl (by rw [e1]; exact b1) (fun k h => by rw [b2] at h; cases h) hk0 (tableOf pre) _ (tableOf suf) htab hrp hrx
  have hL1 : zL M D tc A ad' s S' T'.heap (locs ++ L) := hL.next (by rw [e1]; exact q5) q6 hS1
  have key : W p l e (zrm (d + 1) (.inl (some (.int (Int32.ofInt n))), S', mc, ms)) s m args below meth c T'.heap (locs ++ L) (cs.1 + mc') (cs.2 + ms') (zE below s D tc A ad' S' (.inl (some (.int (Int32.ofInt n))), S', mc, ms)) (F0 m x.2.2.1 lsM [.ref q]) := by
    refine hast hX.1 hX.2.1 (lv := []) ⟨hls.1, hls.2.1, fun q hq => by cases hq⟩ fun ls' => ?_
    refine lv_iconst hX.1 hX.2.1 d1 rfl ?_
    refine W.widen h1 h2 (zend_ret hX hL1 ?_)
    exact W.iret hX.1 hX.2.1 (hX.2.2.2.1.trans hr) (fun t ht _ => ⟨rfl, ht⟩) hL1.2.2.1.2.2 d2 hX.2.2.2.2.1
  obtain ⟨t2, a1, b9⟩ := key (T'.setVm vm2) rfl X2
  exact ⟨t2, hst t2 (by rw [ht]; exact st2 t2 a1), zE.keep hsh b9⟩
end ZH4
end
