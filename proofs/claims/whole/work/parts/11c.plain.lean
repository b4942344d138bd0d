/-! plain names -/
theorem pn_cu : plainName "LeagueRounds$CatchUp" = true := by decide +kernel
theorem pn_re : plainName "LeagueRounds$Results" = true := by decide +kernel
theorem pn_se : plainName "LeagueRounds$Search" = true := by decide +kernel
theorem pn_sd : plainName "LeagueRounds$Standings" = true := by decide +kernel
theorem pn_tt : plainName "LeagueRounds$Timetable" = true := by decide +kernel
theorem pn_wo : plainName "LeagueRounds$WashOuts" = true := by decide +kernel
theorem pn_wi : plainName "LeagueRounds$Wishes" = true := by decide +kernel
theorem pn_lr : plainName "LeagueRounds" = true := by decide +kernel
theorem pn_md : plainName "LeagueRoundsModel" = true := by decide +kernel
theorem pn_lw : plainName "LeagueRoundsLaw" = true := by decide +kernel
theorem pn_ar : plainName "java/util/Arrays" = true := by decide +kernel
