import java.util.NoSuchElementException;
import java.util.function.Supplier;

/** The boundaries that promises 15 to 17 and 19 name: results, the table, washed out rounds, missing games. */
public final class SeasonBoundaryTest {
    private static final int LEAST = Integer.MIN_VALUE;
    private static final int GREATEST = Integer.MAX_VALUE;
    private static final Class<IllegalArgumentException> ARGUMENT = IllegalArgumentException.class;
    private static final Class<IllegalStateException> STATE = IllegalStateException.class;
    private static final Class<IndexOutOfBoundsException> INDEX = IndexOutOfBoundsException.class;
    private static final Class<NoSuchElementException> ELEMENT = NoSuchElementException.class;

    public static void main(String[] args) {
        Check.runAll(SeasonBoundaryTest.class);
        Check.end();
    }

    // The plain timetable of four teams: 0-3 1-2 | 2-0 3-1 | 0-1 2-3, and back 2-1 3-0 | 0-2 1-3 | 1-0 3-2.
    // That of five: (0) 1-4 3-2 | (1) 2-0 4-3 | 0-4 (2) 3-1 | 1-0 (3) 4-2 | 0-3 2-1 (4).

    // Promise 15: the result of a game, in place of an earlier one.

    private static void promise15FirstAndLastRound() {
        LeagueRounds x = Leagues.plain(20, true);
        Check.due("first", 1, () -> x.result(0, 0, 1, 0));
        Check.due("last", 2, () -> x.result(37, 19, 1, 0));
    }

    private static void promise15NoSuchRound() {
        for (int round : new int[] {-1, 10, LEAST, GREATEST}) {
            Twins.refused("" + round, INDEX, Leagues::season, x -> x.result(round, 1, 0, 0));
        }
        Twins.refused("no timetable", INDEX, Leagues::wishes, x -> x.result(0, 0, 0, 0));
        Twins.refused("3 of single", INDEX, () -> Leagues.plain(4, false), x -> x.result(3, 2, 0, 0));
        Twins.refused("38 of twenty", INDEX, () -> Leagues.plain(20, true), x -> x.result(38, 0, 0, 0));
    }

    private static void promise15NoSuchTeam() {
        for (int team : new int[] {-1, 5, LEAST, GREATEST}) {
            Twins.refused("" + team, INDEX, Leagues::season, x -> x.result(0, team, 0, 0));
        }
        Twins.refused("20 of twenty", INDEX, () -> Leagues.plain(20, true), x -> x.result(0, 20, 0, 0));
    }

    private static void promise15LeastAndGreatestGoals() {
        LeagueRounds x = Leagues.plain(4, false);
        Check.due("0 and 0", 1, () -> x.result(0, 0, 0, 0));
        Check.same("a draw", "0 1 0 1 0 0 0 1", Leagues.row(x, 0));
        Check.due("99 and 0", 1, () -> x.result(0, 0, 99, 0));
        Check.same("won", "0 1 1 0 0 99 0 3", Leagues.row(x, 0));
        Check.due("0 and 99", 1, () -> x.result(0, 0, 0, 99));
        Check.same("won by the other", "3 1 1 0 0 99 0 3", Leagues.row(x, 0));
        Check.due("99 and 99", 1, () -> x.result(0, 0, 99, 99));
        Check.same("a draw with goals", "0 1 0 1 0 99 99 1", Leagues.row(x, 0));
    }

    private static void promise15NoSuchHomeGoals() {
        for (int goals : new int[] {-1, 100, LEAST, GREATEST}) {
            Twins.refused(goals + ", a new one", ARGUMENT, Leagues::season, x -> x.result(2, 0, goals, 0));
            Twins.refused(goals + ", in place", ARGUMENT, Leagues::season, x -> x.result(1, 2, goals, 99));
        }
    }

    private static void promise15NoSuchAwayGoals() {
        for (int goals : new int[] {-1, 100, LEAST, GREATEST}) {
            Twins.refused(goals + ", a new one", ARGUMENT, Leagues::season, x -> x.result(2, 0, 0, goals));
            Twins.refused(goals + ", in place", ARGUMENT, Leagues::season, x -> x.result(1, 2, 99, goals));
        }
    }

    private static void promise15InPlaceOfAnEarlierOne() {
        LeagueRounds x = Leagues.plain(4, false);
        x.result(1, 3, 1, 1);
        Check.due("first", 2, () -> x.result(0, 0, 5, 1));
        Check.due("the same again", 2, () -> x.result(0, 0, 5, 1));
        Check.due("in place of it", 2, () -> x.result(0, 0, 0, 2));
        Check.same("3 won and drew", "3 2 1 1 0 3 1 4", Leagues.row(x, 0));
        Check.same("1 drew", "1 1 0 1 0 1 1 1", Leagues.row(x, 1));
        Check.same("2 has no game", "2 0 0 0 0 0 0 0", Leagues.row(x, 2));
        Check.same("0 lost", "0 1 0 0 1 0 2 0", Leagues.row(x, 3));
    }

    private static void promise15OfTheSameTeamInOtherRounds() {
        LeagueRounds x = Leagues.plain(4, true);
        Check.due("round 0", 1, () -> x.result(0, 0, 1, 0));
        Check.due("round 2", 2, () -> x.result(2, 0, 1, 0));
        Check.due("round 4", 3, () -> x.result(4, 0, 1, 0));
        Check.due("the return of round 0", 4, () -> x.result(3, 3, 1, 0));
    }

    private static void promise15NoHomeGame() {
        Twins.refused("away", ELEMENT, Leagues::season, x -> x.result(2, 4, 0, 0));
        Twins.refused("bye", ELEMENT, Leagues::season, x -> x.result(2, 2, 0, 0));
        Twins.refused("away in a washed out round", ELEMENT, Leagues::season, x -> x.result(0, 2, 0, 0));
        Twins.refused("last round", ELEMENT, () -> Leagues.plain(20, true), x -> x.result(37, 18, 0, 0));
    }

    private static LeagueRounds washedOut() {
        LeagueRounds x = Leagues.plain(4, true);
        x.result(0, 1, 3, 0);
        x.washOut(0);
        return x;
    }

    private static LeagueRounds washedOutWithADate() {
        LeagueRounds x = washedOut();
        x.reserve(50);
        return x;
    }

    private static LeagueRounds washedOutAfterACatchUp() {
        LeagueRounds x = washedOutWithADate();
        x.catchUp();
        x.washOut(1);
        return x;
    }

    private static LeagueRounds washedOutAfterACatchUpThatFailed() {
        LeagueRounds x = washedOutAfterACatchUp();
        x.catchUp();
        return x;
    }

    private static void promise15MissingWithoutADate() {
        Twins.refused("no dates", STATE, SeasonBoundaryTest::washedOut, x -> x.result(0, 0, 0, 0));
        Twins.refused("no catch-up", STATE, SeasonBoundaryTest::washedOutWithADate, x -> x.result(0, 0, 0, 0));
        Twins.refused("washed out since", STATE, SeasonBoundaryTest::washedOutAfterACatchUp, x -> x.result(1, 2, 0, 0));
        Twins.refused("a catch-up that failed", STATE,
                SeasonBoundaryTest::washedOutAfterACatchUpThatFailed, x -> x.result(1, 2, 0, 0));
    }

    private static void promise15MissingWithADate() {
        LeagueRounds x = washedOutAfterACatchUpThatFailed();
        Check.due("by the catch-up before", 2, () -> x.result(0, 0, 0, 0));
        Check.due("and in place of it", 2, () -> x.result(0, 0, 1, 0));
        Check.due("missing", 2, x::missing);
    }

    private static void promise15NotMissing() {
        LeagueRounds x = washedOut();
        Check.due("a game of a washed out round that has a result", 1, () -> x.result(0, 1, 0, 3));
        Check.due("a game of another round", 2, () -> x.result(1, 2, 0, 0));
    }

    private static void promise15AsManyAsThereMayBe() {
        LeagueRounds x = Leagues.plain(20, true);
        int count = 0;
        for (int round = 0; round < 38; round++) {
            // The object that plays has not enough calls to be asked for its home teams as well.
            LeagueRounds asked = Leagues.plain(20, true);
            for (int team = 0; team < 20; team++) {
                if (asked.venue(team, round) == 1) {
                    int r = round;
                    int t = team;
                    count++;
                    Check.due("game " + count, count, () -> x.result(r, t, 2, 1));
                }
            }
        }
        Check.same("all of them", "380", "" + count);
        Check.due("the first again", 380, () -> x.result(0, 0, 1, 2));
        Check.due("the last again", 380, () -> x.result(37, 19, 1, 2));
        Check.due("none is missing", 0, () -> x.washOut(37));
        Check.due("games of the first", 38, () -> x.table(0, 1));
        Check.due("games of the last", 38, () -> x.table(19, 1));
    }

    private static void promise15TheOrderOfWhatIsWrong() {
        Supplier<LeagueRounds> recipe = SeasonBoundaryTest::washedOut;
        Twins.refused("no round, goals", INDEX, recipe, x -> x.result(6, 0, 100, 0));
        Twins.refused("no team, goals", INDEX, recipe, x -> x.result(0, 4, 0, -1));
        Twins.refused("goals, no home game", ARGUMENT, recipe, x -> x.result(0, 3, 0, 100));
        Twins.refused("goals, missing", ARGUMENT, recipe, x -> x.result(0, 0, 100, 0));
        Twins.refused("no home game, washed out", ELEMENT, recipe, x -> x.result(0, 3, 0, 0));
    }

    // Promise 16: of the team at a place of the table, eight fields.

    private static void promise16NoTimetable() {
        LeagueRounds x = Leagues.league(20);
        Check.same("by team", "0 1 2 3 4 5 6 7 8 9 10 11 12 13 14 15 16 17 18 19", Leagues.order(x, 20));
        Check.same("last place", "19 0 0 0 0 0 0 0", Leagues.row(x, 19));
    }

    private static void promise16NoResult() {
        LeagueRounds x = Leagues.plain(20, true);
        Check.same("by team", "0 1 2 3 4 5 6 7 8 9 10 11 12 13 14 15 16 17 18 19", Leagues.order(x, 20));
    }

    private static void promise16FirstAndLastPlaceAndField() {
        LeagueRounds x = Leagues.plain(4, false);
        x.result(0, 1, 4, 2);
        Check.same("first place", "1 1 1 0 0 4 2 3", Leagues.row(x, 0));
        Check.same("last place", "2 1 0 0 1 2 4 0", Leagues.row(x, 3));
        Check.same("those without a game between", "1 0 3 2", Leagues.order(x, 4));
    }

    private static void promise16NoSuchPlace() {
        for (int place : new int[] {-1, 5, LEAST, GREATEST}) {
            Twins.refused("" + place, INDEX, Leagues::season, x -> x.table(place, 0));
        }
        Check.dueThrow("4 of a new object", INDEX, () -> new LeagueRounds().table(4, 0));
        Check.dueThrow("20 of twenty", INDEX, () -> Leagues.league(20).table(20, 7));
    }

    private static void promise16NoSuchField() {
        for (int field : new int[] {-1, 8, LEAST, GREATEST}) {
            Twins.refused("" + field, INDEX, Leagues::season, x -> x.table(0, field));
        }
        Check.dueThrow("neither place nor field", INDEX, () -> new LeagueRounds().table(-1, 8));
    }

    private static void promise16ChangesNothing() {
        Twins.stays("a season", 2, Leagues::season, x -> x.table(0, 0));
    }

    private static void promise16AsMuchAsThereMayBe() {
        LeagueRounds x = Leagues.plain(20, true);
        for (int round = 0; round < 38; round++) {
            if (x.venue(19, round) == 1) {
                x.result(round, 19, 99, 0);
            } else {
                x.result(round, x.opponent(19, round), 0, 99);
            }
        }
        Check.same("19 won all", "19 38 38 0 0 3762 0 114", Leagues.row(x, 0));
        Check.same("18 lost twice, like all others", "18 2 0 0 2 0 198 0", Leagues.row(x, 19));
        Check.same("0 before them", "0 2 0 0 2 0 198 0", Leagues.row(x, 1));
    }

    private static void termsTableByPoints() {
        LeagueRounds x = Leagues.plain(4, false);
        x.result(0, 0, 1, 0);
        x.result(1, 2, 9, 0);
        x.result(2, 0, 1, 0);
        // 0 has 6 points and 2 to 9 goals, 2 has 3 and 9 to 0.
        Check.same("points before goals", "0 2 1 3", Leagues.order(x, 4));
    }

    private static void termsTableThreeForAGameWon() {
        LeagueRounds x = Leagues.plain(5, false);
        x.result(0, 1, 1, 0);
        x.result(1, 2, 5, 5);
        x.result(2, 0, 5, 5);
        x.result(4, 0, 5, 5);
        Check.same("one won", "1 1 1 0 0 1 0 3", Leagues.row(x, 0));
        Check.same("is as much as three drawn", "0 3 0 3 0 15 15 3", Leagues.row(x, 1));
        Check.same("all", "1 0 2 3 4", Leagues.order(x, 5));
    }

    private static void termsTableByDifference() {
        LeagueRounds x = Leagues.plain(4, false);
        x.result(0, 0, 8, 7);
        x.result(0, 1, 2, 0);
        Check.same("the difference before the goals", "1 0 3 2", Leagues.order(x, 4));
    }

    private static void termsTableByGoals() {
        LeagueRounds x = Leagues.plain(4, false);
        x.result(0, 0, 1, 0);
        x.result(0, 1, 2, 1);
        Check.same("the goals before the team", "1 0 2 3", Leagues.order(x, 4));
    }

    private static void termsTableByTeam() {
        LeagueRounds x = Leagues.plain(4, false);
        x.result(0, 0, 0, 1);
        x.result(0, 1, 0, 1);
        Check.same("the least first", "2 3 0 1", Leagues.order(x, 4));
        x.result(0, 0, 0, 0);
        x.result(0, 1, 0, 0);
        Check.same("all alike", "0 1 2 3", Leagues.order(x, 4));
    }

    // Promise 17: a round is washed out: how many of its games are missing.

    private static LeagueRounds fourWashedOut() {
        LeagueRounds x = Leagues.plain(4, true);
        for (int round = 0; round < 4; round++) {
            x.washOut(round);
        }
        return x;
    }

    private static void promise17FirstAndLast() {
        LeagueRounds x = Leagues.plain(20, true);
        Check.due("first", 10, () -> x.washOut(0));
        Check.due("last", 10, () -> x.washOut(37));
        LeagueRounds y = Leagues.plain(4, false);
        Check.due("first of four teams", 2, () -> y.washOut(0));
        Check.due("last of four teams", 2, () -> y.washOut(2));
        Check.due("of nineteen teams", 9, () -> Leagues.plain(19, false).washOut(18));
        Check.due("of five teams", 2, () -> Leagues.plain(5, false).washOut(4));
    }

    private static void promise17NoSuchRound() {
        for (int round : new int[] {-1, 10, LEAST, GREATEST}) {
            Twins.refused("" + round, INDEX, Leagues::season, x -> x.washOut(round));
        }
        Twins.refused("no timetable", INDEX, Leagues::wishes, x -> x.washOut(0));
        Twins.refused("3 of single", INDEX, () -> Leagues.plain(4, false), x -> x.washOut(3));
        Twins.refused("38 of twenty", INDEX, () -> Leagues.plain(20, true), x -> x.washOut(38));
    }

    private static void promise17GamesWithAResult() {
        LeagueRounds x = Leagues.plain(4, true);
        x.result(0, 0, 0, 0);
        Check.due("one of two", 1, () -> x.washOut(0));
        x.result(5, 1, 0, 0);
        x.result(5, 3, 0, 0);
        Check.due("both", 0, () -> x.washOut(5));
        Check.due("none", 2, () -> x.washOut(1));
    }

    private static void promise17Already() {
        Twins.refused("a season", STATE, Leagues::season, x -> x.washOut(0));
        Twins.refused("the last of four", STATE, SeasonBoundaryTest::fourWashedOut, x -> x.washOut(3));
        Supplier<LeagueRounds> played = () -> {
            LeagueRounds x = Leagues.plain(4, false);
            x.result(2, 0, 1, 1);
            x.result(2, 2, 1, 1);
            x.washOut(2);
            return x;
        };
        Twins.refused("one of which nothing is missing", STATE, played, x -> x.washOut(2));
    }

    private static void promise17AsManyAsThereMayBe() {
        LeagueRounds x = Leagues.plain(4, true);
        Check.due("first", 2, () -> x.washOut(5));
        Check.due("second", 2, () -> x.washOut(0));
        Check.due("third", 2, () -> x.washOut(4));
        Check.due("fourth", 2, () -> x.washOut(2));
        Check.due("missing", 8, x::missing);
    }

    private static void promise17FiveAreRefused() {
        Twins.refused("the next", STATE, SeasonBoundaryTest::fourWashedOut, x -> x.washOut(4));
        Twins.refused("the last", STATE, SeasonBoundaryTest::fourWashedOut, x -> x.washOut(5));
    }

    private static void promise17FiveAreRefusedWhenNothingIsMissing() {
        Supplier<LeagueRounds> played = () -> {
            LeagueRounds x = fourWashedOut();
            for (int date = 0; date < 4; date++) {
                x.reserve(date);
            }
            x.catchUp();
            for (int round = 0; round < 4; round++) {
                for (int team = 0; team < 4; team++) {
                    if (x.venue(team, round) == 1) {
                        x.result(round, team, 1, 1);
                    }
                }
            }
            return x;
        };
        Check.due("nothing is missing", 0, () -> played.get().missing());
        Twins.refused("a fifth", STATE, played, x -> x.washOut(4));
    }

    private static void promise17NoSuchRoundWhenThereAreFour() {
        Twins.refused("6", INDEX, SeasonBoundaryTest::fourWashedOut, x -> x.washOut(6));
        Twins.refused("-1", INDEX, SeasonBoundaryTest::fourWashedOut, x -> x.washOut(-1));
    }

    // Promise 19: how many games are missing.

    private static void promise19None() {
        Check.due("new", 0, () -> new LeagueRounds().missing());
        Check.due("no timetable", 0, () -> Leagues.league(20).missing());
        Check.due("no washed out round", 0, () -> Leagues.plain(20, true).missing());
        LeagueRounds x = Leagues.plain(4, false);
        x.result(0, 0, 0, 0);
        x.result(0, 1, 0, 0);
        x.washOut(0);
        Check.due("one of which all games have a result", 0, x::missing);
    }

    private static void promise19AsManyAsThereMayBe() {
        LeagueRounds x = Leagues.plain(20, true);
        x.washOut(0);
        x.washOut(1);
        x.washOut(36);
        Check.due("three rounds of twenty teams", 30, x::missing);
        x.washOut(37);
        Check.due("four", 40, x::missing);
    }

    private static void promise19UntilTheyGetAResult() {
        LeagueRounds x = washedOutWithADate();
        Check.due("the one without a result", 1, x::missing);
        x.catchUp();
        Check.due("with a date", 1, x::missing);
        x.result(1, 2, 0, 0);
        Check.due("another game's result", 1, x::missing);
        x.result(0, 0, 0, 0);
        Check.due("its result", 0, x::missing);
    }

    private static void promise19ChangesNothing() {
        Twins.stays("a season", 2, Leagues::season, LeagueRounds::missing);
        Twins.stays("four rounds", 8, SeasonBoundaryTest::fourWashedOut, LeagueRounds::missing);
    }
}
