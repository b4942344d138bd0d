import java.util.NoSuchElementException;
import java.util.function.Supplier;

/** The boundaries that promises 18, 20 and 21 name: reserve dates and the catch-up. */
public final class CatchUpBoundaryTest {
    private static final int LEAST = Integer.MIN_VALUE;
    private static final int GREATEST = Integer.MAX_VALUE;
    private static final int NONE = LeagueRounds.NONE;
    private static final Class<IllegalArgumentException> ARGUMENT = IllegalArgumentException.class;
    private static final Class<IllegalStateException> STATE = IllegalStateException.class;
    private static final Class<IndexOutOfBoundsException> INDEX = IndexOutOfBoundsException.class;
    private static final Class<NoSuchElementException> ELEMENT = NoSuchElementException.class;

    public static void main(String[] args) {
        Check.runAll(CatchUpBoundaryTest.class);
        Check.end();
    }

    // The plain timetable of four teams: 0-3 1-2 | 2-0 3-1 | 0-1 2-3, and back 2-1 3-0 | 0-2 1-3 | 1-0 3-2.
    // That of five: (0) 1-4 3-2 | (1) 2-0 4-3 | 0-4 (2) 3-1 | 1-0 (3) 4-2 | 0-3 2-1 (4).

    private static LeagueRounds washed(LeagueRounds x, int... rounds) {
        for (int round : rounds) {
            x.washOut(round);
        }
        return x;
    }

    private static LeagueRounds reserved(LeagueRounds x, int... dates) {
        for (int date : dates) {
            x.reserve(date);
        }
        return x;
    }

    private static LeagueRounds caughtUp(LeagueRounds x) {
        x.catchUp();
        return x;
    }

    private static void dueDate(String what, int due, LeagueRounds x, int round, int home) {
        Check.due(what, due, () -> x.catchDate(round, home));
    }

    /** Twenty teams; of the ten games of round 0 and the ten of round 1 so many are missing. */
    private static LeagueRounds missingOfTwenty(int games) {
        LeagueRounds x = Leagues.plain(20, false);
        int played = 0;
        for (int team = 0; team < 20 && played < 20 - games; team++) {
            if (x.venue(team, 1) == 1) {
                x.result(1, team, 0, 0);
                played++;
            }
        }
        return washed(x, 0, 1);
    }

    // Promise 18: a reserve date 0 .. 99, each once, at most 6.

    private static LeagueRounds sixDates() {
        return reserved(Leagues.plain(4, false), 99, 0, 50, 1, 98, 2);
    }

    private static void promise18LeastAndGreatest() {
        LeagueRounds x = new LeagueRounds();
        Check.due("0", 1, () -> x.reserve(0));
        Check.due("99", 2, () -> x.reserve(99));
    }

    private static void promise18NoSuchDate() {
        for (int date : new int[] {-1, 100, LEAST, GREATEST}) {
            Twins.refused(date + ", new", ARGUMENT, LeagueRounds::new, x -> x.reserve(date));
            Twins.refused(date + ", wishes", ARGUMENT, Leagues::wishes, x -> x.reserve(date));
            Twins.refused(date + ", season", ARGUMENT, Leagues::season, x -> x.reserve(date));
        }
    }

    private static void promise18OneAlready() {
        Twins.refused("the first", STATE, Leagues::season, x -> x.reserve(40));
        Twins.refused("the last", STATE, Leagues::season, x -> x.reserve(20));
        Twins.refused("0", STATE, () -> reserved(new LeagueRounds(), 0), x -> x.reserve(0));
        Twins.refused("99", STATE, () -> reserved(new LeagueRounds(), 99), x -> x.reserve(99));
    }

    private static void promise18AsManyAsThereMayBe() {
        LeagueRounds x = new LeagueRounds();
        for (int count = 1; count <= 6; count++) {
            int date = 100 - count;
            Check.due("date " + count, count, () -> x.reserve(date));
        }
    }

    private static void promise18SevenAreRefused() {
        Twins.refused("a new one", STATE, CatchUpBoundaryTest::sixDates, x -> x.reserve(3));
        Twins.refused("one that is there", STATE, CatchUpBoundaryTest::sixDates, x -> x.reserve(50));
    }

    private static void promise18NoSuchDateWhenThereAreSix() {
        Twins.refused("-1", ARGUMENT, CatchUpBoundaryTest::sixDates, x -> x.reserve(-1));
        Twins.refused("100", ARGUMENT, CatchUpBoundaryTest::sixDates, x -> x.reserve(100));
    }

    private static void promise18StayUntilThereIsATimetable() {
        LeagueRounds x = reserved(Leagues.league(4), 10);
        Check.due("without one", 2, () -> x.reserve(11));
        x.make(5);
        Check.due("none was found", 3, () -> x.reserve(12));
        x.makePlain(false);
        Check.due("gone", 1, () -> x.reserve(10));
    }

    // Promise 20: the catch-up of all missing games, in place of an earlier one.

    private static void promise20NothingIsMissing() {
        Twins.stays("new", 0, LeagueRounds::new, LeagueRounds::catchUp);
        Twins.stays("no timetable, a date", 0, Leagues::wishes, LeagueRounds::catchUp);
        Twins.stays("no washed out round", 0, CatchUpBoundaryTest::sixDates, LeagueRounds::catchUp);
        Supplier<LeagueRounds> played = () -> {
            LeagueRounds x = caughtUp(reserved(washed(Leagues.plain(4, false), 0), 7));
            x.result(0, 0, 1, 0);
            x.result(0, 1, 1, 0);
            return x;
        };
        Twins.stays("no more", 0, played, LeagueRounds::catchUp);
    }

    private static void promise20NoDates() {
        Twins.stays("one round", NONE, () -> washed(Leagues.plain(4, false), 0), LeagueRounds::catchUp);
        Twins.stays("fourteen games", NONE, () -> missingOfTwenty(14), LeagueRounds::catchUp);
    }

    private static void promise20OneGame() {
        LeagueRounds x = Leagues.plain(4, false);
        x.result(0, 0, 0, 0);
        reserved(washed(x, 0), 99);
        Check.due("one date", 1, x::catchUp);
        dueDate("the last that there is", 99, x, 0, 1);
    }

    private static void promise20DatesJustSuffice() {
        Supplier<LeagueRounds> three = () -> reserved(washed(Leagues.plain(4, true), 0, 1, 2, 3), 7, 5, 9);
        Twins.stays("three dates for four games of each team", NONE, three, LeagueRounds::catchUp);
        LeagueRounds x = reserved(three.get(), 8);
        Check.due("four", 4, x::catchUp);
        dueDate("round 0", 5, x, 0, 0);
        dueDate("round 1", 7, x, 1, 3);
        dueDate("round 2", 8, x, 2, 0);
        dueDate("round 3", 9, x, 3, 2);
    }

    private static void promise20FewerThanThereAre() {
        LeagueRounds x = washed(sixDates(), 2);
        Check.due("one of six", 1, x::catchUp);
        dueDate("the earliest", 0, x, 2, 0);
        washed(x, 0);
        Check.due("two of six", 2, x::catchUp);
        dueDate("the earliest for the first round", 0, x, 0, 0);
        dueDate("the next for the other", 1, x, 2, 0);
        washed(x, 1);
        Check.due("three of six", 3, x::catchUp);
        dueDate("the first round", 0, x, 0, 0);
        dueDate("the second", 1, x, 1, 2);
        dueDate("the third", 2, x, 2, 0);
    }

    /** 3-2, 2-0, 4-3, 0-4, 3-1, 1-0 and 4-2: three games a team at most, but only two at once. */
    private static LeagueRounds sevenGamesOfFive() {
        LeagueRounds x = Leagues.plain(5, false);
        x.result(0, 1, 0, 0);
        return washed(x, 3, 2, 1, 0);
    }

    private static void promise20MoreDatesThanATeamHasGames() {
        Twins.stays("three dates", NONE, () -> reserved(sevenGamesOfFive(), 30, 20, 10), LeagueRounds::catchUp);
        LeagueRounds x = reserved(sevenGamesOfFive(), 60, 50, 40, 30, 20, 10);
        Check.due("four dates", 4, x::catchUp);
        dueDate("3-2", 10, x, 0, 3);
        dueDate("2-0", 20, x, 1, 2);
        dueDate("4-3", 20, x, 1, 4);
        dueDate("0-4", 10, x, 2, 0);
        dueDate("3-1", 30, x, 2, 3);
        dueDate("1-0", 40, x, 3, 1);
        dueDate("4-2", 30, x, 3, 4);
    }

    private static void promise20NotTheEarliestWhenThoseBehindCouldNotBePut() {
        LeagueRounds x = Leagues.plain(5, false);
        x.result(1, 4, 0, 0);
        x.result(2, 3, 0, 0);
        reserved(washed(x, 0, 1, 2), 40, 50, 60);
        // 1-4, 3-2, 2-0, 0-4: with both of round 0 on one date, 2-0 and 0-4 would need two more.
        Check.due("two dates", 2, x::catchUp);
        dueDate("1-4", 40, x, 0, 1);
        dueDate("3-2", 50, x, 0, 3);
        dueDate("2-0", 40, x, 1, 2);
        dueDate("0-4", 50, x, 2, 0);
    }

    private static void promise20ByRoundAndThenByHomeTeam() {
        // Washed out in another order than that of the rounds.
        LeagueRounds x = reserved(washed(Leagues.plain(4, true), 5, 0), 2, 1);
        Check.due("two dates", 2, x::catchUp);
        dueDate("0-3 of round 0", 1, x, 0, 0);
        dueDate("1-2 of round 0", 1, x, 0, 1);
        dueDate("1-0 of round 5", 2, x, 5, 1);
        dueDate("3-2 of round 5", 2, x, 5, 3);
    }

    private static void promise20TheSameTwoTeamsAgain() {
        LeagueRounds x = reserved(washed(Leagues.plain(4, true), 0, 3), 30);
        Check.due("one date", NONE, x::catchUp);
        x.reserve(20);
        Check.due("two dates", 2, x::catchUp);
        dueDate("0-3", 20, x, 0, 0);
        dueDate("3-0", 30, x, 3, 3);
    }

    private static void promise20FourteenGames() {
        Check.due("missing", 14, () -> missingOfTwenty(14).missing());
        LeagueRounds x = reserved(missingOfTwenty(14), 0, 99);
        Check.due("two dates", 2, x::catchUp);
        dueDate("round 0", 0, x, 0, 17);
        dueDate("round 1", 99, x, 1, 19);
        Twins.stays("one date", NONE, () -> reserved(missingOfTwenty(14), 0), LeagueRounds::catchUp);
    }

    private static void promise20FourteenGamesInFourRounds() {
        LeagueRounds x = Leagues.plain(8, false);
        x.result(0, 0, 0, 0);
        x.result(0, 1, 0, 0);
        reserved(washed(x, 0, 1, 2, 3), 3, 2, 1);
        Check.due("missing", 14, x::missing);
        Check.due("three dates for four games of a team", NONE, x::catchUp);
        x.reserve(4);
        Check.due("four dates", 4, x::catchUp);
    }

    private static void promise20FifteenGames() {
        Check.due("missing", 15, () -> missingOfTwenty(15).missing());
        Twins.refused("dates", STATE, () -> reserved(missingOfTwenty(15), 0, 99), LeagueRounds::catchUp);
        Twins.refused("no dates", STATE, () -> missingOfTwenty(15), LeagueRounds::catchUp);
    }

    private static LeagueRounds twentyOneOfFourteen() {
        LeagueRounds x = caughtUp(reserved(washed(Leagues.plain(14, false), 0, 1), 10, 20));
        return washed(x, 2);
    }

    private static void promise20TooManyAndTheDatesStay() {
        Twins.refused("twenty-one", STATE, CatchUpBoundaryTest::twentyOneOfFourteen, LeagueRounds::catchUp);
        LeagueRounds x = twentyOneOfFourteen();
        Check.dueThrow("refused", STATE, x::catchUp);
        dueDate("round 0", 10, x, 0, 0);
        dueDate("round 1", 20, x, 1, 13);
        dueDate("round 2", NONE, x, 2, 2);
    }

    private static void promise20NotTooManyAnyMore() {
        LeagueRounds x = twentyOneOfFourteen();
        int played = 0;
        for (int team = 0; team < 14 && played < 6; team++) {
            if (x.venue(team, 0) == 1) {
                x.result(0, team, 0, 0);
                played++;
            }
        }
        Check.due("fifteen", 15, x::missing);
        Check.dueThrow("are refused", STATE, x::catchUp);
        x.result(0, homeWithADate(x, 14, 0), 0, 0);
        Check.due("fourteen", 14, x::missing);
        Check.due("are not", 2, x::catchUp);
        dueDate("round 1 goes forward", 10, x, 1, 13);
        dueDate("round 2 behind it", 20, x, 2, 2);
    }

    private static int homeWithADate(LeagueRounds x, int n, int round) {
        for (int team = 0; team < n; team++) {
            if (x.venue(team, round) == 1 && x.catchDate(round, team) != NONE) {
                return team;
            }
        }
        return NONE;
    }

    private static LeagueRounds secondRoundWithoutADate() {
        return washed(caughtUp(reserved(washed(Leagues.plain(4, true), 0), 5)), 1);
    }

    private static void promise20NoneAndAllStays() {
        Twins.stays("two rounds, one date", NONE, CatchUpBoundaryTest::secondRoundWithoutADate, LeagueRounds::catchUp);
        LeagueRounds x = caughtUp(secondRoundWithoutADate());
        dueDate("the first round keeps its date", 5, x, 0, 0);
        dueDate("the second has none", NONE, x, 1, 2);
        Check.due("so the first can be played", 1, () -> x.result(0, 0, 1, 0));
        Check.due("and the rest be caught up when one date does", NONE, x::catchUp);
        x.result(0, 1, 1, 0);
        Check.due("which it does now", 1, x::catchUp);
        dueDate("the second has that date", 5, x, 1, 2);
    }

    private static void promise20InPlaceOfAnEarlierOne() {
        LeagueRounds x = caughtUp(reserved(washed(Leagues.plain(4, false), 1), 30));
        dueDate("first", 30, x, 1, 2);
        x.reserve(10);
        dueDate("a new date alone changes nothing", 30, x, 1, 2);
        Check.due("again", 1, x::catchUp);
        dueDate("the earlier date", 10, x, 1, 2);
        Twins.stays("once more", 2, () -> caughtUp(reserved(washed(Leagues.plain(4, true), 0, 1), 1, 2)),
                LeagueRounds::catchUp);
    }

    // Promise 21: the date of a game by the latest catch-up.

    private static void promise21FirstAndLast() {
        LeagueRounds x = caughtUp(reserved(washed(Leagues.plain(20, true), 37), 99, 0));
        dueDate("last round", 0, x, 37, 19);
        dueDate("first round", NONE, x, 0, 0);
        LeagueRounds y = caughtUp(reserved(washed(Leagues.plain(4, true), 0, 5), 99, 0));
        dueDate("first round, first date", 0, y, 0, 0);
        dueDate("last round, last date", 99, y, 5, 3);
    }

    private static void promise21NoSuchRound() {
        for (int round : new int[] {-1, 10, LEAST, GREATEST}) {
            Twins.refused("" + round, INDEX, Leagues::season, x -> x.catchDate(round, 1));
        }
        Check.dueThrow("no timetable", INDEX, () -> new LeagueRounds().catchDate(0, 0));
        Check.dueThrow("38 of twenty", INDEX, () -> Leagues.plain(20, true).catchDate(38, 0));
    }

    private static void promise21NoSuchTeam() {
        for (int team : new int[] {-1, 5, LEAST, GREATEST}) {
            Twins.refused("" + team, INDEX, Leagues::season, x -> x.catchDate(0, team));
        }
        Check.dueThrow("20 of twenty", INDEX, () -> Leagues.plain(20, true).catchDate(37, 20));
    }

    private static void promise21NoHomeGame() {
        Twins.refused("away", ELEMENT, Leagues::season, x -> x.catchDate(0, 2));
        Twins.refused("bye", ELEMENT, Leagues::season, x -> x.catchDate(0, 0));
        Twins.refused("away in the last round", ELEMENT, Leagues::season, x -> x.catchDate(9, 0));
    }

    private static void promise21NoDate() {
        LeagueRounds x = Leagues.plain(4, true);
        dueDate("not washed out", NONE, x, 0, 0);
        washed(x, 0);
        dueDate("no date there", NONE, x, 0, 0);
        reserved(x, 0);
        dueDate("no catch-up", NONE, x, 0, 0);
        caughtUp(x);
        dueDate("a catch-up", 0, x, 0, 0);
        dueDate("another round", NONE, x, 1, 2);
        washed(x, 1);
        dueDate("washed out since", NONE, x, 1, 2);
        Check.due("does not suffice", NONE, x::catchUp);
        dueDate("as before", 0, x, 0, 0);
        dueDate("as before, none", NONE, x, 1, 2);
    }

    private static void promise21AResult() {
        LeagueRounds x = Leagues.plain(4, true);
        x.result(0, 1, 0, 0);
        caughtUp(reserved(washed(x, 0), 8));
        dueDate("before it was washed out", NONE, x, 0, 1);
        dueDate("without one", 8, x, 0, 0);
        x.result(0, 0, 2, 2);
        dueDate("since the catch-up", NONE, x, 0, 0);
        caughtUp(x);
        dueDate("still", NONE, x, 0, 0);
    }

    private static void promise21ChangesNothing() {
        Twins.stays("with a date", 20, Leagues::season, x -> x.catchDate(0, 3));
        Twins.stays("with a result", NONE, Leagues::season, x -> x.catchDate(0, 1));
    }
}
