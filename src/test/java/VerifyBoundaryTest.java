import java.util.function.Supplier;

/** The boundaries that promises 13 and 14 name: wishes that are kept or broken, and rounds exchanged. */
public final class VerifyBoundaryTest {
    private static final int LEAST = Integer.MIN_VALUE;
    private static final int GREATEST = Integer.MAX_VALUE;
    private static final Class<IllegalStateException> STATE = IllegalStateException.class;
    private static final Class<IndexOutOfBoundsException> INDEX = IndexOutOfBoundsException.class;

    public static void main(String[] args) {
        Check.runAll(VerifyBoundaryTest.class);
        Check.end();
    }

    private static Twins.Call swap(int a, int b) {
        return x -> x.swapRounds(a, b) ? 1 : 0;
    }

    private static void dueSwap(String what, boolean due, LeagueRounds x, int a, int b) {
        Check.due(what, due ? 1 : 0, () -> x.swapRounds(a, b) ? 1 : 0);
    }

    private static LeagueRounds banned(int n, boolean twice, int team, int round, int venue) {
        LeagueRounds x = Leagues.plain(n, twice);
        x.ban(team, round, venue);
        return x;
    }

    private static LeagueRounds paired(int n, int a, int b) {
        LeagueRounds x = Leagues.plain(n, false);
        x.shareGround(a, b);
        return x;
    }

    private static LeagueRounds fixed(int n, boolean twice, int home, int away, int round) {
        LeagueRounds x = Leagues.plain(n, twice);
        x.fixGame(home, away, round);
        return x;
    }

    private static LeagueRounds capped(int n, boolean twice, int cap) {
        LeagueRounds x = Leagues.plain(n, twice);
        x.awayCap(cap);
        return x;
    }

    private static void dueVerify(String what, int due, LeagueRounds x) {
        Check.due(what, due, x::verify);
    }

    // Promise 13: 0 all are kept, 1 no timetable, otherwise the first that is broken.
    // The plain timetable of four teams: 0-3 1-2 | 2-0 3-1 | 0-1 2-3, and back 2-1 3-0 | 0-2 1-3 | 1-0 3-2.
    // That of five: (0) 1-4 3-2 | (1) 2-0 4-3 | 0-4 (2) 3-1 | 1-0 (3) 4-2 | 0-3 2-1 (4).

    private static void promise13NoTimetable() {
        dueVerify("new", 1, new LeagueRounds());
        dueVerify("teams", 1, Leagues.league(20));
        dueVerify("with all wishes", 1, Leagues.wishes());
        LeagueRounds x = Leagues.season();
        x.teams(5);
        dueVerify("no more", 1, x);
    }

    private static void promise13NoWishes() {
        for (int n = 4; n <= 20; n++) {
            dueVerify("single of " + n, 0, Leagues.plain(n, false));
            dueVerify("double of " + n, 0, Leagues.plain(n, true));
        }
    }

    private static void promise13ChangesNothing() {
        Twins.stays("a season", 0, Leagues::season, LeagueRounds::verify);
        Twins.stays("no timetable", 1, Leagues::wishes, LeagueRounds::verify);
    }

    private static void promise13BanOfAHomeGame() {
        dueVerify("at home", 2, banned(4, false, 0, 0, 0));
        dueVerify("away", 0, banned(4, false, 3, 0, 0));
        dueVerify("bye", 0, banned(5, false, 0, 0, 0));
    }

    private static void promise13BanOfAnAwayGame() {
        dueVerify("away", 2, banned(4, false, 3, 0, 1));
        dueVerify("at home", 0, banned(4, false, 0, 0, 1));
        dueVerify("bye", 0, banned(5, false, 0, 0, 1));
    }

    private static void promise13BanInTheLastRound() {
        dueVerify("home, single", 2, banned(4, false, 2, 2, 0));
        dueVerify("away, single", 2, banned(4, false, 3, 2, 1));
        dueVerify("home, double", 2, banned(4, true, 3, 5, 0));
        dueVerify("home, double of twenty", 2, banned(20, true, 19, 37, 0));
        dueVerify("away, double of twenty", 2, banned(20, true, 18, 37, 1));
        dueVerify("bye, double of five", 0, banned(5, true, 4, 9, 1));
    }

    private static void promise13BanInARoundThatThereIsNot() {
        // As if it were one of the rounds of the double timetable: 2-1 3-0.
        dueVerify("home, single", 0, banned(4, false, 2, 3, 0));
        dueVerify("home, when there is", 2, banned(4, true, 2, 3, 0));
        dueVerify("away, single", 0, banned(4, false, 0, 3, 1));
        dueVerify("away, when there is", 2, banned(4, true, 0, 3, 1));
        LeagueRounds x = Leagues.plain(20, true);
        for (int team = 0; team < 20; team++) {
            x.ban(team, 38, 0);
            x.ban(team, 38, 1);
        }
        dueVerify("round 38 of twenty", 0, x);
    }

    private static void promise13BanAfterDoubleBecameSingle() {
        LeagueRounds x = banned(4, true, 2, 3, 0);
        x.makePlain(false);
        dueVerify("no such round now", 0, x);
    }

    private static void promise13Pair() {
        dueVerify("both at home in the first round", 3, paired(4, 0, 1));
        dueVerify("both at home in the second", 3, paired(4, 3, 2));
        dueVerify("both at home in the last", 3, paired(4, 2, 0));
        dueVerify("never both at home", 0, paired(4, 0, 3));
        dueVerify("both away in the last", 0, paired(4, 1, 3));
        dueVerify("one at home, the other with a bye", 0, paired(5, 0, 1));
        dueVerify("that, and both at home later", 3, paired(5, 0, 3));
    }

    private static void promise13PairOfTwentyTeams() {
        LeagueRounds x = Leagues.plain(20, true);
        // They meet in round 0 and take turns at home.
        x.shareGround(0, 19);
        dueVerify("first and last team", 0, x);
        x.shareGround(19, 1);
        dueVerify("both at home in the last round", 3, x);
    }

    private static void promise13FixedGame() {
        dueVerify("in the first round", 0, fixed(4, false, 0, 3, 0));
        dueVerify("the other way", 4, fixed(4, false, 3, 0, 0));
        dueVerify("in another round", 4, fixed(4, false, 0, 3, 1));
        dueVerify("another game of the home team", 4, fixed(4, false, 0, 2, 0));
        dueVerify("a bye of the home team", 4, fixed(5, false, 0, 1, 0));
        dueVerify("a bye of the away team", 4, fixed(5, false, 1, 0, 0));
    }

    private static void promise13FixedGameInTheLastRound() {
        dueVerify("single", 0, fixed(4, false, 2, 3, 2));
        dueVerify("single, the other way", 4, fixed(4, false, 3, 2, 2));
        dueVerify("double", 0, fixed(4, true, 3, 2, 5));
        dueVerify("double of twenty", 0, fixed(20, true, 19, 18, 37));
        dueVerify("double of twenty, the other way", 4, fixed(20, true, 18, 19, 37));
    }

    private static void promise13FixedGameInARoundThatThereIsNot() {
        dueVerify("single", 4, fixed(4, false, 2, 1, 3));
        dueVerify("when there is", 0, fixed(4, true, 2, 1, 3));
        dueVerify("round 38 of twenty", 4, fixed(20, true, 19, 18, 38));
        LeagueRounds x = fixed(4, true, 2, 1, 3);
        x.makePlain(false);
        dueVerify("no such round now", 4, x);
    }

    private static void promise13Cap() {
        // Team 1 is twice away in the single timetable and thrice in the double one.
        dueVerify("1, single", 5, capped(4, false, 1));
        dueVerify("2, single", 0, capped(4, false, 2));
        dueVerify("2, double", 5, capped(4, true, 2));
        dueVerify("3, double", 0, capped(4, true, 3));
        dueVerify("0 is none", 0, capped(4, true, 0));
        // Team 0: bye, away, home, away, home, and so on: a bye ends a succession.
        dueVerify("1, five teams", 0, capped(5, false, 1));
    }

    private static void promise13CapAcrossTheHalves() {
        // Only in rounds 4 and 5, the last of a half and the first of the other, are 1 and 3 away twice.
        dueVerify("1, five teams, double", 5, capped(5, true, 1));
        dueVerify("2, five teams, double", 0, capped(5, true, 2));
    }

    private static void promise13CapBrokenByOneTeamAlone() {
        LeagueRounds first = Leagues.plain(4, true);
        // Team 0: home, three times away, twice home; none of the others is away more than twice.
        first.swapRounds(2, 5);
        first.awayCap(2);
        dueVerify("the first team, 2", 5, first);
        first.awayCap(3);
        dueVerify("the first team, 3", 0, first);
        LeagueRounds last = Leagues.plain(4, false);
        // Team 3: home, away, away; none of the others is twice away.
        last.swapRounds(0, 1);
        last.awayCap(1);
        dueVerify("the last team, 1", 5, last);
        last.awayCap(2);
        dueVerify("the last team, 2", 0, last);
    }

    private static void promise13GreatestCap() {
        for (int team = 0; team < 20; team += 19) {
            LeagueRounds first = Leagues.awayFirst(team);
            first.awayCap(18);
            dueVerify("18, nineteen away games of " + team + " first", 5, first);
            first.awayCap(19);
            dueVerify("19, nineteen away games of " + team + " first", 0, first);
            LeagueRounds last = Leagues.awayLast(team);
            last.awayCap(18);
            dueVerify("18, nineteen away games of " + team + " last", 5, last);
            last.awayCap(19);
            dueVerify("19, nineteen away games of " + team + " last", 0, last);
        }
    }

    private static void promise13TheFirstThatIsBroken() {
        LeagueRounds x = capped(4, false, 1);
        dueVerify("the cap alone", 5, x);
        x.fixGame(3, 0, 0);
        dueVerify("a fixed game and the cap", 4, x);
        x.shareGround(0, 1);
        dueVerify("a pair and those", 3, x);
        x.ban(2, 2, 0);
        dueVerify("a ban and those", 2, x);
        LeagueRounds pairAndCap = capped(4, false, 1);
        pairAndCap.shareGround(0, 1);
        dueVerify("a pair and the cap", 3, pairAndCap);
        LeagueRounds banAndFixed = banned(4, false, 2, 2, 0);
        banAndFixed.fixGame(0, 1, 38);
        dueVerify("a ban and a fixed game", 2, banAndFixed);
    }

    // Promise 14: two rounds are exchanged, if all wishes are kept then.

    private static void promise14FirstAndLast() {
        LeagueRounds x = Leagues.plain(4, false);
        dueSwap("single", true, x, 0, 2);
        Check.same("exchanged", "0-1 2-3 | 2-0 3-1 | 0-3 1-2", Leagues.timetable(x, 4));
        dueSwap("and back", true, x, 2, 0);
        Check.same("as before", "0-3 1-2 | 2-0 3-1 | 0-1 2-3", Leagues.timetable(x, 4));
        LeagueRounds y = Leagues.plain(20, true);
        dueSwap("double of twenty", true, y, 37, 0);
        Check.same("the last comes first",
                "1-16 3-14 5-12 7-10 9-8 11-6 13-4 15-2 17-0 19-18", Leagues.round(y, 20, 0));
        Check.same("the first comes last",
                "0-19 1-18 3-16 5-14 7-12 9-10 11-8 13-6 15-4 17-2", Leagues.round(y, 20, 37));
    }

    private static void promise14Byes() {
        LeagueRounds x = Leagues.plain(5, false);
        dueSwap("first and last", true, x, 0, 4);
        Check.same("byes go with their rounds",
                "0-3 2-1 (4) | (1) 2-0 4-3 | 0-4 (2) 3-1 | 1-0 (3) 4-2 | (0) 1-4 3-2", Leagues.timetable(x, 5));
    }

    private static void promise14NoSuchRound() {
        for (int round : new int[] {-1, 6, LEAST, GREATEST}) {
            Supplier<LeagueRounds> recipe = () -> Leagues.plain(4, true);
            Twins.refused(round + " first", INDEX, recipe, swap(round, 0));
            Twins.refused(round + " second", INDEX, recipe, swap(0, round));
            Twins.refused(round + " twice", INDEX, recipe, swap(round, round));
        }
        Twins.refused("3 of single", INDEX, () -> Leagues.plain(4, false), swap(0, 3));
        Twins.refused("38 of twenty", INDEX, () -> Leagues.plain(20, true), swap(38, 37));
    }

    private static void promise14NoTimetable() {
        Twins.refused("new", INDEX, LeagueRounds::new, swap(0, 0));
        Twins.refused("wishes", INDEX, Leagues::wishes, swap(0, 1));
    }

    private static void promise14ARoundWithItself() {
        Twins.stays("all wishes are kept", 1, () -> capped(4, false, 2), swap(2, 2));
        Twins.stays("one is broken", 0, () -> capped(4, false, 1), swap(2, 2));
    }

    private static void promise14ABanWouldBeBroken() {
        // 0 is away in round 1 and at home in the others.
        Twins.stays("home", 0, () -> banned(4, false, 0, 1, 0), swap(0, 1));
        Twins.stays("home, turned round", 0, () -> banned(4, false, 0, 1, 0), swap(1, 0));
        Twins.stays("away", 0, () -> banned(4, false, 0, 2, 1), swap(1, 2));
        dueSwap("but not with other rounds", true, banned(4, false, 0, 1, 0), 0, 2);
    }

    private static void promise14APairIsBroken() {
        Twins.stays("as before", 0, () -> paired(4, 0, 1), swap(0, 1));
        dueSwap("a pair that is kept", true, paired(4, 0, 3), 0, 1);
    }

    private static void promise14AFixedGameWouldBeBroken() {
        Twins.stays("first", 0, () -> fixed(4, false, 0, 3, 0), swap(0, 1));
        Twins.stays("last", 0, () -> fixed(4, false, 2, 3, 2), swap(1, 2));
        Twins.stays("in a round that there is not", 0, () -> fixed(4, false, 2, 1, 3), swap(1, 2));
        dueSwap("but not with other rounds", true, fixed(4, false, 0, 3, 0), 1, 2);
    }

    private static void promise14TheCapWouldBeBroken() {
        // Round 1, round 0, round 2: team 4 is at home, away, away.
        Twins.stays("1", 0, () -> capped(5, false, 1), swap(0, 1));
        dueSwap("2", true, capped(5, false, 2), 0, 1);
    }

    private static void promise14AnExchangeThatMends() {
        LeagueRounds ban = banned(4, false, 0, 0, 0);
        dueSwap("a ban", true, ban, 0, 1);
        dueVerify("a ban, then", 0, ban);
        LeagueRounds game = fixed(4, false, 0, 3, 2);
        dueSwap("a fixed game", true, game, 2, 0);
        dueVerify("a fixed game, then", 0, game);
        LeagueRounds cap = Leagues.plain(5, false);
        cap.swapRounds(0, 1);
        cap.awayCap(1);
        dueVerify("the cap is broken", 5, cap);
        dueSwap("the cap", true, cap, 1, 0);
        dueVerify("the cap, then", 0, cap);
    }

    private static LeagueRounds withResult() {
        LeagueRounds x = Leagues.plain(4, true);
        x.result(5, 3, 0, 0);
        return x;
    }

    private static LeagueRounds withWashedOutRound() {
        LeagueRounds x = Leagues.plain(4, true);
        x.washOut(5);
        return x;
    }

    private static LeagueRounds withPlayedWashedOutRound() {
        LeagueRounds x = withWashedOutRound();
        x.reserve(0);
        x.catchUp();
        x.result(5, 1, 0, 0);
        x.result(5, 3, 0, 0);
        return x;
    }

    private static void promise14AResult() {
        Twins.refused("other rounds", STATE, VerifyBoundaryTest::withResult, swap(0, 1));
        Twins.refused("its round", STATE, VerifyBoundaryTest::withResult, swap(5, 0));
        Twins.refused("a round with itself", STATE, VerifyBoundaryTest::withResult, swap(0, 0));
    }

    private static void promise14AWashedOutRound() {
        Twins.refused("other rounds", STATE, VerifyBoundaryTest::withWashedOutRound, swap(0, 1));
        Twins.refused("its round", STATE, VerifyBoundaryTest::withWashedOutRound, swap(5, 0));
        Twins.refused("one that was caught up", STATE, VerifyBoundaryTest::withPlayedWashedOutRound, swap(0, 1));
        Twins.refused("a season", STATE, Leagues::season, swap(0, 1));
    }

    private static void promise14NoSuchRoundAndAResult() {
        Twins.refused("a result", INDEX, VerifyBoundaryTest::withResult, swap(0, 6));
        Twins.refused("a washed out round", INDEX, VerifyBoundaryTest::withWashedOutRound, swap(-1, 0));
    }

    private static void promise14ABrokenWishAndAResult() {
        Supplier<LeagueRounds> recipe = () -> {
            LeagueRounds x = withResult();
            x.awayCap(1);
            return x;
        };
        Twins.refused("the result comes first", STATE, recipe, swap(0, 1));
    }

    private static void promise14DatesAreNoHindrance() {
        LeagueRounds x = Leagues.plain(4, false);
        x.reserve(30);
        x.catchUp();
        dueSwap("with a date", true, x, 0, 1);
        Check.due("which stays", 2, () -> x.reserve(31));
    }
}
