/** The boundaries of the search that promise 8 and the terms name. */
public final class SearchBoundaryTest {
    private static final int LEAST = Integer.MIN_VALUE;
    private static final int GREATEST = Integer.MAX_VALUE;
    private static final int NONE = LeagueRounds.NONE;
    private static final Class<IllegalArgumentException> ARGUMENT = IllegalArgumentException.class;
    private static final Class<IllegalStateException> STATE = IllegalStateException.class;

    public static void main(String[] args) {
        Check.runAll(SearchBoundaryTest.class);
        Check.end();
    }

    /** The search answers so with so many choices, and one fewer is not enough. */
    private static void exactly(String what, long answer, int choices, LeagueRounds x) {
        Check.due(what + ", one choice fewer", 2, () -> x.make(choices - 1));
        Check.due(what + ", " + choices + " choices", answer, () -> x.make(choices));
    }

    /** Team 0 can have neither a game nor a bye in round 0, so that no choice is made at all. */
    private static LeagueRounds hopeless(LeagueRounds x) {
        x.fixGame(0, 2, 0);
        x.fixGame(0, 3, 0);
        return x;
    }

    private static LeagueRounds capped(int n, int cap) {
        LeagueRounds x = Leagues.league(n);
        x.awayCap(cap);
        return x;
    }

    // The budget is 1 .. 4000.

    private static void promise8LeastBudget() {
        Check.due("one choice more would be made", 2, () -> Leagues.league(4).make(1));
        Check.due("none can be made", 0, () -> hopeless(Leagues.league(4)).make(1));
    }

    private static void promise8GreatestBudget() {
        Check.due("found", 1, () -> Leagues.league(4).make(4000));
        Check.due("none", 0, () -> hopeless(Leagues.league(4)).make(4000));
        Check.due("too few", 2, () -> capped(8, 1).make(4000));
    }

    private static void promise8NoSuchBudget() {
        for (int budget : new int[] {0, -1, 4001, LEAST, GREATEST}) {
            Twins.refused(budget + ", new", ARGUMENT, LeagueRounds::new, x -> x.make(budget));
            Twins.refused(budget + ", wishes", ARGUMENT, Leagues::wishes, x -> x.make(budget));
            Twins.refused(budget + ", season", ARGUMENT, Leagues::season, x -> x.make(budget));
        }
    }

    private static void promise8JustEnoughWithoutWishes() {
        exactly("four teams", 1, 6, Leagues.league(4));
        exactly("five teams", 1, 21, Leagues.league(5));
        exactly("six teams", 1, 21, Leagues.league(6));
        exactly("seven teams", 1, 28, Leagues.league(7));
        exactly("eight teams", 1, 28, Leagues.league(8));
    }

    private static void promise8JustEnoughToFindNone() {
        exactly("four teams, never twice away", 0, 66, capped(4, 1));
        exactly("six teams, never twice away", 0, 3910, capped(6, 1));
    }

    private static void promise8FoundWithTheGreatestBudget() {
        LeagueRounds x = capped(7, 1);
        x.fixGame(1, 5, 0);
        x.shareGround(0, 2);
        exactly("seven teams", 1, 4000, x);
        Check.due("all wishes are kept", 0, x::verify);
    }

    private static void promise8NoneWithTheGreatestBudget() {
        LeagueRounds x = Leagues.league(5);
        x.ban(1, 1, 1);
        x.ban(4, 2, 1);
        x.fixGame(0, 3, 3);
        x.fixGame(2, 4, 2);
        exactly("five teams", 0, 4000, x);
    }

    private static void promise8OneChoiceMoreThanTheGreatestBudget() {
        LeagueRounds one = Leagues.league(6);
        one.ban(5, 4, 1);
        one.ban(1, 4, 1);
        one.ban(0, 3, 0);
        one.ban(2, 4, 1);
        Check.due("the 4001st would end a timetable", 2, () -> one.make(4000));
        LeagueRounds none = Leagues.league(6);
        none.ban(5, 2, 1);
        none.shareGround(2, 5);
        none.ban(2, 1, 0);
        none.fixGame(0, 5, 2);
        Check.due("the 4001st would be the last of all", 2, () -> none.make(4000));
    }

    private static void promise8ABudgetIsForOneCall() {
        LeagueRounds x = Leagues.league(4);
        Check.due("first", 1, () -> x.make(6));
        Check.due("second", 1, () -> x.make(6));
        Check.due("too few", 2, () -> x.make(5));
        Check.due("again", 1, () -> x.make(6));
    }

    // At most 8 teams.

    private static void promise8EightTeams() {
        LeagueRounds x = Leagues.league(8);
        Check.due("found", 1, () -> x.make(28));
        Check.due("rounds", 7, x::rounds);
        Check.same("first round", "0-1 2-3 4-5 6-7", Leagues.round(x, 8, 0));
        Check.same("last round", "0-7 1-6 2-5 3-4", Leagues.round(x, 8, 6));
    }

    private static void promise8NineTeams() {
        Twins.refused("no timetable", STATE, () -> Leagues.league(9), x -> x.make(4000));
        Twins.refused("a timetable", STATE, () -> Leagues.plain(9, true), x -> x.make(1));
        Twins.refused("twenty", STATE, () -> Leagues.plain(20, true), x -> x.make(4000));
    }

    private static void promise8NineTeamsAndNoSuchBudget() {
        Twins.refused("0", ARGUMENT, () -> Leagues.plain(9, false), x -> x.make(0));
        Twins.refused("4001", ARGUMENT, () -> Leagues.plain(9, false), x -> x.make(4001));
    }

    private static void promise8EightAgainAfterNine() {
        LeagueRounds x = Leagues.league(9);
        Check.dueThrow("nine", STATE, () -> x.make(28));
        x.teams(8);
        Check.due("eight", 1, () -> x.make(28));
    }

    // Found: results, washed out rounds and dates are gone. Not found: all stays.

    private static LeagueRounds seasonOfNone() {
        return hopeless(Leagues.season());
    }

    private static void promise8NoneAndAllStays() {
        Twins.stays("a season", 0, SearchBoundaryTest::seasonOfNone, x -> x.make(4000));
        Twins.stays("no timetable", 0, () -> hopeless(Leagues.wishes()), x -> x.make(1));
        Twins.stays("after 66 choices", 0, () -> capped(4, 1), x -> x.make(66));
    }

    private static void promise8TooFewAndAllStays() {
        Twins.stays("a season", 2, Leagues::season, x -> x.make(1));
        Twins.stays("a season, later", 2, Leagues::season, x -> x.make(15));
        Twins.stays("no timetable", 2, Leagues::wishes, x -> x.make(5));
    }

    private static void promise8FoundAndTheSeasonIsGone() {
        LeagueRounds x = Leagues.season();
        Check.due("found", 1, () -> x.make(4000));
        Check.due("single", 5, x::rounds);
        Check.due("missing", 0, x::missing);
        Check.same("the table", "0 0 0 0 0 0 0 0", Leagues.row(x, 0));
        Check.due("verify", 0, x::verify);
        for (int round = 0; round < 5; round++) {
            for (int team = 0; team < 5; team++) {
                if (x.venue(team, round) == 1) {
                    int r = round;
                    int t = team;
                    Check.due("date of " + t + " in " + r, NONE, () -> x.catchDate(r, t));
                }
            }
        }
        Check.due("the first date", 1, () -> x.reserve(40));
        Check.due("rounds can be exchanged", 1, () -> x.swapRounds(2, 2) ? 1 : 0);
    }

    private static void promise8FoundAndTheWishesStay() {
        LeagueRounds x = Leagues.wishes();
        Check.due("found", 1, () -> x.make(4000));
        Check.due("bans", 2, () -> x.ban(0, 38, 0));
        Check.due("pairs", 2, () -> x.shareGround(1, 2));
        Check.due("fixed games", 2, () -> x.fixGame(3, 2, 0));
        LeagueRounds y = capped(4, 2);
        Check.due("found with a cap", 1, () -> y.make(6));
        y.makePlain(true);
        Check.due("the cap", 5, y::verify);
    }

    private static void promise8FoundAfterASeasonLikeBeforeIt() {
        LeagueRounds played = Leagues.season();
        LeagueRounds fresh = Leagues.league(5);
        fresh.ban(0, 0, 0);
        fresh.ban(4, 9, 1);
        fresh.shareGround(0, 1);
        fresh.fixGame(1, 4, 0);
        fresh.awayCap(3);
        Check.due("played", 1, () -> played.make(4000));
        Check.due("fresh", 1, () -> fresh.make(4000));
        Check.same("all that is asked", Probe.of(fresh), Probe.of(played));
    }

    private static void promise8FoundAfterAsMuchAsThereMayBe() {
        LeagueRounds x = Leagues.plain(4, true);
        for (int round = 0; round < 4; round++) {
            x.washOut(round);
        }
        for (int date = 0; date < 6; date++) {
            x.reserve(date);
        }
        Check.due("found", 1, () -> x.make(6));
        for (int round = 0; round < 3; round++) {
            int r = round;
            Check.due("washOut " + r, 2, () -> x.washOut(r));
        }
        Check.due("reserve", 1, () -> x.reserve(0));
    }

    // The order of the search.

    private static void termsTheLeastOpponentFirstAndAtHomeFirst() {
        LeagueRounds x = Leagues.league(4);
        x.make(6);
        Check.same("no wish", "0-1 2-3 | 0-2 1-3 | 0-3 1-2", Leagues.timetable(x, 4));
        x.ban(0, 0, 0);
        Check.due("0 not at home: away against the same", 1, () -> x.make(6));
        Check.same("away next", "1-0 2-3", Leagues.round(x, 4, 0));
        x.ban(1, 0, 0);
        Check.due("1 neither: the next opponent", 1, () -> x.make(6));
        Check.same("the next", "2-0 3-1", Leagues.round(x, 4, 0));
        x.ban(2, 0, 0);
        // Then 3-0 and behind it one of 1 and 2 at home: no more.
        Check.due("2 neither: one home game for two", 0, () -> x.make(4000));
    }

    private static void termsTheByeIsTheLastChoice() {
        LeagueRounds x = Leagues.league(5);
        x.make(21);
        Check.due("0 has it in the last round", NONE, () -> x.opponent(0, 4));
        Check.due("4, for whom none is left, in the first", NONE, () -> x.opponent(4, 0));
    }

    private static void termsEachHasOneBye() {
        for (int n = 5; n <= 7; n += 2) {
            LeagueRounds x = Leagues.league(n);
            x.make(28);
            for (int team = 0; team < n; team++) {
                int byes = 0;
                for (int round = 0; round < n; round++) {
                    byes += x.opponent(team, round) == NONE ? 1 : 0;
                }
                Check.same(team + " of " + n, "1", "" + byes);
            }
        }
    }

    private static void termsNoByeWithAnEvenNumber() {
        LeagueRounds x = Leagues.league(4);
        x.ban(0, 0, 0);
        x.ban(0, 0, 1);
        Check.due("0 can have no game", 0, () -> x.make(1));
        LeagueRounds y = Leagues.league(5);
        y.ban(0, 0, 0);
        y.ban(0, 0, 1);
        Check.due("with five it has the bye", 1, () -> y.make(4000));
        Check.same("so", "(0) 1-2 3-4", Leagues.round(y, 5, 0));
    }

    private static void termsASecondByeInARoundIsAChoice() {
        LeagueRounds x = Leagues.league(5);
        x.fixGame(2, 3, 0);
        x.fixGame(2, 4, 0);
        // 0-1, 1-0, the bye of 0 and behind it that of 1.
        exactly("two byes", 0, 4, x);
    }

    // Wishes at their edges.

    private static void termsABanInTheFirstRound() {
        LeagueRounds x = Leagues.league(4);
        x.ban(1, 0, 1);
        Check.due("found", 1, () -> x.make(6));
        Check.same("1 is at home", "1-0 2-3", Leagues.round(x, 4, 0));
    }

    private static void termsABanInTheLastRound() {
        LeagueRounds x = Leagues.league(4);
        x.ban(3, 2, 1);
        Check.due("found", 1, () -> x.make(6));
        Check.same("3 is at home", "1-2 3-0", Leagues.round(x, 4, 2));
    }

    private static void termsABanInTheNextRoundAfterTheLast() {
        LeagueRounds x = Leagues.league(4);
        for (int team = 0; team < 4; team++) {
            x.ban(team, 3, 0);
            x.ban(team, 3, 1);
            x.ban(team, 38, 0);
            x.ban(team, 38, 1);
        }
        Check.due("counts for nothing", 1, () -> x.make(6));
        Check.same("so", "0-1 2-3 | 0-2 1-3 | 0-3 1-2", Leagues.timetable(x, 4));
    }

    private static void termsAsManyPairsAsThereMayBe() {
        LeagueRounds x = Leagues.league(4);
        for (int a = 0; a < 4; a++) {
            for (int b = a + 1; b < 4; b++) {
                x.shareGround(a, b);
            }
        }
        // Each of the six games of 0 can be made, and behind none a second one.
        exactly("all share one ground", 0, 6, x);
    }

    private static void termsThePairThatCameSixth() {
        LeagueRounds x = Leagues.league(4);
        for (int i = 0; i < 5; i++) {
            x.shareGround(0, 1);
        }
        x.shareGround(2, 0);
        Check.due("found", 1, () -> x.make(4000));
        Check.same("not 0 and 2 at home", "0-1 3-2", Leagues.round(x, 4, 0));
    }

    private static void termsAsManyFixedGamesAsThereMayBe() {
        LeagueRounds x = Leagues.league(4);
        x.fixGame(3, 0, 0);
        x.fixGame(2, 1, 0);
        x.fixGame(0, 2, 1);
        x.fixGame(1, 3, 1);
        x.fixGame(1, 0, 2);
        x.fixGame(3, 2, 2);
        exactly("all games are fixed", 1, 6, x);
        Check.same("so", "2-1 3-0 | 0-2 1-3 | 1-0 3-2", Leagues.timetable(x, 4));
        Check.due("kept", 0, x::verify);
    }

    private static void termsAFixedGameInTheLastRound() {
        LeagueRounds x = Leagues.league(4);
        x.fixGame(1, 0, 2);
        Check.due("found", 1, () -> x.make(4000));
        Check.same("they don't meet before", "0-2 1-3 | 0-3 1-2 | 1-0 2-3", Leagues.timetable(x, 4));
    }

    private static void termsAFixedGameInTheNextRoundAfterTheLast() {
        LeagueRounds x = Leagues.league(4);
        x.fixGame(0, 1, 3);
        Check.due("there is none", 0, () -> x.make(4000));
        // The search does begin: 0-2 is made.
        Check.due("but choices are made", 2, () -> x.make(1));
        LeagueRounds y = Leagues.league(5);
        y.fixGame(0, 1, 5);
        Check.due("five teams: choices are made", 2, () -> y.make(1));
    }

    private static void termsATeamOfAFixedGameHasNoBye() {
        LeagueRounds x = Leagues.league(5);
        x.fixGame(4, 3, 0);
        Check.due("found", 1, () -> x.make(4000));
        Check.same("the bye is of another", "0-1 (2) 4-3", Leagues.round(x, 5, 0));
        LeagueRounds home = Leagues.league(5);
        home.fixGame(0, 1, 0);
        home.ban(0, 0, 0);
        exactlyNoChoice("the home team, which can't have its game", home);
        LeagueRounds away = Leagues.league(5);
        away.fixGame(1, 0, 0);
        away.ban(0, 0, 1);
        exactlyNoChoice("the away team, which can't", away);
    }

    private static void termsTwoFixedGamesOfATeamInOneRound() {
        exactlyNoChoice("0 at home twice", hopeless(Leagues.league(4)));
        LeagueRounds both = Leagues.league(4);
        both.fixGame(0, 1, 0);
        both.fixGame(1, 0, 0);
        exactlyNoChoice("both ways", both);
    }

    private static void exactlyNoChoice(String what, LeagueRounds x) {
        Check.due(what, 0, () -> x.make(1));
    }

    private static void termsTheSameFixedGameTwice() {
        LeagueRounds x = Leagues.league(4);
        x.fixGame(3, 0, 0);
        x.fixGame(3, 0, 0);
        Check.due("found", 1, () -> x.make(6));
        Check.same("so", "1-2 3-0", Leagues.round(x, 4, 0));
    }

    private static void termsAsManyAwayGamesAsTheCap() {
        LeagueRounds three = capped(4, 3);
        Check.due("three", 1, () -> three.make(6));
        Check.same("3 is away three times", "0-1 2-3 | 0-2 1-3 | 0-3 1-2", Leagues.timetable(three, 4));
        LeagueRounds two = capped(4, 2);
        Check.due("two", 1, () -> two.make(6));
        Check.same("3 is away twice", "0-1 2-3 | 0-2 1-3 | 1-2 3-0", Leagues.timetable(two, 4));
        LeagueRounds greatest = capped(4, 19);
        Check.due("nineteen", 1, () -> greatest.make(6));
        Check.same("as without a cap", "0-1 2-3 | 0-2 1-3 | 0-3 1-2", Leagues.timetable(greatest, 4));
    }

    private static void termsAByeEndsASuccession() {
        LeagueRounds x = capped(5, 1);
        exactly("five teams, never twice away", 1, 30, x);
        Check.due("kept", 0, x::verify);
    }

    private static void termsNoCap() {
        LeagueRounds x = capped(8, 1);
        x.awayCap(0);
        exactly("eight teams", 1, 28, x);
        // The last team is away in every round.
        for (int round = 0; round < 7; round++) {
            int r = round;
            Check.due("7 in " + r, 0, () -> x.venue(7, r));
        }
    }
}
