/** The boundaries of the plain timetable, and those that promises 7 and 9 to 12 name. */
public final class TimetableBoundaryTest {
    private static final int LEAST = Integer.MIN_VALUE;
    private static final int GREATEST = Integer.MAX_VALUE;
    private static final int NONE = LeagueRounds.NONE;
    private static final Class<IndexOutOfBoundsException> INDEX = IndexOutOfBoundsException.class;

    public static void main(String[] args) {
        Check.runAll(TimetableBoundaryTest.class);
        Check.end();
    }

    /** A round of a plain timetable, of an object of its own: one has not enough calls for all rounds. */
    private static String plainRound(int n, boolean twice, int round) {
        return Leagues.round(Leagues.plain(n, twice), n, round);
    }

    private static int singleRounds(int n) {
        return n % 2 == 0 ? n - 1 : n;
    }

    /** How often each two teams meet in a single plain timetable, and, at [t][t], how many byes a team has. */
    private static int[][] meetings(int n) {
        int[][] count = new int[n][n];
        for (int round = 0; round < singleRounds(n); round++) {
            LeagueRounds x = Leagues.plain(n, false);
            for (int team = 0; team < n; team++) {
                int other = x.opponent(team, round);
                count[team][other == NONE ? team : other]++;
            }
        }
        return count;
    }

    // Terms: how a timetable is made.

    private static void termsEveryTwoMeetOnce() {
        for (int n = 4; n <= 20; n++) {
            int[][] count = meetings(n);
            for (int a = 0; a < n; a++) {
                for (int b = 0; b < n; b++) {
                    int due = a == b ? n % 2 : 1;
                    Check.same(a + " and " + b + " of " + n, "" + due, "" + count[a][b]);
                }
            }
        }
    }

    private static void termsOneIsAtHomeAndOneAway() {
        for (int n = 4; n <= 20; n++) {
            for (int round = 0; round < singleRounds(n); round++) {
                LeagueRounds x = Leagues.plain(n, false);
                int byes = 0;
                for (int team = 0; team < n; team++) {
                    int other = x.opponent(team, round);
                    boolean fits = other == NONE
                            ? x.venue(team, round) == NONE
                            : x.opponent(other, round) == team && x.venue(team, round) + x.venue(other, round) == 1;
                    Check.dueTrue("team " + team + " of " + n + " in " + round, fits);
                    byes += other == NONE ? 1 : 0;
                }
                Check.same("byes of " + n + " in " + round, "" + n % 2, "" + byes);
            }
        }
    }

    private static void termsDoubleIsTheSameAgainTurnedRound() {
        for (int n = 4; n <= 20; n++) {
            int single = singleRounds(n);
            for (int round = 0; round < single; round++) {
                LeagueRounds x = Leagues.plain(n, true);
                Check.same("round " + round + " of " + n, plainRound(n, false, round), Leagues.round(x, n, round));
                boolean fits = true;
                for (int team = 0; team < n; team++) {
                    int venue = x.venue(team, round);
                    fits &= x.opponent(team, single + round) == x.opponent(team, round);
                    fits &= x.venue(team, single + round) == (venue == NONE ? NONE : 1 - venue);
                }
                Check.dueTrue("round " + (single + round) + " of " + n, fits);
            }
        }
    }

    private static void termsPlainFirstRound() {
        Check.same("4", "0-3 1-2", plainRound(4, false, 0));
        Check.same("5", "(0) 1-4 3-2", plainRound(5, false, 0));
        Check.same("19", "(0) 1-18 3-16 5-14 7-12 9-10 11-8 13-6 15-4 17-2", plainRound(19, false, 0));
        Check.same("20", "0-19 1-18 3-16 5-14 7-12 9-10 11-8 13-6 15-4 17-2", plainRound(20, false, 0));
    }

    private static void termsPlainWrapsAround() {
        Check.same("4, last", "0-1 2-3", plainRound(4, false, 2));
        Check.same("5, last", "0-3 2-1 (4)", plainRound(5, false, 4));
        Check.same("19, last", "0-17 2-15 4-13 6-11 8-9 10-7 12-5 14-3 16-1 (18)", plainRound(19, false, 18));
        Check.same("20, last", "0-17 2-15 4-13 6-11 8-9 10-7 12-5 14-3 16-1 18-19", plainRound(20, false, 18));
        Check.same("20, the one before", "1-14 3-12 5-10 7-8 9-6 11-4 13-2 15-0 18-16 19-17", plainRound(20, false, 17));
        Check.same("20, last of double", "1-16 3-14 5-12 7-10 9-8 11-6 13-4 15-2 17-0 19-18", plainRound(20, true, 37));
    }

    // Promise 7: the plain timetable, wishes or not; results, washed out rounds and dates are gone.

    private static void promise7RoundsOfEachNumber() {
        for (int n = 4; n <= 20; n++) {
            int single = singleRounds(n);
            LeagueRounds x = Leagues.league(n);
            Check.due("single of " + n, single, () -> x.makePlain(false));
            Check.due("double of " + n, 2 * single, () -> x.makePlain(true));
        }
    }

    private static void promise7SingleAfterDouble() {
        LeagueRounds x = Leagues.plain(4, true);
        Check.due("the last of double", 1, () -> x.opponent(0, 5));
        x.makePlain(false);
        Check.due("the last of single", 1, () -> x.opponent(0, 2));
        Check.dueThrow("the next", INDEX, () -> x.opponent(0, 3));
    }

    private static void promise7DoubleAfterSingle() {
        LeagueRounds x = Leagues.plain(20, false);
        Check.dueThrow("the next after the last of single", INDEX, () -> x.opponent(0, 19));
        x.makePlain(true);
        Check.due("is there", 0, () -> x.venue(0, 19));
        Check.dueThrow("the next after the last of double", INDEX, () -> x.opponent(0, 38));
    }

    private static void promise7WishesOrNot() {
        LeagueRounds x = Leagues.league(4);
        for (int round = 0; round < 6; round++) {
            for (int team = 0; team < 4; team++) {
                x.ban(team, round, 0);
                x.ban(team, round, 1);
            }
        }
        for (int i = 0; i < 6; i++) {
            x.shareGround(0, 1);
            x.fixGame(3, 0, 0);
        }
        x.awayCap(1);
        Check.due("rounds", 6, () -> x.makePlain(true));
        Check.same("round 0", "0-3 1-2", Leagues.round(x, 4, 0));
        Check.due("the wishes stay", 48, () -> x.ban(0, 0, 0));
        Check.due("and are broken", 2, x::verify);
    }

    private static void promise7TheWishesStay() {
        LeagueRounds x = Leagues.wishes();
        x.makePlain(true);
        Check.due("bans", 2, () -> x.ban(0, 38, 0));
        Check.due("pairs", 2, () -> x.shareGround(1, 2));
        Check.due("fixed games", 2, () -> x.fixGame(3, 2, 0));
        LeagueRounds y = Leagues.league(4);
        y.awayCap(2);
        y.makePlain(true);
        Check.due("the cap", 5, y::verify);
    }

    private static void promise7ResultsAreGone() {
        LeagueRounds x = Leagues.plain(4, false);
        x.result(0, 0, 1, 0);
        x.result(1, 2, 1, 0);
        x.makePlain(false);
        Check.same("the table", "0 0 0 0 0 0 0 0", Leagues.row(x, 0));
        Check.due("the first one", 1, () -> x.result(0, 0, 1, 0));
    }

    private static void promise7WashedOutRoundsAreGone() {
        LeagueRounds x = Leagues.plain(4, true);
        for (int round = 0; round < 4; round++) {
            x.washOut(round);
        }
        x.makePlain(true);
        Check.due("missing", 0, x::missing);
        for (int round = 0; round < 4; round++) {
            int r = round;
            Check.due("again " + r, 2, () -> x.washOut(r));
        }
    }

    private static void promise7DatesAreGone() {
        LeagueRounds x = Leagues.plain(4, true);
        x.washOut(0);
        for (int date = 0; date < 6; date++) {
            x.reserve(date);
        }
        x.catchUp();
        x.makePlain(true);
        Check.due("the game's", NONE, () -> x.catchDate(0, 0));
        x.washOut(0);
        Check.due("still", NONE, () -> x.catchDate(0, 0));
        Check.due("none to catch up on", NONE, x::catchUp);
        Check.due("the first of six", 1, () -> x.reserve(0));
    }

    private static void promise7AfterASeasonLikeBeforeIt() {
        LeagueRounds played = Leagues.season();
        LeagueRounds fresh = Leagues.league(5);
        fresh.ban(0, 0, 0);
        fresh.ban(4, 9, 1);
        fresh.shareGround(0, 1);
        fresh.fixGame(1, 4, 0);
        fresh.awayCap(3);
        played.makePlain(true);
        fresh.makePlain(true);
        Check.same("all that is asked", Probe.of(fresh), Probe.of(played));
    }

    private static void promise7PlainAgainAfterAnExchange() {
        LeagueRounds x = Leagues.plain(4, false);
        x.swapRounds(0, 2);
        Check.same("exchanged", "0-1 2-3", Leagues.round(x, 4, 0));
        x.makePlain(false);
        Check.same("plain", "0-3 1-2 | 2-0 3-1 | 0-1 2-3", Leagues.timetable(x, 4));
    }

    // Promise 9: how many rounds the timetable has; 0 when there is none.

    private static void promise9None() {
        Check.due("new", 0, () -> new LeagueRounds().rounds());
        Check.due("teams", 0, () -> Leagues.league(20).rounds());
        LeagueRounds x = Leagues.season();
        x.teams(5);
        Check.due("teams, when there was one", 0, x::rounds);
        LeagueRounds y = Leagues.league(4);
        y.make(5);
        Check.due("none was found", 0, y::rounds);
    }

    private static void promise9LeastAndGreatest() {
        Check.due("single of 4", 3, () -> Leagues.plain(4, false).rounds());
        Check.due("double of 4", 6, () -> Leagues.plain(4, true).rounds());
        Check.due("single of 5", 5, () -> Leagues.plain(5, false).rounds());
        Check.due("double of 19", 38, () -> Leagues.plain(19, true).rounds());
        Check.due("double of 20", 38, () -> Leagues.plain(20, true).rounds());
    }

    private static void promise9Found() {
        for (int n = 4; n <= 8; n++) {
            LeagueRounds x = Leagues.plain(n, true);
            Check.due("found " + n, 1, () -> x.make(28));
            Check.due("single of " + n, singleRounds(n), x::rounds);
        }
    }

    // Promise 10: a team's opponent in a round; NONE for a bye.

    private static void promise10FirstAndLast() {
        LeagueRounds x = Leagues.plain(20, true);
        Check.due("first team, first round", 19, () -> x.opponent(0, 0));
        Check.due("last team, first round", 0, () -> x.opponent(19, 0));
        Check.due("first team, last round", 17, () -> x.opponent(0, 37));
        Check.due("last team, last round", 18, () -> x.opponent(19, 37));
    }

    private static void promise10Bye() {
        LeagueRounds x = Leagues.plain(5, true);
        Check.due("first round", NONE, () -> x.opponent(0, 0));
        Check.due("last of single", NONE, () -> x.opponent(4, 4));
        Check.due("last of double", NONE, () -> x.opponent(4, 9));
    }

    private static void promise10NoSuchTeam() {
        for (int team : new int[] {-1, 5, LEAST, GREATEST}) {
            Check.dueThrow("" + team, INDEX, () -> Leagues.plain(5, false).opponent(team, 0));
        }
        Check.dueThrow("20 of twenty", INDEX, () -> Leagues.plain(20, true).opponent(20, 0));
        Check.dueThrow("NONE", INDEX, () -> Leagues.plain(20, true).opponent(NONE, 0));
    }

    private static void promise10NoSuchRound() {
        for (int round : new int[] {-1, 5, LEAST, GREATEST}) {
            Check.dueThrow("" + round, INDEX, () -> Leagues.plain(5, false).opponent(0, round));
        }
        Check.dueThrow("38 of twenty", INDEX, () -> Leagues.plain(20, true).opponent(19, 38));
        Check.dueThrow("no timetable", INDEX, () -> Leagues.league(5).opponent(0, 0));
        Twins.refused("of a season", INDEX, Leagues::season, x -> x.opponent(0, 10));
    }

    // Promise 11: 1 at home, 0 away, NONE for a bye.

    private static void promise11FirstAndLast() {
        LeagueRounds x = Leagues.plain(20, true);
        Check.due("first team, first round", 1, () -> x.venue(0, 0));
        Check.due("last team, first round", 0, () -> x.venue(19, 0));
        Check.due("first team, last round", 0, () -> x.venue(0, 37));
        Check.due("last team, last round", 1, () -> x.venue(19, 37));
    }

    private static void promise11Bye() {
        LeagueRounds x = Leagues.plain(5, true);
        Check.due("first round", NONE, () -> x.venue(0, 0));
        Check.due("last of single", NONE, () -> x.venue(4, 4));
        Check.due("last of double", NONE, () -> x.venue(4, 9));
    }

    private static void promise11NoSuchTeam() {
        for (int team : new int[] {-1, 5, LEAST, GREATEST}) {
            Check.dueThrow("" + team, INDEX, () -> Leagues.plain(5, false).venue(team, 0));
        }
        Check.dueThrow("20 of twenty", INDEX, () -> Leagues.plain(20, true).venue(20, 0));
    }

    private static void promise11NoSuchRound() {
        for (int round : new int[] {-1, 5, LEAST, GREATEST}) {
            Check.dueThrow("" + round, INDEX, () -> Leagues.plain(5, false).venue(0, round));
        }
        Check.dueThrow("38 of twenty", INDEX, () -> Leagues.plain(20, true).venue(19, 38));
        Check.dueThrow("no timetable", INDEX, () -> Leagues.league(5).venue(0, 0));
        Twins.refused("of a season", INDEX, Leagues::season, x -> x.venue(0, 10));
    }

    // Promise 12: the breaks of a team, or of all for NONE.

    private static void promise12NoTimetable() {
        LeagueRounds x = Leagues.league(20);
        Check.due("first team", 0, () -> x.breaks(0));
        Check.due("last team", 0, () -> x.breaks(19));
        Check.due("all", 0, () -> x.breaks(NONE));
        Check.dueThrow("no team", INDEX, () -> x.breaks(20));
    }

    private static void promise12TheFewest() {
        for (int n = 4; n <= 20; n++) {
            LeagueRounds x = Leagues.plain(n, false);
            Check.due("all of " + n, n % 2 == 0 ? n - 2 : 0, () -> x.breaks(NONE));
        }
    }

    private static void promise12FirstAndLastTeam() {
        // Home, away, home, away, home, away; and the last team the other way round.
        LeagueRounds x = Leagues.plain(4, true);
        Check.due("first", 0, () -> x.breaks(0));
        Check.due("second: home, thrice away, twice home", 3, () -> x.breaks(1));
        Check.due("third: away, thrice home, twice away", 3, () -> x.breaks(2));
        Check.due("last", 0, () -> x.breaks(3));
        Check.due("all", 6, () -> x.breaks(NONE));
    }

    private static void promise12FirstTwoAndLastTwoRounds() {
        LeagueRounds x = Leagues.plain(4, false);
        // Team 1 is home, away, away, and team 2 away, home, home: the last two rounds.
        Check.due("1, the last two", 1, () -> x.breaks(1));
        Check.due("2, the last two", 1, () -> x.breaks(2));
        x.swapRounds(0, 2);
        Check.due("1, the first two", 1, () -> x.breaks(1));
        Check.due("2, the first two", 1, () -> x.breaks(2));
    }

    private static void promise12AByeIsNoBreak() {
        LeagueRounds x = Leagues.plain(5, false);
        // Team 0: bye, away, home, away, home.
        Check.due("bye first", 0, () -> x.breaks(0));
        x.swapRounds(0, 3);
        // Away, away, home, bye, home.
        Check.due("a bye between two home games", 1, () -> x.breaks(0));
        LeagueRounds y = Leagues.plain(5, true);
        // Team 4: away, home, away, home, bye, and then home, away, home, away, bye.
        Check.due("a bye in the middle and at the end", 0, () -> y.breaks(4));
        // Team 0: bye, away, home, away, home, and then bye, home, away, home, away.
        Check.due("home, bye, home", 0, () -> y.breaks(0));
        y.swapRounds(1, 5);
        // Bye, bye, and then home and away by turns.
        Check.due("two byes in succession", 0, () -> y.breaks(0));
    }

    private static void promise12AsManyAsThereMayBe() {
        LeagueRounds x = Leagues.awayFirst(0);
        // Nineteen times away and then nineteen times at home.
        Check.due("twice eighteen", 36, () -> x.breaks(0));
    }

    private static void promise12AllAreTheSumOfEach() {
        LeagueRounds[] each = {Leagues.plain(4, true), Leagues.season(), Leagues.plain(20, true),
            Leagues.awayFirst(0), Leagues.awayLast(19)};
        int[] teams = {4, 5, 20, 20, 20};
        for (int i = 0; i < each.length; i++) {
            LeagueRounds x = each[i];
            int sum = 0;
            for (int team = 0; team < teams[i]; team++) {
                sum += x.breaks(team);
            }
            Check.due("timetable " + i, sum, () -> x.breaks(NONE));
        }
    }

    private static void promise12NoSuchTeam() {
        for (int team : new int[] {-2, 5, LEAST, GREATEST}) {
            Twins.refused("" + team, INDEX, Leagues::season, x -> x.breaks(team));
        }
        Check.dueThrow("20 of twenty", INDEX, () -> Leagues.plain(20, true).breaks(20));
        Check.dueThrow("4 of a new object", INDEX, () -> new LeagueRounds().breaks(4));
    }
}
