import java.util.NoSuchElementException;

/** Each promise of the document: ordinary inputs, the edges that it names, and wrong inputs. */
public final class PromisesTest {
    private static final int NONE = LeagueRounds.NONE;
    private static final Class<IllegalArgumentException> ARGUMENT = IllegalArgumentException.class;
    private static final Class<IllegalStateException> STATE = IllegalStateException.class;
    private static final Class<IndexOutOfBoundsException> INDEX = IndexOutOfBoundsException.class;
    private static final Class<NoSuchElementException> ELEMENT = NoSuchElementException.class;

    public static void main(String[] args) {
        Check.runAll(PromisesTest.class);
        Check.end();
    }

    private static void promise1NewObject() {
        LeagueRounds x = new LeagueRounds();
        Check.due("1 no timetable", 0, x::rounds);
        Check.due("1 no timetable to verify", 1, x::verify);
        Check.due("1 no game missing", 0, x::missing);
        Check.due("1 team 3 is there", 0, () -> x.breaks(3));
        Check.dueThrow("1 team 4 is not", INDEX, () -> x.breaks(4));
        Check.due("1 four teams make three rounds", 3, () -> x.makePlain(false));
        Check.due("1 no wishes", 0, x::verify);
        Check.due("1 no bans", 1, () -> x.ban(0, 0, 0));
        Check.due("1 no pairs", 1, () -> x.shareGround(0, 1));
        Check.due("1 no fixed games", 1, () -> x.fixGame(0, 1, 0));
        Check.due("1 no dates", 1, () -> x.reserve(0));
    }

    private static void promise2Teams() {
        LeagueRounds x = Leagues.plain(20, false);
        Check.due("2 twenty teams", 19, x::rounds);
        x.ban(19, 0, 0);
        x.shareGround(0, 19);
        x.fixGame(0, 19, 38);
        x.awayCap(1);
        x.result(0, 0, 1, 0);
        x.washOut(0);
        x.reserve(5);
        Check.dueThrow("2 teams(3)", ARGUMENT, Check.of(() -> x.teams(3)));
        Check.dueThrow("2 teams(21)", ARGUMENT, Check.of(() -> x.teams(21)));
        Check.dueThrow("2 teams(-4)", ARGUMENT, Check.of(() -> x.teams(-4)));
        Check.due("2 a refused call changes nothing", 19, x::rounds);
        x.teams(4);
        Check.due("2 no timetable", 0, x::rounds);
        Check.due("2 nothing missing", 0, x::missing);
        Check.due("2 no results", 0, () -> x.table(0, 7));
        Check.dueThrow("2 team 4 is gone", INDEX, () -> x.breaks(4));
        x.makePlain(true);
        Check.due("2 no cap and no other wish", 0, x::verify);
        Check.due("2 no dates", 1, () -> x.reserve(5));
        Check.due("2 no bans", 1, () -> x.ban(0, 0, 0));
        Check.due("2 no pairs", 1, () -> x.shareGround(0, 3));
        Check.due("2 no fixed games", 1, () -> x.fixGame(0, 3, 38));
        LeagueRounds y = Leagues.league(4);
        y.reserve(1);
        y.teams(4);
        Check.due("2 dates are gone without a timetable too", 1, () -> y.reserve(1));
    }

    private static void promise3Ban() {
        LeagueRounds x = Leagues.league(5);
        Check.due("3 first", 1, () -> x.ban(0, 0, 0));
        Check.due("3 the same again", 1, () -> x.ban(0, 0, 0));
        Check.due("3 the other venue", 2, () -> x.ban(0, 0, 1));
        Check.due("3 last team, last round", 3, () -> x.ban(4, 38, 1));
        Check.due("3 that again", 3, () -> x.ban(4, 38, 1));
        Check.dueThrow("3 team -1", ARGUMENT, () -> x.ban(-1, 0, 0));
        Check.dueThrow("3 team 5", ARGUMENT, () -> x.ban(5, 0, 0));
        Check.dueThrow("3 round -1", ARGUMENT, () -> x.ban(0, -1, 0));
        Check.dueThrow("3 round 39", ARGUMENT, () -> x.ban(0, 39, 0));
        Check.dueThrow("3 venue -1", ARGUMENT, () -> x.ban(0, 0, -1));
        Check.dueThrow("3 venue 2", ARGUMENT, () -> x.ban(0, 0, 2));
        for (int team = 0; team < 20; team++) {
            LeagueRounds all = Leagues.league(20);
            int count = 0;
            for (int round = 0; round < 39; round++) {
                all.ban(team, round, 0);
                count = all.ban(team, round, 1);
            }
            Check.same("3 every ban that team " + team + " can have", "78", Integer.toString(count));
        }
    }

    private static void promise4ShareGround() {
        LeagueRounds x = Leagues.league(4);
        Check.due("4 first", 1, () -> x.shareGround(0, 1));
        Check.due("4 the same again counts", 2, () -> x.shareGround(0, 1));
        Check.due("4 and turned round", 3, () -> x.shareGround(1, 0));
        Check.dueThrow("4 the same team", ARGUMENT, () -> x.shareGround(2, 2));
        Check.dueThrow("4 first no team", ARGUMENT, () -> x.shareGround(-1, 2));
        Check.dueThrow("4 second no team", ARGUMENT, () -> x.shareGround(2, 4));
        x.shareGround(0, 2);
        x.shareGround(0, 3);
        Check.due("4 sixth", 6, () -> x.shareGround(2, 3));
        Check.dueThrow("4 seventh", STATE, () -> x.shareGround(1, 2));
        Check.dueThrow("4 a wrong one when there are six", ARGUMENT, () -> x.shareGround(1, 4));
    }

    private static void promise5FixGame() {
        LeagueRounds x = Leagues.league(4);
        Check.due("5 first", 1, () -> x.fixGame(0, 1, 0));
        Check.due("5 the same again counts", 2, () -> x.fixGame(0, 1, 0));
        Check.due("5 last round", 3, () -> x.fixGame(3, 2, 38));
        Check.dueThrow("5 the same team", ARGUMENT, () -> x.fixGame(1, 1, 0));
        Check.dueThrow("5 home no team", ARGUMENT, () -> x.fixGame(4, 1, 0));
        Check.dueThrow("5 away no team", ARGUMENT, () -> x.fixGame(1, -1, 0));
        Check.dueThrow("5 round -1", ARGUMENT, () -> x.fixGame(0, 1, -1));
        Check.dueThrow("5 round 39", ARGUMENT, () -> x.fixGame(0, 1, 39));
        x.fixGame(0, 2, 1);
        x.fixGame(0, 3, 2);
        Check.due("5 sixth", 6, () -> x.fixGame(1, 2, 2));
        Check.dueThrow("5 seventh", STATE, () -> x.fixGame(1, 3, 1));
        Check.dueThrow("5 a wrong one when there are six", ARGUMENT, () -> x.fixGame(1, 3, 39));
    }

    private static void promise6AwayCap() {
        LeagueRounds x = Leagues.plain(4, false);
        Check.due("6 team 1 is home, away, away", 1, () -> x.breaks(1));
        x.awayCap(1);
        Check.due("6 two away are too many for 1", 5, x::verify);
        Check.dueThrow("6 cap -1", ARGUMENT, Check.of(() -> x.awayCap(-1)));
        Check.dueThrow("6 cap 20", ARGUMENT, Check.of(() -> x.awayCap(20)));
        Check.due("6 a refused cap changes nothing", 5, x::verify);
        x.awayCap(2);
        Check.due("6 but not for 2", 0, x::verify);
        x.awayCap(1);
        x.awayCap(19);
        Check.due("6 nor for 19", 0, x::verify);
        x.awayCap(1);
        x.awayCap(0);
        Check.due("6 0 is none", 0, x::verify);
        LeagueRounds y = Leagues.plain(5, true);
        y.awayCap(1);
        Check.due("6 a bye ends a succession, the second half goes on with it", 5, y::verify);
        LeagueRounds z = Leagues.plain(5, false);
        z.awayCap(1);
        Check.due("6 away, bye, away", 0, z::verify);
    }

    private static void promise7MakePlain() {
        LeagueRounds x = Leagues.league(4);
        Check.due("7 single of 4", 3, () -> x.makePlain(false));
        Check.same("7 plain 4", "0-3 1-2 | 2-0 3-1 | 0-1 2-3", Leagues.timetable(x, 4));
        Check.due("7 double of 4", 6, () -> x.makePlain(true));
        Check.same("7 plain double 4",
                "0-3 1-2 | 2-0 3-1 | 0-1 2-3 | 2-1 3-0 | 0-2 1-3 | 1-0 3-2", Leagues.timetable(x, 4));
        x.teams(5);
        Check.due("7 single of 5", 5, () -> x.makePlain(false));
        Check.same("7 plain 5",
                "(0) 1-4 3-2 | (1) 2-0 4-3 | 0-4 (2) 3-1 | 1-0 (3) 4-2 | 0-3 2-1 (4)", Leagues.timetable(x, 5));
        Check.due("7 double of 5", 10, () -> x.makePlain(true));
        Check.same("7 plain 5, back", "(0) 2-3 4-1", Leagues.round(x, 5, 5));
        Check.same("7 plain 5, last", "1-2 3-0 (4)", Leagues.round(x, 5, 9));
        x.teams(6);
        Check.due("7 single of 6", 5, () -> x.makePlain(false));
        Check.same("7 plain 6, first", "0-5 1-4 3-2", Leagues.round(x, 6, 0));
        Check.same("7 plain 6, last", "0-3 2-1 4-5", Leagues.round(x, 6, 4));
        x.teams(19);
        Check.due("7 double of 19", 38, () -> x.makePlain(true));
        x.teams(20);
        Check.due("7 double of 20", 38, () -> x.makePlain(true));
        x.ban(0, 0, 0);
        Check.due("7 wishes or not", 19, () -> x.makePlain(false));
        Check.due("7 at home in spite of the ban", 1, () -> x.venue(0, 0));
        Check.due("7 the ban stays", 1, () -> x.ban(0, 0, 0));
    }

    private static void promise7MakePlainForgets() {
        LeagueRounds x = Leagues.plain(4, false);
        x.reserve(3);
        x.washOut(0);
        x.catchUp();
        x.result(0, 0, 2, 1);
        x.result(1, 2, 2, 1);
        x.makePlain(false);
        Check.due("7 nothing missing", 0, x::missing);
        Check.due("7 no points", 0, () -> x.table(0, 7));
        Check.due("7 no dates", 1, () -> x.reserve(3));
        Check.due("7 no game has a date", NONE, () -> x.catchDate(0, 1));
        Check.due("7 no round is washed out", 2, () -> x.washOut(0));
        x.makePlain(true);
        Check.due("7 rounds can be exchanged again", 1, () -> x.swapRounds(0, 1) ? 1 : 0);
        Check.due("7 no results", 1, () -> x.result(0, 2, 0, 0));
    }

    private static void promise8Make() {
        LeagueRounds x = Leagues.league(4);
        Check.due("8 four teams", 1, () -> x.make(6));
        Check.same("8 the first in order", "0-1 2-3 | 0-2 1-3 | 0-3 1-2", Leagues.timetable(x, 4));
        x.teams(8);
        Check.due("8 eight teams", 1, () -> x.make(4000));
        Check.same("8 eight, first round", "0-1 2-3 4-5 6-7", Leagues.round(x, 8, 0));
        Check.same("8 eight, last round", "0-7 1-6 2-5 3-4", Leagues.round(x, 8, 6));
        Check.dueThrow("8 budget 0", ARGUMENT, () -> x.make(0));
        Check.dueThrow("8 budget -1", ARGUMENT, () -> x.make(-1));
        Check.dueThrow("8 budget 4001", ARGUMENT, () -> x.make(4001));
        x.teams(9);
        Check.dueThrow("8 nine teams", STATE, () -> x.make(4000));
        Check.dueThrow("8 nine teams and a wrong budget", ARGUMENT, () -> x.make(4001));
    }

    private static void promise8MakeBudget() {
        LeagueRounds x = Leagues.league(4);
        Check.due("8 five choices don't do", 2, () -> x.make(5));
        Check.due("8 one neither", 2, () -> x.make(1));
        Check.due("8 six do", 1, () -> x.make(6));
        x.teams(7);
        Check.due("8 a bye is a choice too, 27", 2, () -> x.make(27));
        Check.due("8 a bye is a choice too, 28", 1, () -> x.make(28));
        x.teams(4);
        x.ban(0, 0, 0);
        x.ban(0, 0, 1);
        Check.due("8 none, and no choice is made", 0, () -> x.make(1));
        x.teams(4);
        x.ban(2, 0, 0);
        x.ban(3, 0, 0);
        x.ban(1, 0, 1);
        x.ban(0, 0, 1);
        // Only 0-2 and 0-3 can be made first; behind each, 1-3 and 1-2 end the round. Then rounds 1 and 2.
        Check.due("8 both at home", 1, () -> x.make(6));
        Check.same("8 both at home, round 0", "0-2 1-3", Leagues.round(x, 4, 0));
        x.teams(4);
        x.ban(2, 0, 0);
        x.ban(2, 0, 1);
        // 0-1, 1-0, 0-3, 3-0 are made, and behind none of them does 2 find an opponent.
        Check.due("8 none with exactly four choices", 0, () -> x.make(4));
        Check.due("8 a fourth choice would be made", 2, () -> x.make(3));
    }

    private static void promise8MakeWishes() {
        LeagueRounds x = Leagues.league(4);
        x.ban(0, 1, 0);
        x.shareGround(2, 1);
        Check.due("8 ban and pair", 1, () -> x.make(4000));
        Check.same("8 ban and pair kept", "0-1 2-3 | 2-0 3-1 | 0-3 1-2", Leagues.timetable(x, 4));
        x.teams(4);
        x.fixGame(3, 0, 0);
        Check.due("8 a fixed game", 1, () -> x.make(4000));
        Check.same("8 the fixed game first", "1-2 3-0 | 0-1 2-3 | 0-2 1-3", Leagues.timetable(x, 4));
        x.teams(4);
        x.fixGame(0, 1, 2);
        Check.due("8 a fixed game late", 1, () -> x.make(4000));
        Check.same("8 they don't meet before", "0-2 1-3 | 0-3 1-2 | 0-1 2-3", Leagues.timetable(x, 4));
        x.teams(4);
        x.fixGame(0, 1, 3);
        Check.due("8 a fixed game in a round that there is not", 0, () -> x.make(4000));
        x.teams(4);
        x.fixGame(0, 1, 0);
        x.fixGame(1, 0, 0);
        Check.due("8 fixed both ways", 0, () -> x.make(4000));
        x.teams(4);
        x.awayCap(1);
        Check.due("8 four teams with single away games: there is none", 0, () -> x.make(4000));
        x.awayCap(2);
        Check.due("8 a cap of two", 1, () -> x.make(6));
        Check.same("8 3 is not away a third time", "0-1 2-3 | 0-2 1-3 | 1-2 3-0", Leagues.timetable(x, 4));
    }

    private static void promise8MakeBye() {
        LeagueRounds x = Leagues.league(5);
        Check.due("8 five teams", 1, () -> x.make(21));
        Check.same("8 the first of five",
                "0-1 2-3 (4) | 0-2 1-4 (3) | 0-3 (1) 2-4 | 0-4 1-3 (2) | (0) 1-2 3-4", Leagues.timetable(x, 5));
        Check.due("8 five: the bye comes last for team 0", NONE, () -> x.opponent(0, 4));
        Check.due("8 five: 4 has the first bye", NONE, () -> x.opponent(4, 0));
        Check.due("8 five: one choice fewer", 2, () -> x.make(20));
        x.fixGame(4, 3, 0);
        Check.due("8 a team of a fixed game has no bye then", 1, () -> x.make(4000));
        Check.same("8 the bye goes to another", "0-1 (2) 4-3", Leagues.round(x, 5, 0));
        Check.due("8 that keeps all", 0, x::verify);
        x.teams(5);
        x.ban(0, 0, 0);
        x.ban(0, 0, 1);
        Check.due("8 no game for 0 in round 0", 1, () -> x.make(4000));
        Check.same("8 so the bye", "(0) 1-2 3-4", Leagues.round(x, 5, 0));
        x.teams(4);
        x.ban(0, 0, 0);
        x.ban(0, 0, 1);
        Check.due("8 no bye with an even number", 0, () -> x.make(4000));
    }

    /** No team has a game in round 0: so each gets its bye there, and none is left for round 1. */
    private static LeagueRounds idleRound(int n) {
        LeagueRounds x = Leagues.league(n);
        for (int team = 0; team < n; team++) {
            x.ban(team, 0, 0);
            x.ban(team, 0, 1);
        }
        return x;
    }

    private static void promise8MakeByesInOneRound() {
        LeagueRounds x = Leagues.league(5);
        x.ban(0, 0, 0);
        x.ban(0, 0, 1);
        x.ban(1, 0, 0);
        x.ban(1, 0, 1);
        Check.due("8 behind the bye of 0 that of 1 would be made", 2, () -> x.make(1));
        x.teams(5);
        x.fixGame(2, 3, 0);
        x.fixGame(2, 4, 0);
        // 0-1, 1-0, the bye of 0, and behind it that of 1; 2 can have nothing behind any of them.
        Check.due("8 a second bye is counted", 0, () -> x.make(4));
        Check.due("8 a second bye is one too many", 2, () -> x.make(3));
        LeagueRounds five = idleRound(5);
        // 5 byes; in round 1 eight games of 0, and behind each four of the least of the other three.
        Check.due("8 five byes in a round", 0, () -> five.make(45));
        Check.due("8 five byes in a round, one choice fewer", 2, () -> five.make(44));
        Check.due("8 the fifth bye would be made", 2, () -> five.make(4));
        LeagueRounds seven = idleRound(7);
        // 7 byes, and in round 1 12 + 12 * 8 + 12 * 8 * 4 games.
        Check.due("8 seven byes in a round", 0, () -> seven.make(499));
        Check.due("8 seven byes in a round, one choice fewer", 2, () -> seven.make(498));
    }

    private static void promise8MakeByeBudget() {
        LeagueRounds x = Leagues.league(5);
        x.fixGame(0, 4, 4);
        x.fixGame(1, 4, 2);
        // Round 0: 0-1, 2-3, (4). Round 1: 0-2, 1-3, 3-1, (1), 3-4. Round 2: 0-3, 1-4, (2). Round 3: (0),
        // 1-2, (3), 2-1, (3), 1-3, 2-4. Round 4: 0-4, 1-2, (3).
        Check.due("8 two second byes, one choice too few", 2, () -> x.make(20));
        Check.due("8 2: no timetable", 0, x::rounds);
        Check.due("8 two second byes taken back", 1, () -> x.make(21));
        Check.same("8 each has one bye, each round one",
                "0-1 2-3 (4) | 0-2 (1) 3-4 | 0-3 1-4 (2) | (0) 1-3 2-4 | 0-4 1-2 (3)", Leagues.timetable(x, 5));
        x.teams(5);
        x.awayCap(1);
        x.ban(0, 2, 1);
        // Round 0: 0-1, 2-3, (4). Round 1: 0-2, 1-4, (3). Round 2: 0-3, 2-1, (1), (2), (0), 2-1, 4-3.
        // Round 3: 3-0, (1), 2-4, 4-2. Round 4: 0-4, 1-3, (2).
        Check.due("8 a second bye under a cap, one choice too few", 2, () -> x.make(19));
        Check.due("8 a second bye under a cap", 1, () -> x.make(20));
        Check.same("8 no team twice away",
                "0-1 2-3 (4) | 0-2 1-4 (3) | (0) 2-1 4-3 | (1) 3-0 4-2 | 0-4 1-3 (2)", Leagues.timetable(x, 5));
    }

    private static void promise8MakeForgetsOrStays() {
        LeagueRounds x = Leagues.plain(4, true);
        x.washOut(0);
        x.reserve(9);
        x.catchUp();
        x.result(1, 2, 1, 0);
        Check.due("8 not found with so few", 2, () -> x.make(2));
        Check.due("8 2: the timetable stays", 6, x::rounds);
        Check.due("8 2: what is missing stays", 2, x::missing);
        Check.due("8 2: the dates stay", 9, () -> x.catchDate(0, 0));
        x.fixGame(0, 1, 38);
        Check.due("8 there is none", 0, () -> x.make(4000));
        Check.due("8 0: the timetable stays", 6, x::rounds);
        Check.same("8 0: all of it", "0-3 1-2 | 2-0 3-1 | 0-1 2-3 | 2-1 3-0 | 0-2 1-3 | 1-0 3-2", Leagues.timetable(x, 4));
        Check.due("8 0: the results stay", 2, () -> x.table(0, 0));
        LeagueRounds y = Leagues.plain(4, true);
        y.washOut(0);
        y.reserve(9);
        y.catchUp();
        y.result(1, 2, 1, 0);
        Check.due("8 found", 1, () -> y.make(4000));
        Check.due("8 1: single", 3, y::rounds);
        Check.due("8 1: nothing missing", 0, y::missing);
        Check.due("8 1: no points", 0, () -> y.table(0, 7));
        Check.due("8 1: no game has a date", NONE, () -> y.catchDate(0, 0));
        Check.due("8 1: no dates", 1, () -> y.reserve(9));
        Check.due("8 1: no washed out round", 2, () -> y.washOut(0));
    }

    private static void promise9Rounds() {
        LeagueRounds x = Leagues.league(5);
        Check.due("9 none", 0, x::rounds);
        x.makePlain(true);
        Check.due("9 double of 5", 10, x::rounds);
        x.make(4000);
        Check.due("9 single of 5", 5, x::rounds);
        x.teams(6);
        Check.due("9 gone", 0, x::rounds);
    }

    private static void promise10Opponent() {
        LeagueRounds x = Leagues.league(5);
        Check.dueThrow("10 no timetable", INDEX, () -> x.opponent(0, 0));
        x.makePlain(false);
        Check.due("10 away team", 4, () -> x.opponent(1, 0));
        Check.due("10 home team", 1, () -> x.opponent(4, 0));
        Check.due("10 bye", NONE, () -> x.opponent(4, 4));
        Check.dueThrow("10 team -1", INDEX, () -> x.opponent(-1, 0));
        Check.dueThrow("10 team 5", INDEX, () -> x.opponent(5, 0));
        Check.dueThrow("10 round -1", INDEX, () -> x.opponent(0, -1));
        Check.dueThrow("10 round 5", INDEX, () -> x.opponent(0, 5));
    }

    private static void promise11Venue() {
        LeagueRounds x = Leagues.league(5);
        Check.dueThrow("11 no timetable", INDEX, () -> x.venue(0, 0));
        x.makePlain(false);
        Check.due("11 home", 1, () -> x.venue(1, 0));
        Check.due("11 away", 0, () -> x.venue(4, 0));
        Check.due("11 bye", NONE, () -> x.venue(0, 0));
        Check.dueThrow("11 team -1", INDEX, () -> x.venue(-1, 0));
        Check.dueThrow("11 team 5", INDEX, () -> x.venue(5, 0));
        Check.dueThrow("11 round -1", INDEX, () -> x.venue(0, -1));
        Check.dueThrow("11 round 5", INDEX, () -> x.venue(0, 5));
    }

    private static void promise12Breaks() {
        LeagueRounds x = Leagues.league(4);
        Check.due("12 no timetable", 0, () -> x.breaks(NONE));
        Check.due("12 no timetable, a team", 0, () -> x.breaks(0));
        x.makePlain(false);
        Check.due("12 home, away, home", 0, () -> x.breaks(0));
        Check.due("12 home, away, away", 1, () -> x.breaks(1));
        Check.due("12 away, home, home", 1, () -> x.breaks(2));
        Check.due("12 all", 2, () -> x.breaks(NONE));
        Check.dueThrow("12 team 4", INDEX, () -> x.breaks(4));
        Check.dueThrow("12 team -2", INDEX, () -> x.breaks(-2));
        x.makePlain(true);
        Check.due("12 double: 1 is home away away, away home home", 3, () -> x.breaks(1));
        x.teams(5);
        x.makePlain(false);
        Check.due("12 byes don't make breaks", 0, () -> x.breaks(NONE));
    }

    private static void promise13Verify() {
        LeagueRounds x = Leagues.league(4);
        x.ban(0, 0, 0);
        Check.due("13 no timetable comes first", 1, x::verify);
        x.makePlain(false);
        Check.due("13 a home ban", 2, x::verify);
        x.teams(4);
        x.makePlain(false);
        x.ban(0, 0, 1);
        Check.due("13 an away ban on a home game", 0, x::verify);
        x.ban(3, 0, 1);
        Check.due("13 an away ban", 2, x::verify);
        x.teams(4);
        x.ban(2, 4, 1);
        x.ban(2, 4, 0);
        x.makePlain(false);
        Check.due("13 a ban in a round that there is not", 0, x::verify);
        x.makePlain(true);
        Check.due("13 and when there is", 2, x::verify);
        x.teams(4);
        x.makePlain(false);
        x.shareGround(0, 3);
        Check.due("13 a pair never both at home", 0, x::verify);
        x.shareGround(2, 0);
        Check.due("13 a pair both at home in round 2", 3, x::verify);
        x.teams(4);
        x.makePlain(false);
        x.fixGame(2, 0, 1);
        Check.due("13 a fixed game kept", 0, x::verify);
        x.fixGame(0, 2, 1);
        Check.due("13 a fixed game the other way", 4, x::verify);
        x.teams(4);
        x.makePlain(false);
        x.fixGame(1, 3, 4);
        Check.due("13 a fixed game in a round that there is not", 4, x::verify);
        x.makePlain(true);
        Check.due("13 and when there is", 0, x::verify);
    }

    private static void promise13VerifyOrder() {
        LeagueRounds x = Leagues.plain(4, false);
        x.awayCap(1);
        Check.due("13 the cap", 5, x::verify);
        x.fixGame(0, 1, 0);
        Check.due("13 a fixed game before the cap", 4, x::verify);
        x.shareGround(0, 1);
        Check.due("13 a pair before a fixed game", 3, x::verify);
        x.ban(0, 0, 0);
        Check.due("13 a ban before a pair", 2, x::verify);
        LeagueRounds y = Leagues.plain(5, false);
        y.ban(0, 0, 0);
        y.ban(0, 0, 1);
        Check.due("13 a bye breaks no ban", 0, y::verify);
        y.fixGame(0, 1, 0);
        Check.due("13 a bye breaks a fixed game", 4, y::verify);
    }

    private static void promise14SwapRounds() {
        LeagueRounds x = Leagues.league(4);
        Check.dueThrow("14 no timetable", INDEX, () -> x.swapRounds(0, 0) ? 1 : 0);
        x.makePlain(false);
        Check.due("14 exchanged", 1, () -> x.swapRounds(0, 2) ? 1 : 0);
        Check.same("14 exchanged", "0-1 2-3 | 2-0 3-1 | 0-3 1-2", Leagues.timetable(x, 4));
        Check.dueThrow("14 round -1", INDEX, () -> x.swapRounds(-1, 0) ? 1 : 0);
        Check.dueThrow("14 round 3", INDEX, () -> x.swapRounds(0, 3) ? 1 : 0);
        x.ban(0, 1, 0);
        Check.due("14 a wish would be broken", 0, () -> x.swapRounds(0, 1) ? 1 : 0);
        Check.same("14 all stays", "0-1 2-3 | 2-0 3-1 | 0-3 1-2", Leagues.timetable(x, 4));
        Check.due("14 a round with itself", 1, () -> x.swapRounds(1, 1) ? 1 : 0);
        x.ban(0, 0, 0);
        Check.due("14 a wish is broken anyway", 0, () -> x.swapRounds(1, 1) ? 1 : 0);
        x.teams(4);
        x.makePlain(false);
        x.ban(0, 0, 0);
        Check.due("14 an exchange that mends", 1, () -> x.swapRounds(0, 1) ? 1 : 0);
        Check.due("14 mended", 0, x::verify);
        x.result(0, 2, 0, 0);
        Check.dueThrow("14 a result", STATE, () -> x.swapRounds(1, 2) ? 1 : 0);
        Check.dueThrow("14 no round, and a result", INDEX, () -> x.swapRounds(1, 3) ? 1 : 0);
        x.makePlain(true);
        x.washOut(5);
        Check.dueThrow("14 a washed out round", STATE, () -> x.swapRounds(1, 2) ? 1 : 0);
    }

    private static void promise14GreatestTimetable() {
        LeagueRounds x = Leagues.plain(20, true);
        x.shareGround(0, 19);
        x.awayCap(19);
        x.ban(19, 38, 0);
        Check.due("13 twenty teams: 0 and 19 take turns at home", 0, x::verify);
        int last = x.opponent(19, 37);
        Check.due("14 twenty teams, first and last round", 1, () -> x.swapRounds(0, 37) ? 1 : 0);
        Check.due("14 the last is the first now", last, () -> x.opponent(19, 0));
        Check.due("14 and the first the last", 0, () -> x.opponent(19, 37));
        Check.due("17 the last round of twenty teams", 10, () -> x.washOut(37));
        x.reserve(0);
        Check.due("20 ten games on one date", 1, x::catchUp);
        Check.due("21 the last game", 0, () -> x.catchDate(37, 0));
    }

    private static void promise15Result() {
        LeagueRounds x = Leagues.league(5);
        Check.dueThrow("15 no timetable", INDEX, () -> x.result(0, 0, 0, 0));
        x.makePlain(false);
        Check.due("15 first", 1, () -> x.result(0, 1, 99, 0));
        Check.due("15 in place of it", 1, () -> x.result(0, 1, 0, 99));
        Check.due("15 its points are the other's now", 4, () -> x.table(0, 0));
        Check.due("15 second", 2, () -> x.result(4, 2, 0, 0));
        Check.dueThrow("15 round -1", INDEX, () -> x.result(-1, 1, 0, 0));
        Check.dueThrow("15 round 5", INDEX, () -> x.result(5, 1, 0, 0));
        Check.dueThrow("15 team -1", INDEX, () -> x.result(0, -1, 0, 0));
        Check.dueThrow("15 team 5", INDEX, () -> x.result(0, 5, 0, 0));
        Check.dueThrow("15 team 5 and goals", INDEX, () -> x.result(0, 5, 100, 0));
        Check.dueThrow("15 home goals -1", ARGUMENT, () -> x.result(0, 1, -1, 0));
        Check.dueThrow("15 home goals 100", ARGUMENT, () -> x.result(0, 1, 100, 0));
        Check.dueThrow("15 away goals -1", ARGUMENT, () -> x.result(0, 1, 0, -1));
        Check.dueThrow("15 away goals 100", ARGUMENT, () -> x.result(0, 1, 0, 100));
        Check.dueThrow("15 goals before the home game", ARGUMENT, () -> x.result(0, 4, 0, 100));
        Check.dueThrow("15 away", ELEMENT, () -> x.result(0, 4, 0, 0));
        Check.dueThrow("15 bye", ELEMENT, () -> x.result(0, 0, 0, 0));
        Check.due("15 nothing came of them", 2, () -> x.result(0, 1, 0, 99));
    }

    private static void promise15ResultOfMissing() {
        LeagueRounds x = Leagues.plain(4, false);
        x.result(0, 0, 1, 1);
        x.washOut(0);
        Check.dueThrow("15 missing without a date", STATE, () -> x.result(0, 1, 0, 0));
        Check.dueThrow("15 no home game before missing", ELEMENT, () -> x.result(0, 2, 0, 0));
        Check.due("15 one that has a result is not missing", 1, () -> x.result(0, 0, 2, 1));
        Check.due("15 other rounds go on", 2, () -> x.result(1, 2, 0, 0));
        x.reserve(50);
        Check.dueThrow("15 a date that is not its own", STATE, () -> x.result(0, 1, 0, 0));
        x.catchUp();
        Check.due("15 with a date", 3, () -> x.result(0, 1, 0, 0));
        Check.due("15 and changed", 3, () -> x.result(0, 1, 5, 0));
        x.washOut(2);
        Check.dueThrow("15 missing since the catch-up", STATE, () -> x.result(2, 0, 0, 0));
    }

    private static void promise16Table() {
        LeagueRounds x = Leagues.league(6);
        Check.same("16 no timetable: by team", "0 1 2 3 4 5", Leagues.order(x, 6));
        x.makePlain(false);
        x.result(0, 0, 3, 1);
        x.result(0, 1, 2, 2);
        x.result(0, 3, 0, 4);
        x.result(4, 0, 1, 0);
        Check.same("16 first", "0 2 2 0 0 4 1 6", Leagues.row(x, 0));
        Check.same("16 second", "2 1 1 0 0 4 0 3", Leagues.row(x, 1));
        Check.same("16 third", "1 1 0 1 0 2 2 1", Leagues.row(x, 2));
        Check.same("16 fourth", "4 1 0 1 0 2 2 1", Leagues.row(x, 3));
        Check.same("16 fifth", "5 1 0 0 1 1 3 0", Leagues.row(x, 4));
        Check.same("16 last", "3 2 0 0 2 0 5 0", Leagues.row(x, 5));
        Check.dueThrow("16 place -1", INDEX, () -> x.table(-1, 0));
        Check.dueThrow("16 place 6", INDEX, () -> x.table(6, 0));
        Check.dueThrow("16 field -1", INDEX, () -> x.table(0, -1));
        Check.dueThrow("16 field 8", INDEX, () -> x.table(0, 8));
        x.result(0, 0, 1, 3);
        Check.same("16 a result changed", "5 1 1 0 0 3 1 3", Leagues.row(x, 1));
        Check.same("16 and of the other", "0 2 1 0 1 2 3 3", Leagues.row(x, 2));
    }

    private static void promise16TableOrder() {
        LeagueRounds x = Leagues.plain(8, false);
        // Round 0 of eight teams: 0-7, 1-6, 5-2, 3-4.
        Check.same("16 round 0", "0-7 1-6 3-4 5-2", Leagues.round(x, 8, 0));
        x.result(0, 0, 2, 1);
        x.result(0, 1, 1, 0);
        x.result(0, 3, 3, 2);
        x.result(0, 5, 0, 2);
        // Won: 2 by two goals, then by one goal 3 (3 goals), 0 (2), 1 (1); lost by one: 4 (2), 7 (1), 6 (0).
        Check.same("16 difference, then goals", "2 3 0 1 4 7 6 5", Leagues.order(x, 8));
        x.result(0, 1, 3, 2);
        Check.same("16 then the team", "2 1 3 0 4 6 7 5", Leagues.order(x, 8));
        x.result(0, 5, 9, 9);
        Check.same("16 points before all", "1 3 0 2 5 4 6 7", Leagues.order(x, 8));
    }

    private static void promise17WashOut() {
        LeagueRounds x = Leagues.league(5);
        Check.dueThrow("17 no timetable", INDEX, () -> x.washOut(0));
        x.makePlain(false);
        Check.dueThrow("17 round -1", INDEX, () -> x.washOut(-1));
        Check.dueThrow("17 round 5", INDEX, () -> x.washOut(5));
        Check.due("17 all games", 2, () -> x.washOut(0));
        Check.dueThrow("17 the same again", STATE, () -> x.washOut(0));
        x.result(1, 2, 0, 0);
        Check.due("17 but those with a result", 1, () -> x.washOut(1));
        x.result(2, 0, 0, 0);
        x.result(2, 3, 0, 0);
        Check.due("17 none", 0, () -> x.washOut(2));
        Check.due("17 the fourth", 2, () -> x.washOut(4));
        Check.dueThrow("17 the fifth", STATE, () -> x.washOut(3));
        Check.dueThrow("17 no round, and four", INDEX, () -> x.washOut(5));
    }

    private static void promise18Reserve() {
        LeagueRounds x = new LeagueRounds();
        Check.due("18 without a timetable", 1, () -> x.reserve(99));
        Check.due("18 the first date", 2, () -> x.reserve(0));
        Check.dueThrow("18 the same again", STATE, () -> x.reserve(99));
        Check.dueThrow("18 date -1", ARGUMENT, () -> x.reserve(-1));
        Check.dueThrow("18 date 100", ARGUMENT, () -> x.reserve(100));
        x.reserve(50);
        x.reserve(40);
        x.reserve(60);
        Check.due("18 the sixth", 6, () -> x.reserve(1));
        Check.dueThrow("18 the seventh", STATE, () -> x.reserve(2));
        Check.dueThrow("18 one that is there, and six", STATE, () -> x.reserve(1));
        Check.dueThrow("18 a wrong one, and six", ARGUMENT, () -> x.reserve(100));
    }

    private static void promise19Missing() {
        LeagueRounds x = Leagues.league(6);
        Check.due("19 no timetable", 0, x::missing);
        x.makePlain(true);
        Check.due("19 games without a result are not missing yet", 0, x::missing);
        x.washOut(9);
        Check.due("19 a round", 3, x::missing);
        x.result(0, 0, 0, 0);
        x.washOut(0);
        Check.due("19 and the rest of another", 5, x::missing);
        x.reserve(3);
        x.reserve(4);
        x.catchUp();
        Check.due("19 with a date still", 5, x::missing);
        x.result(0, 1, 0, 0);
        Check.due("19 until they get a result", 4, x::missing);
        x.result(0, 1, 1, 0);
        Check.due("19 which may change", 4, x::missing);
    }

    private static void promise20CatchUp() {
        LeagueRounds x = Leagues.plain(4, false);
        Check.due("20 nothing missing, no dates", 0, x::catchUp);
        x.washOut(1);
        Check.due("20 no dates", NONE, x::catchUp);
        x.reserve(30);
        Check.due("20 a round on one date", 1, x::catchUp);
        x.reserve(10);
        x.reserve(20);
        Check.due("20 a new date alone moves nothing", 30, () -> x.catchDate(1, 2));
        Check.due("20 in place of the earlier one", 1, x::catchUp);
        Check.due("20 the earliest date", 10, () -> x.catchDate(1, 2));
        Check.due("20 for both games", 10, () -> x.catchDate(1, 3));
        x.washOut(0);
        Check.due("20 two rounds", 2, x::catchUp);
        Check.due("20 the games by round: the first ones first", 10, () -> x.catchDate(0, 0));
        Check.due("20 the later round behind", 20, () -> x.catchDate(1, 2));
        x.result(0, 0, 1, 0);
        x.result(0, 1, 1, 0);
        Check.due("20 those with a result are left out", 1, x::catchUp);
        Check.due("20 so the others go forward", 10, () -> x.catchDate(1, 3));
        x.makePlain(true);
        x.reserve(5);
        x.washOut(0);
        x.catchUp();
        x.washOut(1);
        Check.due("20 one date does not suffice", NONE, x::catchUp);
        Check.due("20 and all stays", 5, () -> x.catchDate(0, 1));
        Check.due("20 with none for the new ones", NONE, () -> x.catchDate(1, 2));
    }

    private static void promise20CatchUpOddRing() {
        // Round 0: 1-4 3-2, round 1: 2-0 4-3, round 2: 0-4 3-1, round 3: 1-0 4-2.
        LeagueRounds x = Leagues.plain(5, false);
        x.result(0, 3, 0, 0);
        x.result(1, 2, 0, 0);
        x.result(1, 4, 0, 0);
        x.result(2, 3, 0, 0);
        x.result(3, 4, 0, 0);
        x.washOut(0);
        x.washOut(2);
        x.washOut(3);
        x.reserve(8);
        x.reserve(9);
        Check.due("20 1-4, 0-4, 1-0 miss", 3, x::missing);
        Check.due("20 two games a team, but two dates don't suffice", NONE, x::catchUp);
        x.reserve(7);
        Check.due("20 three do", 3, x::catchUp);
        Check.due("20 ring, first", 7, () -> x.catchDate(0, 1));
        Check.due("20 ring, second", 8, () -> x.catchDate(2, 0));
        Check.due("20 ring, third", 9, () -> x.catchDate(3, 1));
        LeagueRounds y = Leagues.plain(4, true);
        y.washOut(0);
        y.washOut(3);
        y.reserve(2);
        y.reserve(1);
        Check.due("20 a game and its return", 2, y::catchUp);
        Check.due("20 out", 1, () -> y.catchDate(0, 0));
        Check.due("20 and back", 2, () -> y.catchDate(3, 3));
    }

    private static void promise20CatchUpLooksAhead() {
        // The games 1-4 3-2, 2-0 and 0-4 are a chain 1 4 0 2 3: both of round 0 on one date would need three.
        LeagueRounds x = Leagues.plain(5, false);
        x.result(1, 4, 0, 0);
        x.result(2, 3, 0, 0);
        x.washOut(2);
        x.washOut(1);
        x.washOut(0);
        x.reserve(60);
        x.reserve(50);
        x.reserve(40);
        Check.due("20 two dates are the fewest", 2, x::catchUp);
        Check.due("20 ahead, first", 40, () -> x.catchDate(0, 1));
        Check.due("20 ahead, second", 50, () -> x.catchDate(0, 3));
        Check.due("20 ahead, third", 40, () -> x.catchDate(1, 2));
        Check.due("20 ahead, fourth", 50, () -> x.catchDate(2, 0));
    }

    private static void promise20CatchUpManyGames() {
        LeagueRounds x = Leagues.plain(14, false);
        for (int date = 0; date < 6; date++) {
            x.reserve(99 - date);
        }
        x.washOut(0);
        Check.due("20 seven games", 1, x::catchUp);
        x.washOut(1);
        Check.due("20 fourteen games", 2, x::catchUp);
        Check.due("20 the earliest of six", 94, () -> x.catchDate(0, 0));
        Check.due("20 and the next", 95, () -> x.catchDate(1, 2));
        x.washOut(2);
        Check.dueThrow("20 twenty-one games", STATE, x::catchUp);
        Check.due("20 the dates stay", 95, () -> x.catchDate(1, 2));
        LeagueRounds y = Leagues.plain(15, false);
        y.washOut(0);
        y.washOut(1);
        y.reserve(0);
        y.reserve(1);
        y.reserve(2);
        Check.due("20 seven a round with a bye", 14, y::missing);
        Check.due("20 these fit", 2, y::catchUp);
        LeagueRounds z = Leagues.plain(20, false);
        z.reserve(0);
        z.washOut(0);
        for (int team = 0, left = 5; team < 20 && left > 0; team++) {
            if (z.venue(team, 1) == 1) {
                z.result(1, team, 0, 0);
                left--;
            }
        }
        z.washOut(1);
        Check.due("20 fifteen", 15, z::missing);
        Check.dueThrow("20 fifteen are too many, dates or not", STATE, z::catchUp);
    }

    private static void promise21CatchDate() {
        LeagueRounds x = Leagues.league(5);
        Check.dueThrow("21 no timetable", INDEX, () -> x.catchDate(0, 0));
        x.makePlain(false);
        Check.due("21 not missing", NONE, () -> x.catchDate(0, 1));
        x.washOut(0);
        x.reserve(77);
        Check.due("21 no catch-up yet", NONE, () -> x.catchDate(0, 1));
        x.catchUp();
        Check.due("21 its date", 77, () -> x.catchDate(0, 1));
        Check.due("21 another round", NONE, () -> x.catchDate(1, 2));
        Check.dueThrow("21 away", ELEMENT, () -> x.catchDate(0, 4));
        Check.dueThrow("21 bye", ELEMENT, () -> x.catchDate(0, 0));
        Check.dueThrow("21 round -1", INDEX, () -> x.catchDate(-1, 1));
        Check.dueThrow("21 round 5", INDEX, () -> x.catchDate(5, 1));
        Check.dueThrow("21 team -1", INDEX, () -> x.catchDate(0, -1));
        Check.dueThrow("21 team 5", INDEX, () -> x.catchDate(0, 5));
        x.result(0, 1, 1, 1);
        Check.due("21 it has a result", NONE, () -> x.catchDate(0, 1));
        Check.due("21 the other has not", 77, () -> x.catchDate(0, 3));
        x.catchUp();
        Check.due("21 still a result", NONE, () -> x.catchDate(0, 1));
    }
}
