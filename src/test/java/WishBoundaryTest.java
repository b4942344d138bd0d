import java.util.function.Supplier;

/** The boundaries that promises 1 to 6 name: a new object, the number of teams, and the wishes. */
public final class WishBoundaryTest {
    private static final int LEAST = Integer.MIN_VALUE;
    private static final int GREATEST = Integer.MAX_VALUE;
    private static final int NONE = LeagueRounds.NONE;
    private static final Class<IllegalArgumentException> ARGUMENT = IllegalArgumentException.class;
    private static final Class<IllegalStateException> STATE = IllegalStateException.class;
    private static final Class<IndexOutOfBoundsException> INDEX = IndexOutOfBoundsException.class;

    public static void main(String[] args) {
        Check.runAll(WishBoundaryTest.class);
        Check.end();
    }

    /** Each of these calls is refused as an argument, and leaves a new, a wishing and a playing league alone. */
    private static void refusedEverywhere(String what, Twins.Call call) {
        Twins.refused(what + ", new", ARGUMENT, LeagueRounds::new, call);
        Twins.refused(what + ", wishes", ARGUMENT, Leagues::wishes, call);
        Twins.refused(what + ", season", ARGUMENT, Leagues::season, call);
    }

    private static Twins.Call teamsCall(int n) {
        return x -> {
            x.teams(n);
            return 0;
        };
    }

    private static Twins.Call capCall(int k) {
        return x -> {
            x.awayCap(k);
            return 0;
        };
    }

    private static LeagueRounds fullPairs() {
        LeagueRounds x = Leagues.plain(4, false);
        for (int i = 0; i < 6; i++) {
            x.shareGround(0, 3);
        }
        return x;
    }

    private static LeagueRounds fullFixed() {
        LeagueRounds x = Leagues.plain(4, false);
        for (int i = 0; i < 6; i++) {
            x.fixGame(0, 3, 0);
        }
        return x;
    }

    private static LeagueRounds capped(int n, boolean twice, int cap) {
        LeagueRounds x = Leagues.plain(n, twice);
        x.awayCap(cap);
        return x;
    }

    // Promise 1: four teams, no wishes, no timetable.

    private static void promise1NoTimetable() {
        LeagueRounds x = new LeagueRounds();
        Check.due("rounds", 0, x::rounds);
        Check.due("verify", 1, x::verify);
        Check.due("breaks of all", 0, () -> x.breaks(NONE));
        Check.due("missing", 0, x::missing);
        Check.dueThrow("opponent", INDEX, () -> x.opponent(0, 0));
        Check.dueThrow("venue", INDEX, () -> x.venue(0, 0));
        Check.dueThrow("swapRounds", INDEX, () -> x.swapRounds(0, 0) ? 1 : 0);
        Check.dueThrow("result", INDEX, () -> x.result(0, 0, 0, 0));
        Check.dueThrow("washOut", INDEX, () -> x.washOut(0));
        Check.dueThrow("catchDate", INDEX, () -> x.catchDate(0, 0));
    }

    private static void promise1FourTeams() {
        LeagueRounds x = new LeagueRounds();
        Check.due("team 3 has breaks", 0, () -> x.breaks(3));
        Check.dueThrow("team 4 has not", INDEX, () -> x.breaks(4));
        Check.same("the table", "0 1 2 3", Leagues.order(x, 4));
        Check.dueThrow("no fifth place", INDEX, () -> x.table(4, 0));
        Check.due("a ban of team 3", 1, () -> x.ban(3, 0, 0));
        Check.dueThrow("a ban of team 4", ARGUMENT, () -> x.ban(4, 0, 0));
        Check.due("single", 3, () -> x.makePlain(false));
        Check.due("double", 6, () -> x.makePlain(true));
        LeagueRounds y = new LeagueRounds();
        Check.due("six games are found", 1, () -> y.make(6));
    }

    private static void promise1NoWishes() {
        LeagueRounds x = new LeagueRounds();
        Check.due("no ban", 1, () -> x.ban(0, 38, 0));
        Check.due("no pair", 1, () -> x.shareGround(0, 1));
        Check.due("no fixed game", 1, () -> x.fixGame(0, 1, 0));
        LeagueRounds y = new LeagueRounds();
        y.makePlain(true);
        // Team 1 is away three times in succession.
        Check.due("no cap", 0, y::verify);
    }

    private static void promise1NothingPlayed() {
        LeagueRounds x = new LeagueRounds();
        Check.same("first row", "0 0 0 0 0 0 0 0", Leagues.row(x, 0));
        Check.same("last row", "3 0 0 0 0 0 0 0", Leagues.row(x, 3));
        Check.due("nothing to catch up", 0, x::catchUp);
        Check.due("no dates", 1, () -> x.reserve(0));
    }

    // Promise 2: n is 4 .. 20; no wishes, no timetable, no dates then.

    private static void promise2Least() {
        LeagueRounds x = Leagues.plain(20, true);
        x.teams(4);
        Check.due("team 3", 0, () -> x.breaks(3));
        Check.dueThrow("team 4", INDEX, () -> x.breaks(4));
        Check.due("rounds", 3, () -> x.makePlain(false));
    }

    private static void promise2Greatest() {
        LeagueRounds x = new LeagueRounds();
        x.teams(20);
        Check.due("team 19", 0, () -> x.breaks(19));
        Check.dueThrow("team 20", INDEX, () -> x.breaks(20));
        Check.due("rounds", 19, () -> x.makePlain(false));
    }

    private static void promise2EachNumber() {
        for (int n = 4; n <= 20; n++) {
            int count = n;
            LeagueRounds x = Leagues.league(n);
            Check.due("the last of " + n, 0, () -> x.breaks(count - 1));
            Check.dueThrow("the next after the last of " + n, INDEX, () -> x.breaks(count));
        }
    }

    private static void promise2TooFew() {
        refusedEverywhere("3", teamsCall(3));
        refusedEverywhere("0", teamsCall(0));
        refusedEverywhere("-1", teamsCall(-1));
        refusedEverywhere("-4", teamsCall(-4));
        refusedEverywhere("the least number", teamsCall(LEAST));
    }

    private static void promise2TooMany() {
        refusedEverywhere("21", teamsCall(21));
        refusedEverywhere("the greatest number", teamsCall(GREATEST));
    }

    private static void promise2NoWishes() {
        LeagueRounds x = Leagues.wishes();
        x.ban(0, 1, 1);
        x.teams(4);
        Check.due("no ban of a home game", 1, () -> x.ban(0, 1, 0));
        Check.due("none of an away game", 2, () -> x.ban(0, 1, 1));
        Check.due("no pair", 1, () -> x.shareGround(1, 2));
        Check.due("no fixed game", 1, () -> x.fixGame(3, 2, 0));
        LeagueRounds y = capped(4, true, 1);
        y.teams(4);
        y.makePlain(true);
        Check.due("no cap", 0, y::verify);
        LeagueRounds z = Leagues.league(4);
        z.ban(0, 0, 0);
        z.ban(3, 0, 1);
        z.teams(4);
        z.makePlain(false);
        Check.due("none that counts", 0, z::verify);
    }

    private static void promise2NoWishesAfterAsManyAsThereMayBe() {
        LeagueRounds x = fullPairs();
        x.teams(4);
        Check.due("pairs", 1, () -> x.shareGround(0, 3));
        LeagueRounds y = fullFixed();
        y.teams(4);
        Check.due("fixed games", 1, () -> y.fixGame(0, 3, 0));
    }

    private static void promise2NoWishOfATeamThatIsGone() {
        LeagueRounds x = Leagues.league(20);
        x.ban(19, 0, 0);
        x.shareGround(18, 19);
        x.fixGame(19, 18, 0);
        x.teams(4);
        x.makePlain(false);
        Check.due("verify", 0, x::verify);
        Check.due("make", 1, () -> x.make(6));
    }

    private static void promise2NoTimetable() {
        LeagueRounds x = Leagues.season();
        x.teams(5);
        Check.due("rounds", 0, x::rounds);
        Check.due("verify", 1, x::verify);
        Check.due("missing", 0, x::missing);
        Check.due("breaks", 0, () -> x.breaks(NONE));
        Check.same("the table", "0 1 2 3 4", Leagues.order(x, 5));
        Check.same("its first row", "0 0 0 0 0 0 0 0", Leagues.row(x, 0));
        Check.dueThrow("opponent", INDEX, () -> x.opponent(0, 0));
    }

    private static void promise2NoDates() {
        LeagueRounds x = new LeagueRounds();
        for (int date = 0; date < 6; date++) {
            x.reserve(date);
        }
        x.teams(4);
        Check.due("the first of six again", 1, () -> x.reserve(0));
    }

    private static void promise2LikeANewObject() {
        LeagueRounds x = Leagues.season();
        x.teams(4);
        Check.same("all that is asked", Probe.of(new LeagueRounds()), Probe.of(x));
    }

    // Promise 3: a team, a round 0 .. 38, a venue 0 or 1; one that is there already stays.

    private static void promise3Teams() {
        LeagueRounds x = Leagues.league(20);
        Check.due("the first", 1, () -> x.ban(0, 0, 0));
        Check.due("the last", 2, () -> x.ban(19, 0, 0));
    }

    private static void promise3NoSuchTeam() {
        refusedEverywhere("-1", x -> x.ban(-1, 0, 0));
        refusedEverywhere("the least number", x -> x.ban(LEAST, 0, 0));
        refusedEverywhere("the greatest number", x -> x.ban(GREATEST, 0, 0));
        Twins.refused("4 of four", ARGUMENT, Leagues::wishes, x -> x.ban(4, 0, 0));
        Twins.refused("5 of five", ARGUMENT, Leagues::season, x -> x.ban(5, 0, 0));
        Twins.refused("20 of twenty", ARGUMENT, () -> Leagues.league(20), x -> x.ban(20, 0, 0));
    }

    private static void promise3Rounds() {
        LeagueRounds x = Leagues.league(4);
        Check.due("the first", 1, () -> x.ban(0, 0, 0));
        Check.due("the last", 2, () -> x.ban(0, 38, 0));
        Check.due("the last again", 2, () -> x.ban(0, 38, 0));
    }

    private static void promise3NoSuchRound() {
        refusedEverywhere("-1", x -> x.ban(0, -1, 0));
        refusedEverywhere("39", x -> x.ban(0, 39, 0));
        refusedEverywhere("the least number", x -> x.ban(0, LEAST, 0));
        refusedEverywhere("the greatest number", x -> x.ban(0, GREATEST, 0));
    }

    private static void promise3Venues() {
        LeagueRounds home = Leagues.plain(4, false);
        Check.due("0 is taken", 1, () -> home.ban(0, 0, 0));
        Check.due("and means no home game", 2, home::verify);
        LeagueRounds away = Leagues.plain(4, false);
        Check.due("1 is taken", 1, () -> away.ban(3, 0, 1));
        Check.due("and means no away game", 2, away::verify);
    }

    private static void promise3NoSuchVenue() {
        refusedEverywhere("-1", x -> x.ban(0, 0, -1));
        refusedEverywhere("2", x -> x.ban(0, 0, 2));
        refusedEverywhere("the least number", x -> x.ban(0, 0, LEAST));
        refusedEverywhere("the greatest number", x -> x.ban(0, 0, GREATEST));
    }

    private static void promise3OneThatIsThereStays() {
        Supplier<LeagueRounds> recipe = Leagues::wishes;
        Twins.stays("the same again", 1, recipe, x -> x.ban(0, 1, 0));
        LeagueRounds x = Leagues.wishes();
        Check.due("the other venue is another", 2, () -> x.ban(0, 1, 1));
        Check.due("another round is", 3, () -> x.ban(0, 2, 0));
        Check.due("another team is", 4, () -> x.ban(1, 1, 0));
        Check.due("the first is still there", 4, () -> x.ban(0, 1, 0));
    }

    private static void promise3AsManyAsAnObjectHasCalls() {
        LeagueRounds x = Leagues.league(20);
        for (int i = 0; i < 510; i++) {
            x.ban(i % 20, i / 20 % 39, 0);
        }
        Check.due("the 511th, the 512th call", 511, () -> x.ban(19, 38, 1));
    }

    // Promise 4: two teams that are not the same, at most 6 pairs.

    private static void promise4Teams() {
        LeagueRounds x = Leagues.league(20);
        Check.due("first and last", 1, () -> x.shareGround(0, 19));
        Check.due("last and first", 2, () -> x.shareGround(19, 0));
        Check.due("neighbours", 3, () -> x.shareGround(18, 19));
    }

    private static void promise4FirstIsNoTeam() {
        refusedEverywhere("-1", x -> x.shareGround(-1, 0));
        refusedEverywhere("the least number", x -> x.shareGround(LEAST, 0));
        refusedEverywhere("the greatest number", x -> x.shareGround(GREATEST, 0));
        Twins.refused("4 of four", ARGUMENT, Leagues::wishes, x -> x.shareGround(4, 0));
        Twins.refused("20 of twenty", ARGUMENT, () -> Leagues.league(20), x -> x.shareGround(20, 0));
    }

    private static void promise4SecondIsNoTeam() {
        refusedEverywhere("-1", x -> x.shareGround(0, -1));
        refusedEverywhere("the least number", x -> x.shareGround(0, LEAST));
        refusedEverywhere("the greatest number", x -> x.shareGround(0, GREATEST));
        Twins.refused("4 of four", ARGUMENT, Leagues::wishes, x -> x.shareGround(0, 4));
        Twins.refused("20 of twenty", ARGUMENT, () -> Leagues.league(20), x -> x.shareGround(0, 20));
    }

    private static void promise4BothTheSame() {
        refusedEverywhere("the first team", x -> x.shareGround(0, 0));
        refusedEverywhere("the last team", x -> x.shareGround(3, 3));
        refusedEverywhere("no team", x -> x.shareGround(-1, -1));
    }

    private static void promise4AsManyAsThereMayBe() {
        LeagueRounds x = Leagues.league(4);
        for (int count = 1; count <= 6; count++) {
            Check.due("pair " + count, count, () -> x.shareGround(0, 1));
        }
    }

    private static void promise4SevenAreRefused() {
        Twins.refused("a new one", STATE, WishBoundaryTest::fullPairs, x -> x.shareGround(1, 2));
        Twins.refused("one that is there", STATE, WishBoundaryTest::fullPairs, x -> x.shareGround(0, 3));
    }

    private static void promise4AWrongOneWhenThereAreSix() {
        Twins.refused("no team", ARGUMENT, WishBoundaryTest::fullPairs, x -> x.shareGround(0, 4));
        Twins.refused("the same", ARGUMENT, WishBoundaryTest::fullPairs, x -> x.shareGround(2, 2));
    }

    private static void promise4TheFirstAndTheSixthCount() {
        LeagueRounds first = Leagues.plain(4, false);
        // 0 and 1 are at home together in round 0; 0 and 3 never.
        first.shareGround(0, 1);
        LeagueRounds sixth = Leagues.plain(4, false);
        for (int i = 0; i < 5; i++) {
            first.shareGround(0, 3);
            sixth.shareGround(0, 3);
        }
        Check.due("the first of six is broken", 3, first::verify);
        Check.due("five are kept", 0, sixth::verify);
        sixth.shareGround(1, 0);
        Check.due("the sixth is broken", 3, sixth::verify);
    }

    // Promise 5: two teams that are not the same, a round 0 .. 38, at most 6 games.

    private static void promise5Teams() {
        LeagueRounds x = Leagues.league(20);
        Check.due("first and last", 1, () -> x.fixGame(0, 19, 0));
        Check.due("last and first", 2, () -> x.fixGame(19, 0, 0));
    }

    private static void promise5HomeIsNoTeam() {
        refusedEverywhere("-1", x -> x.fixGame(-1, 0, 0));
        refusedEverywhere("the least number", x -> x.fixGame(LEAST, 0, 0));
        refusedEverywhere("the greatest number", x -> x.fixGame(GREATEST, 0, 0));
        Twins.refused("4 of four", ARGUMENT, Leagues::wishes, x -> x.fixGame(4, 0, 0));
        Twins.refused("20 of twenty", ARGUMENT, () -> Leagues.league(20), x -> x.fixGame(20, 0, 0));
    }

    private static void promise5AwayIsNoTeam() {
        refusedEverywhere("-1", x -> x.fixGame(0, -1, 0));
        refusedEverywhere("the least number", x -> x.fixGame(0, LEAST, 0));
        refusedEverywhere("the greatest number", x -> x.fixGame(0, GREATEST, 0));
        Twins.refused("4 of four", ARGUMENT, Leagues::wishes, x -> x.fixGame(0, 4, 0));
        Twins.refused("20 of twenty", ARGUMENT, () -> Leagues.league(20), x -> x.fixGame(0, 20, 0));
    }

    private static void promise5BothTheSame() {
        refusedEverywhere("the first team", x -> x.fixGame(0, 0, 0));
        refusedEverywhere("the last team", x -> x.fixGame(3, 3, 0));
    }

    private static void promise5Rounds() {
        LeagueRounds x = Leagues.league(4);
        Check.due("the first", 1, () -> x.fixGame(0, 1, 0));
        Check.due("the last", 2, () -> x.fixGame(0, 1, 38));
    }

    private static void promise5NoSuchRound() {
        refusedEverywhere("-1", x -> x.fixGame(0, 1, -1));
        refusedEverywhere("39", x -> x.fixGame(0, 1, 39));
        refusedEverywhere("the least number", x -> x.fixGame(0, 1, LEAST));
        refusedEverywhere("the greatest number", x -> x.fixGame(0, 1, GREATEST));
    }

    private static void promise5AsManyAsThereMayBe() {
        LeagueRounds x = Leagues.league(4);
        for (int count = 1; count <= 6; count++) {
            Check.due("game " + count, count, () -> x.fixGame(0, 1, 0));
        }
    }

    private static void promise5SevenAreRefused() {
        Twins.refused("a new one", STATE, WishBoundaryTest::fullFixed, x -> x.fixGame(1, 2, 0));
        Twins.refused("one that is there", STATE, WishBoundaryTest::fullFixed, x -> x.fixGame(0, 3, 0));
    }

    private static void promise5AWrongOneWhenThereAreSix() {
        Twins.refused("no team", ARGUMENT, WishBoundaryTest::fullFixed, x -> x.fixGame(0, 4, 0));
        Twins.refused("the same", ARGUMENT, WishBoundaryTest::fullFixed, x -> x.fixGame(2, 2, 0));
        Twins.refused("round 39", ARGUMENT, WishBoundaryTest::fullFixed, x -> x.fixGame(0, 3, 39));
    }

    private static void promise5TheFirstAndTheSixthCount() {
        LeagueRounds first = Leagues.plain(4, false);
        first.fixGame(3, 0, 0);
        LeagueRounds sixth = Leagues.plain(4, false);
        for (int i = 0; i < 5; i++) {
            first.fixGame(0, 3, 0);
            sixth.fixGame(0, 3, 0);
        }
        Check.due("the first of six is broken", 4, first::verify);
        Check.due("five are kept", 0, sixth::verify);
        sixth.fixGame(2, 1, 0);
        Check.due("the sixth is broken", 4, sixth::verify);
    }

    // Promise 6: the cap is 0 .. 19.

    private static void promise6LeastIsNone() {
        LeagueRounds x = capped(4, true, 1);
        Check.due("a cap of 1 is broken", 5, x::verify);
        x.awayCap(0);
        Check.due("0 is none", 0, x::verify);
    }

    private static void promise6Greatest() {
        LeagueRounds x = capped(4, true, 1);
        x.awayCap(19);
        Check.due("19 is taken", 0, x::verify);
    }

    private static void promise6Beyond() {
        refusedEverywhere("-1", capCall(-1));
        refusedEverywhere("20", capCall(20));
        refusedEverywhere("the least number", capCall(LEAST));
        refusedEverywhere("the greatest number", capCall(GREATEST));
    }

    private static void promise6BeyondWithACapAlone() {
        Twins.refused("-1, cap 1", ARGUMENT, () -> capped(4, true, 1), capCall(-1));
        Twins.refused("20, cap 1", ARGUMENT, () -> capped(4, true, 1), capCall(20));
        Twins.refused("-1, no cap", ARGUMENT, () -> Leagues.plain(4, true), capCall(-1));
        Twins.refused("20, cap 2", ARGUMENT, () -> capped(4, true, 2), capCall(20));
    }

    private static void promise6TheLatestCounts() {
        LeagueRounds x = capped(4, true, 2);
        Check.due("three away games in succession", 5, x::verify);
        x.awayCap(3);
        Check.due("are not more than three", 0, x::verify);
        x.awayCap(2);
        Check.due("but than two", 5, x::verify);
    }
}
