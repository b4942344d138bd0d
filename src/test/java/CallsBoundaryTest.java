import java.util.NoSuchElementException;

/** What the document begins with: an object is used for at most 512 calls, so the 512th is as good as the first. */
public final class CallsBoundaryTest {
    private static final int MOST_CALLS = 512;
    private static final int NONE = LeagueRounds.NONE;

    public static void main(String[] args) {
        Check.runAll(CallsBoundaryTest.class);
        Check.end();
    }

    /** A season that has had all its calls but one: fifteen of its own, and others that change nothing. */
    private static LeagueRounds seasonWithOneCallLeft() {
        LeagueRounds x = Leagues.season();
        for (int calls = 15; calls < MOST_CALLS - 1; calls++) {
            switch (calls % 5) {
                case 0:
                    x.verify();
                    break;
                case 1:
                    x.catchUp();
                    break;
                case 2:
                    x.make(15);
                    break;
                case 3:
                    x.result(0, 1, 2, 2);
                    break;
                default:
                    x.table(0, 7);
            }
        }
        return x;
    }

    private static void last(String what, long due, Twins.Call call) {
        Check.due(what, due, () -> call.answer(seasonWithOneCallLeft()));
    }

    private static void lastThrow(String what, Class<? extends RuntimeException> due, Twins.Call call) {
        Check.dueThrow(what, due, () -> call.answer(seasonWithOneCallLeft()));
    }

    private static void bound512TheLastCallAnswers() {
        last("teams", 0, x -> {
            x.teams(20);
            return 0;
        });
        last("ban", 3, x -> x.ban(1, 0, 0));
        last("shareGround", 2, x -> x.shareGround(0, 1));
        last("fixGame", 2, x -> x.fixGame(0, 1, 38));
        last("awayCap", 0, x -> {
            x.awayCap(19);
            return 0;
        });
        last("makePlain", 10, x -> x.makePlain(true));
        last("make", 1, x -> x.make(4000));
        last("rounds", 10, LeagueRounds::rounds);
        last("opponent", 4, x -> x.opponent(1, 0));
        last("venue", 1, x -> x.venue(1, 0));
        last("breaks", 3, x -> x.breaks(NONE));
        last("verify", 0, LeagueRounds::verify);
        last("result", 4, x -> x.result(9, 1, 0, 0));
        last("table", 2, x -> x.table(0, 0));
        last("washOut", 2, x -> x.washOut(9));
        last("reserve", 3, x -> x.reserve(0));
        last("missing", 2, LeagueRounds::missing);
        last("catchUp", 1, LeagueRounds::catchUp);
        last("catchDate", 20, x -> x.catchDate(0, 3));
    }

    private static void bound512TheLastCallIsRefused() {
        lastThrow("teams", IllegalArgumentException.class, x -> {
            x.teams(21);
            return 0;
        });
        lastThrow("opponent", IndexOutOfBoundsException.class, x -> x.opponent(5, 0));
        lastThrow("swapRounds", IllegalStateException.class, x -> x.swapRounds(0, 1) ? 1 : 0);
        lastThrow("catchDate", NoSuchElementException.class, x -> x.catchDate(0, 0));
    }

    private static void bound512AllCallsAreSearches() {
        LeagueRounds x = new LeagueRounds();
        x.teams(8);
        x.awayCap(1);
        for (int calls = 2; calls < MOST_CALLS; calls++) {
            Check.due("call " + calls, 2, () -> x.make(4000));
        }
    }

    private static void bound512AllCallsExchangeRounds() {
        LeagueRounds x = Leagues.plain(20, true);
        for (int calls = 2; calls < MOST_CALLS - 1; calls++) {
            x.swapRounds(0, 37);
        }
        // 509 times, so they stand exchanged.
        Check.due("the first round", 17, () -> x.opponent(0, 0));
    }
}
