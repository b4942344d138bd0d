/**
 * What an object answers to all that can be asked, and then to calls that count what can't be asked: so
 * the object is used up. A large timetable is asked for its first and its last rounds only, because an
 * object has but 512 calls.
 */
final class Probe {
    private static final int MOST_CALLS = 470;
    private static final int MOST_PLACES = 75;

    private final LeagueRounds x;
    private final StringBuilder text = new StringBuilder();
    private int calls;
    private int n;

    private Probe(LeagueRounds x) {
        this.x = x;
    }

    static String of(LeagueRounds x) {
        Probe probe = new Probe(x);
        probe.ask();
        probe.play();
        probe.search();
        probe.wish();
        if (probe.calls > MOST_CALLS) {
            throw new IllegalStateException("the probe makes " + probe.calls + " calls");
        }
        return probe.text.toString();
    }

    private String note(String what, Check.Call call) {
        calls++;
        String answer = Check.answerOf(call);
        text.append(what).append(' ').append(answer).append("; ");
        return answer;
    }

    private static boolean isThrown(String answer) {
        return answer.startsWith("throws");
    }

    private void ask() {
        while (n <= 20 && !isThrown(note("breaks of " + n, () -> x.breaks(n)))) {
            n++;
        }
        note("breaks of all", () -> x.breaks(LeagueRounds.NONE));
        note("verify", x::verify);
        note("missing", x::missing);
        askTable();
        askRounds(true);
    }

    private void askTable() {
        // The whole table of twenty teams would be too many calls.
        int step = n > 8 ? 7 : 1;
        for (int place = 0; place < n; place++) {
            for (int field = 0; field <= 7; field += step) {
                int p = place;
                int f = field;
                note("table " + p + " " + f, () -> x.table(p, f));
            }
        }
    }

    private void askRounds(boolean dates) {
        int rounds = Integer.parseInt(note("rounds", x::rounds));
        int most = Math.max(2, MOST_PLACES / n);
        for (int round = 0; round < rounds; round++) {
            if (round < most / 2 || round >= rounds - (most + 1) / 2) {
                askRound(round, dates);
            }
        }
    }

    private void askRound(int round, boolean dates) {
        for (int team = 0; team < n; team++) {
            int t = team;
            note("opponent of " + t + " in " + round, () -> x.opponent(t, round));
            boolean home = note("venue of " + t + " in " + round, () -> x.venue(t, round)).equals("1");
            if (dates && home) {
                note("catchDate of " + t + " in " + round, () -> x.catchDate(round, t));
            }
        }
    }

    private void play() {
        note("swapRounds", () -> x.swapRounds(0, 1) ? 1 : 0);
        for (int round = 0; round < 3; round++) {
            for (int team = 0; team < 4; team++) {
                int r = round;
                int t = team;
                note("result of " + t + " in " + r, () -> x.result(r, t, 1, 0));
            }
        }
        for (int round = 0; round < 6; round++) {
            int r = round;
            note("washOut of " + r, () -> x.washOut(r));
        }
        for (int date = 0; date <= 6; date++) {
            int d = date;
            note("reserve of " + d, () -> x.reserve(d));
        }
        note("catchUp", x::catchUp);
    }

    private void search() {
        note("make", () -> x.make(4000));
        askRounds(false);
    }

    private void wish() {
        note("ban", () -> x.ban(0, 38, 0));
        note("ban", () -> x.ban(0, 38, 1));
        for (int i = 0; i < 7; i++) {
            note("shareGround", () -> x.shareGround(0, 1));
            note("fixGame", () -> x.fixGame(0, 1, 38));
        }
        note("makePlain", () -> x.makePlain(true));
        note("verify", x::verify);
    }
}
