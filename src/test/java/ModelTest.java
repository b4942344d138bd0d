import java.util.Random;

/**
 * Runs of calls by a fixed seed, right and wrong ones, each run as long as an object is used, on the class
 * and on the plain model side by side.
 */
public final class ModelTest {
    private static final int RUNS = 4000;
    private static final int MOST_CALLS = 512;
    private static final int MOST_DATES_ASKED = 40;

    private final Random random;
    private final LeagueRounds x = new LeagueRounds();
    private final PlainModel y = new PlainModel();
    private final int run;
    private int calls = 0;
    private int n = 4;
    private int rounds = 0;

    private ModelTest(int run, Random random) {
        this.run = run;
        this.random = random;
    }

    public static void main(String[] args) {
        // One source for all runs: the first numbers of sources with seeds in succession are much alike.
        Random random = new Random(1);
        for (int run = 0; run < RUNS && Check.wrong() == 0; run++) {
            new ModelTest(run, random).go();
        }
        Check.end();
    }

    private void go() {
        newTeams();
        while (calls < MOST_CALLS && Check.wrong() == 0) {
            any();
            rounds = y.rounds();
        }
    }

    /** One call on each: no more than an object is promised to answer. */
    private void same(String call, Check.Call got, Check.Call want) {
        if (calls < MOST_CALLS) {
            calls++;
            Check.same("run " + run + ", call " + calls + ": " + call, Check.answerOf(want), Check.answerOf(got));
        }
    }

    private int upTo(int count) {
        return random.nextInt(Math.max(1, count));
    }

    /** Now and then just outside of 0 .. count - 1. */
    private int about(int count) {
        return random.nextInt(25) == 0 ? (random.nextBoolean() ? -1 : count) : upTo(count);
    }

    private void any() {
        switch (random.nextInt(30)) {
            case 0:
                if (random.nextInt(12) == 0) {
                    newTeams();
                } else {
                    newTimetable();
                }
                break;
            case 1:
            case 2:
                wish();
                break;
            case 3:
            case 4:
                swap();
                break;
            case 5:
                washOut();
                break;
            case 6:
                reserve();
                break;
            case 7:
            case 8:
            case 9:
                catchUp();
                break;
            case 10:
            case 11:
            case 12:
            case 13:
            case 14:
            case 15:
            case 16:
            case 17:
                result();
                break;
            default:
                ask();
        }
    }

    private void newTeams() {
        int count = random.nextInt(10) == 0 ? random.nextInt(30) - 3 : random.nextInt(3) == 0 ? 4 + upTo(17) : 4 + upTo(5);
        if (count >= 4 && count <= 20) {
            n = count;
        }
        same("teams(" + count + ")", Check.of(() -> x.teams(count)), Check.of(() -> y.teams(count)));
    }

    private void newTimetable() {
        if (random.nextInt(3) == 0) {
            boolean twice = random.nextBoolean();
            same("makePlain(" + twice + ")", () -> x.makePlain(twice), () -> y.makePlain(twice));
        } else {
            int budget = random.nextInt(10) == 0 ? (random.nextBoolean() ? 0 : 4001)
                    : random.nextBoolean() ? 1 + random.nextInt(60) : 1 + random.nextInt(2000);
            same("make(" + budget + ")", () -> x.make(budget), () -> y.make(budget));
        }
    }

    private void wish() {
        int a = about(n);
        int b = about(n);
        int span = random.nextInt(6) == 0 ? 39 : Math.max(1, rounds);
        int round = about(span);
        switch (random.nextInt(6)) {
            case 0:
                same("shareGround(" + a + ", " + b + ")", () -> x.shareGround(a, b), () -> y.shareGround(a, b));
                break;
            case 1:
                same("fixGame(" + a + ", " + b + ", " + round + ")",
                        () -> x.fixGame(a, b, round), () -> y.fixGame(a, b, round));
                break;
            case 2:
                int k = about(20);
                same("awayCap(" + k + ")", Check.of(() -> x.awayCap(k)), Check.of(() -> y.awayCap(k)));
                break;
            default:
                int venue = about(2);
                same("ban(" + a + ", " + round + ", " + venue + ")",
                        () -> x.ban(a, round, venue), () -> y.ban(a, round, venue));
        }
    }

    private void swap() {
        int a = about(rounds);
        int b = about(rounds);
        same("swapRounds(" + a + ", " + b + ")",
                () -> x.swapRounds(a, b) ? 1 : 0, () -> y.swapRounds(a, b) ? 1 : 0);
    }

    private void washOut() {
        int round = about(rounds);
        same("washOut(" + round + ")", () -> x.washOut(round), () -> y.washOut(round));
    }

    private void reserve() {
        int date = about(100);
        same("reserve(" + date + ")", () -> x.reserve(date), () -> y.reserve(date));
    }

    private void catchUp() {
        same("catchUp()", x::catchUp, y::catchUp);
        int asked = 0;
        for (int r = 0; r < rounds; r++) {
            for (int t = 0; t < n; t++) {
                if (asked < MOST_DATES_ASKED && y.isWashedOut(r)) {
                    asked++;
                    catchDate(r, t);
                }
            }
        }
    }

    private void catchDate(int round, int team) {
        same("catchDate(" + round + ", " + team + ")",
                () -> x.catchDate(round, team), () -> y.catchDate(round, team));
    }

    private void result() {
        int round = about(rounds);
        int home = about(n);
        int goalsHome = random.nextInt(4) == 0 ? about(100) : random.nextInt(4);
        int goalsAway = random.nextInt(4) == 0 ? about(100) : random.nextInt(4);
        same("result(" + round + ", " + home + ", " + goalsHome + ", " + goalsAway + ")",
                () -> x.result(round, home, goalsHome, goalsAway), () -> y.result(round, home, goalsHome, goalsAway));
    }

    private void ask() {
        int team = about(n);
        int round = about(rounds);
        int field = about(8);
        switch (random.nextInt(10)) {
            case 0:
                same("rounds()", x::rounds, y::rounds);
                break;
            case 1:
                same("opponent(" + team + ", " + round + ")",
                        () -> x.opponent(team, round), () -> y.opponent(team, round));
                break;
            case 2:
                same("venue(" + team + ", " + round + ")", () -> x.venue(team, round), () -> y.venue(team, round));
                break;
            case 3:
                same("breaks(" + team + ")", () -> x.breaks(team), () -> y.breaks(team));
                break;
            case 4:
                same("breaks(-1)", () -> x.breaks(-1), () -> y.breaks(-1));
                break;
            case 5:
                same("verify()", x::verify, y::verify);
                break;
            case 6:
                same("table(" + team + ", " + field + ")", () -> x.table(team, field), () -> y.table(team, field));
                break;
            case 7:
                same("table(" + team + ", 0)", () -> x.table(team, 0), () -> y.table(team, 0));
                break;
            case 8:
                same("missing()", x::missing, y::missing);
                break;
            default:
                catchDate(round, team);
        }
    }
}
