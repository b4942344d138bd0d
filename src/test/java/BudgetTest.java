import java.util.Random;

/** For wishes by a fixed seed: the least budget with which the plain model's search ends, and the class beside it. */
public final class BudgetTest {
    private static final int RUNS = 1500;
    private static final int MOST = 4000;

    private final Random random;
    private final LeagueRounds x = new LeagueRounds();
    private final PlainModel y = new PlainModel();
    private final StringBuilder calls = new StringBuilder();
    private int n;

    private BudgetTest(int run, Random random) {
        this.random = random;
        calls.append("run ").append(run).append(':');
    }

    public static void main(String[] args) {
        // One source for all runs: the first numbers of sources with seeds in succession are much alike.
        Random random = new Random(8);
        for (int run = 0; run < RUNS && Check.wrong() == 0; run++) {
            new BudgetTest(run, random).go();
        }
        Check.end();
    }

    private void go() {
        // Odd numbers come most often: only with them are there byes.
        n = random.nextInt(4) == 0 ? 4 + random.nextInt(5) : 5 + 2 * random.nextInt(2);
        x.teams(n);
        y.teams(n);
        calls.append(" teams(").append(n).append(')');
        int wishes = random.nextInt(7);
        for (int i = 0; i < wishes; i++) {
            wish();
        }
        int needed = leastBudget();
        if (needed > 1) {
            sameMake(needed - 1);
        }
        if (needed <= MOST) {
            sameMake(needed);
        }
        sameMake(MOST);
    }

    private void wish() {
        int a = random.nextInt(n);
        int b = (a + 1 + random.nextInt(n - 1)) % n;
        int round = random.nextInt(n);
        switch (random.nextInt(6)) {
            case 0:
                x.shareGround(a, b);
                y.shareGround(a, b);
                calls.append(" shareGround(").append(a).append(", ").append(b).append(')');
                break;
            case 1:
            case 2:
                x.fixGame(a, b, round);
                y.fixGame(a, b, round);
                calls.append(" fixGame(").append(a).append(", ").append(b).append(", ").append(round).append(')');
                break;
            case 3:
                int cap = 1 + random.nextInt(3);
                x.awayCap(cap);
                y.awayCap(cap);
                calls.append(" awayCap(").append(cap).append(')');
                break;
            default:
                // Both bans of a team together leave it the bye alone.
                int kinds = 1 + random.nextInt(3);
                for (int venue = 0; venue < 2; venue++) {
                    if ((kinds >> venue & 1) == 1) {
                        ban(a, round, venue);
                    }
                }
        }
    }

    private void ban(int team, int round, int venue) {
        x.ban(team, round, venue);
        y.ban(team, round, venue);
        calls.append(" ban(").append(team).append(", ").append(round).append(", ").append(venue).append(')');
    }

    /** MOST + 1 when no budget does. */
    private int leastBudget() {
        int low = 1;
        int high = MOST + 1;
        while (low < high) {
            int middle = (low + high) / 2;
            if (y.make(middle) == 2) {
                low = middle + 1;
            } else {
                high = middle;
            }
        }
        return low;
    }

    private void sameMake(int budget) {
        String call = calls + " make(" + budget + ")";
        String due = Check.answerOf(() -> y.make(budget));
        Check.same(call, due, Check.answerOf(() -> x.make(budget)));
        if (due.equals("1")) {
            sameTimetable(call);
        }
    }

    private void sameTimetable(String call) {
        Check.same(call + " rounds", Check.answerOf(y::rounds), Check.answerOf(x::rounds));
        for (int round = 0; round < y.rounds(); round++) {
            for (int team = 0; team < n; team++) {
                int r = round;
                int t = team;
                String where = " of " + t + " in " + r;
                Check.same(call + " opponent" + where,
                        Check.answerOf(() -> y.opponent(t, r)), Check.answerOf(() -> x.opponent(t, r)));
                Check.same(call + " venue" + where,
                        Check.answerOf(() -> y.venue(t, r)), Check.answerOf(() -> x.venue(t, r)));
            }
        }
    }
}
