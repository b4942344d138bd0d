/** Objects that more than one test begins with, and texts that show what they hold. */
final class Leagues {
    private static final int NONE = LeagueRounds.NONE;

    private Leagues() {
    }

    static LeagueRounds league(int n) {
        LeagueRounds x = new LeagueRounds();
        x.teams(n);
        return x;
    }

    static LeagueRounds plain(int n, boolean twice) {
        LeagueRounds x = league(n);
        x.makePlain(twice);
        return x;
    }

    /** Something of everything: all kinds of wishes, results, washed out rounds, dates and a catch-up. */
    static LeagueRounds season() {
        LeagueRounds x = plain(5, true);
        x.ban(0, 0, 0);
        x.ban(4, 9, 1);
        x.shareGround(0, 1);
        x.fixGame(1, 4, 0);
        x.awayCap(3);
        x.result(1, 2, 3, 1);
        x.result(5, 2, 0, 0);
        x.washOut(0);
        x.washOut(5);
        x.reserve(40);
        x.reserve(20);
        x.catchUp();
        x.result(0, 1, 2, 2);
        return x;
    }

    /** All kinds of wishes, but no timetable. */
    static LeagueRounds wishes() {
        LeagueRounds x = league(4);
        x.ban(0, 1, 0);
        x.shareGround(1, 2);
        x.fixGame(3, 2, 0);
        x.awayCap(2);
        x.reserve(7);
        return x;
    }

    /** A double timetable of twenty teams in which a team is nineteen times away, and then at home. */
    static LeagueRounds awayFirst(int team) {
        return gathered(team, 0);
    }

    /** The same, but at home first. */
    static LeagueRounds awayLast(int team) {
        return gathered(team, 1);
    }

    private static LeagueRounds gathered(int team, int first) {
        LeagueRounds x = plain(20, true);
        int filled = 0;
        for (int round = 0; round < 38; round++) {
            if (x.venue(team, round) == first) {
                x.swapRounds(filled, round);
                filled++;
            }
        }
        return x;
    }

    /** A round as a text, "home-away" by home team and "(team)" for a bye. */
    static String round(LeagueRounds x, int n, int round) {
        StringBuilder text = new StringBuilder();
        for (int team = 0; team < n; team++) {
            int venue = x.venue(team, round);
            if (venue == NONE) {
                text.append("(" + team + ") ");
            } else if (venue == 1) {
                text.append(team + "-" + x.opponent(team, round) + " ");
            }
        }
        return text.toString().trim();
    }

    static String timetable(LeagueRounds x, int n) {
        StringBuilder text = new StringBuilder();
        int rounds = x.rounds();
        for (int r = 0; r < rounds; r++) {
            text.append(r == 0 ? "" : " | ").append(round(x, n, r));
        }
        return text.toString();
    }

    /** A row of the table, the fields 0 to 7. */
    static String row(LeagueRounds x, int p) {
        StringBuilder text = new StringBuilder();
        for (int field = 0; field <= 7; field++) {
            text.append(field == 0 ? "" : " ").append(x.table(p, field));
        }
        return text.toString();
    }

    /** The teams in the order of the table. */
    static String order(LeagueRounds x, int n) {
        StringBuilder text = new StringBuilder();
        for (int p = 0; p < n; p++) {
            text.append(p == 0 ? "" : " ").append(x.table(p, 0));
        }
        return text.toString();
    }
}
