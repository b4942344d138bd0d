import java.util.ArrayList;
import java.util.HashMap;
import java.util.List;
import java.util.Map;
import java.util.NoSuchElementException;
import java.util.TreeSet;

/** The document's words turned into the simplest code, without care for time or room. */
final class PlainModel {
    private static final int FREE = -2;
    private static final int NONE = -1;

    private int n = 4;
    private final TreeSet<List<Integer>> bans = new TreeSet<>((a, b) -> a.toString().compareTo(b.toString()));
    private final List<int[]> pairs = new ArrayList<>();
    private final List<int[]> fixed = new ArrayList<>();
    private int cap = 0;
    private int[][] opponents = new int[0][];
    private int[][] venues = new int[0][];
    private final Map<List<Integer>, int[]> results = new HashMap<>();
    private final TreeSet<Integer> washed = new TreeSet<>();
    private final TreeSet<Integer> dates = new TreeSet<>();
    private Map<List<Integer>, Integer> caught = new HashMap<>();

    private static void argument(boolean good) {
        if (!good) {
            throw new IllegalArgumentException();
        }
    }

    private static void index(boolean good) {
        if (!good) {
            throw new IndexOutOfBoundsException();
        }
    }

    private static void state(boolean good) {
        if (!good) {
            throw new IllegalStateException();
        }
    }

    private boolean isTeam(int t) {
        return 0 <= t && t < n;
    }

    private boolean isRound(int r) {
        return 0 <= r && r < opponents.length;
    }

    private void newSeason() {
        results.clear();
        washed.clear();
        dates.clear();
        caught.clear();
    }

    void teams(int count) {
        argument(4 <= count && count <= 20);
        n = count;
        bans.clear();
        pairs.clear();
        fixed.clear();
        cap = 0;
        opponents = new int[0][];
        venues = new int[0][];
        newSeason();
    }

    int ban(int team, int round, int venue) {
        argument(isTeam(team) && 0 <= round && round <= 38 && (venue == 0 || venue == 1));
        bans.add(List.of(team, round, venue));
        return bans.size();
    }

    int shareGround(int a, int b) {
        argument(isTeam(a) && isTeam(b) && a != b);
        state(pairs.size() < 6);
        pairs.add(new int[] {a, b});
        return pairs.size();
    }

    int fixGame(int home, int away, int round) {
        argument(isTeam(home) && isTeam(away) && home != away && 0 <= round && round <= 38);
        state(fixed.size() < 6);
        fixed.add(new int[] {home, away, round});
        return fixed.size();
    }

    void awayCap(int k) {
        argument(0 <= k && k <= 19);
        cap = k;
    }

    private void emptyTimetable(int rounds, int with) {
        opponents = new int[rounds][n];
        venues = new int[rounds][n];
        for (int r = 0; r < rounds; r++) {
            for (int t = 0; t < n; t++) {
                opponents[r][t] = with;
                venues[r][t] = with;
            }
        }
    }

    private void set(int r, int home, int away) {
        opponents[r][home] = away;
        opponents[r][away] = home;
        venues[r][home] = 1;
        venues[r][away] = 0;
    }

    int makePlain(boolean twice) {
        int m = n % 2 == 0 ? n - 1 : n;
        emptyTimetable(twice ? 2 * m : m, NONE);
        for (int round = 0; round < opponents.length; round++) {
            int r = round % m;
            for (int k = 1; k <= (m - 1) / 2; k++) {
                int first = (r + k) % m;
                int other = (r + m - k) % m;
                boolean firstHome = k % 2 == 1 ^ round >= m;
                set(round, firstHome ? first : other, firstHome ? other : first);
            }
            if (n % 2 == 0) {
                boolean home = r % 2 == 0 ^ round >= m;
                set(round, home ? r : n - 1, home ? n - 1 : r);
            }
        }
        newSeason();
        return opponents.length;
    }

    private int left;

    int make(int budget) {
        argument(1 <= budget && budget <= 4000);
        state(n <= 8);
        int[][] oldOpponents = opponents;
        int[][] oldVenues = venues;
        emptyTimetable(n % 2 == 0 ? n - 1 : n, FREE);
        left = budget;
        int end = choose();
        if (end == 1) {
            newSeason();
        } else {
            opponents = oldOpponents;
            venues = oldVenues;
        }
        return end;
    }

    private int choose() {
        for (int r = 0; r < opponents.length; r++) {
            for (int t = 0; t < n; t++) {
                if (opponents[r][t] == FREE) {
                    return choose(r, t);
                }
            }
        }
        return 1;
    }

    private int choose(int r, int t) {
        for (int o = 0; o < n; o++) {
            if (o != t && opponents[r][o] == FREE && !everMet(t, o)) {
                for (int home = 1; home >= 0; home--) {
                    set(r, home == 1 ? t : o, home == 1 ? o : t);
                    int end = ifMade();
                    if (end != 0) {
                        return end;
                    }
                    free(r, t);
                    free(r, o);
                }
            }
        }
        if (n % 2 == 1 && !everBye(t)) {
            opponents[r][t] = NONE;
            venues[r][t] = NONE;
            int end = ifMade();
            if (end != 0) {
                return end;
            }
            free(r, t);
        }
        return 0;
    }

    private int ifMade() {
        if (draftBreaks()) {
            return 0;
        }
        if (left == 0) {
            return 2;
        }
        left--;
        return choose();
    }

    private void free(int r, int t) {
        opponents[r][t] = FREE;
        venues[r][t] = FREE;
    }

    private boolean everMet(int t, int o) {
        for (int[] row : opponents) {
            if (row[t] == o) {
                return true;
            }
        }
        return false;
    }

    private boolean everBye(int t) {
        return everMet(t, NONE);
    }

    private boolean draftBreaks() {
        if (breaksBan() || breaksPair() || breaksCap()) {
            return true;
        }
        for (int[] f : fixed) {
            for (int r = 0; r < opponents.length; r++) {
                int[] row = opponents[r];
                if (r != f[2] && row[f[0]] == f[1]) {
                    return true;
                }
                boolean begun = row[f[0]] != FREE || row[f[1]] != FREE;
                if (r == f[2] && begun && !(row[f[0]] == f[1] && venues[r][f[0]] == 1)) {
                    return true;
                }
            }
        }
        return false;
    }

    private boolean breaksBan() {
        for (List<Integer> b : bans) {
            if (isRound(b.get(1)) && venues[b.get(1)][b.get(0)] == 1 - b.get(2)) {
                return true;
            }
        }
        return false;
    }

    private boolean breaksPair() {
        for (int[] p : pairs) {
            for (int[] row : venues) {
                if (row[p[0]] == 1 && row[p[1]] == 1) {
                    return true;
                }
            }
        }
        return false;
    }

    private boolean breaksFixed() {
        for (int[] f : fixed) {
            if (!isRound(f[2]) || opponents[f[2]][f[0]] != f[1] || venues[f[2]][f[0]] != 1) {
                return true;
            }
        }
        return false;
    }

    private boolean breaksCap() {
        for (int t = 0; cap > 0 && t < n; t++) {
            int run = 0;
            for (int[] row : venues) {
                run = row[t] == 0 ? run + 1 : 0;
                if (run > cap) {
                    return true;
                }
            }
        }
        return false;
    }

    int rounds() {
        return opponents.length;
    }

    int opponent(int team, int round) {
        index(isTeam(team) && isRound(round));
        return opponents[round][team];
    }

    int venue(int team, int round) {
        index(isTeam(team) && isRound(round));
        return venues[round][team];
    }

    int breaks(int team) {
        index(team == NONE || isTeam(team));
        int count = 0;
        for (int t = 0; t < n; t++) {
            for (int r = 0; r + 1 < venues.length; r++) {
                boolean same = venues[r][t] == venues[r + 1][t] && venues[r][t] != NONE;
                count += same && (team == NONE || team == t) ? 1 : 0;
            }
        }
        return count;
    }

    int verify() {
        if (opponents.length == 0) {
            return 1;
        }
        return breaksBan() ? 2 : breaksPair() ? 3 : breaksFixed() ? 4 : breaksCap() ? 5 : 0;
    }

    boolean swapRounds(int a, int b) {
        index(isRound(a) && isRound(b));
        state(results.isEmpty() && washed.isEmpty());
        swap(a, b);
        boolean kept = verify() == 0;
        if (!kept) {
            swap(a, b);
        }
        return kept;
    }

    private void swap(int a, int b) {
        int[] row = opponents[a];
        opponents[a] = opponents[b];
        opponents[b] = row;
        row = venues[a];
        venues[a] = venues[b];
        venues[b] = row;
    }

    int result(int round, int home, int goalsHome, int goalsAway) {
        index(isRound(round) && isTeam(home));
        argument(0 <= goalsHome && goalsHome <= 99 && 0 <= goalsAway && goalsAway <= 99);
        homeGame(round, home);
        List<Integer> game = List.of(round, home);
        state(!missingGames().contains(game) || caught.containsKey(game));
        results.put(game, new int[] {goalsHome, goalsAway});
        return results.size();
    }

    private void homeGame(int round, int home) {
        if (venues[round][home] != 1) {
            throw new NoSuchElementException();
        }
    }

    private int[] row(int team) {
        int[] row = new int[8];
        row[0] = team;
        for (Map.Entry<List<Integer>, int[]> e : results.entrySet()) {
            int home = e.getKey().get(1);
            int away = opponents[e.getKey().get(0)][home];
            if (team == home || team == away) {
                int own = e.getValue()[team == home ? 0 : 1];
                int others = e.getValue()[team == home ? 1 : 0];
                row[1]++;
                row[own > others ? 2 : own == others ? 3 : 4]++;
                row[5] += own;
                row[6] += others;
                row[7] += own > others ? 3 : own == others ? 1 : 0;
            }
        }
        return row;
    }

    int table(int p, int field) {
        index(isTeam(p) && 0 <= field && field <= 7);
        List<int[]> rows = new ArrayList<>();
        for (int t = 0; t < n; t++) {
            rows.add(row(t));
        }
        rows.sort((a, b) -> {
            int byPoints = b[7] - a[7];
            int byDifference = b[5] - b[6] - (a[5] - a[6]);
            int byGoals = b[5] - a[5];
            return byPoints != 0 ? byPoints : byDifference != 0 ? byDifference : byGoals != 0 ? byGoals : a[0] - b[0];
        });
        return rows.get(p)[field];
    }

    private List<List<Integer>> missingGames() {
        List<List<Integer>> games = new ArrayList<>();
        for (int r : washed) {
            for (int t = 0; t < n; t++) {
                if (venues[r][t] == 1 && !results.containsKey(List.of(r, t))) {
                    games.add(List.of(r, t));
                }
            }
        }
        return games;
    }

    int washOut(int round) {
        index(isRound(round));
        state(!washed.contains(round) && washed.size() < 4);
        int before = missing();
        washed.add(round);
        return missing() - before;
    }

    boolean isWashedOut(int round) {
        return washed.contains(round);
    }

    int reserve(int date) {
        argument(0 <= date && date <= 99);
        state(!dates.contains(date) && dates.size() < 6);
        dates.add(date);
        return dates.size();
    }

    int missing() {
        return missingGames().size();
    }

    int catchUp() {
        List<List<Integer>> games = missingGames();
        state(games.size() <= 14);
        List<Integer> all = new ArrayList<>(dates);
        for (int k = 0; k <= all.size(); k++) {
            int[] on = new int[games.size()];
            if (put(games, on, 0, k)) {
                caught = new HashMap<>();
                for (int i = 0; i < on.length; i++) {
                    caught.put(games.get(i), all.get(on[i]));
                }
                return k;
            }
        }
        return NONE;
    }

    private boolean put(List<List<Integer>> games, int[] on, int i, int k) {
        if (i == on.length) {
            return true;
        }
        for (on[i] = 0; on[i] < k; on[i]++) {
            boolean clash = false;
            for (int j = 0; j < i; j++) {
                clash |= on[j] == on[i] && shareTeam(games.get(i), games.get(j));
            }
            if (!clash && put(games, on, i + 1, k)) {
                return true;
            }
        }
        return false;
    }

    private boolean shareTeam(List<Integer> g, List<Integer> h) {
        int a = g.get(1);
        int b = opponents[g.get(0)][a];
        int c = h.get(1);
        int d = opponents[h.get(0)][c];
        return a == c || a == d || b == c || b == d;
    }

    int catchDate(int round, int home) {
        index(isRound(round) && isTeam(home));
        homeGame(round, home);
        List<Integer> game = List.of(round, home);
        return results.containsKey(game) ? NONE : caught.getOrDefault(game, NONE);
    }
}
