import java.util.Arrays;
import java.util.NoSuchElementException;

/** A league's office: timetables with wishes, results and the table, and games put on reserve dates. */
public final class LeagueRounds {
    public static final int NONE = -1;

    private static final int LEAST_TEAMS = 4;
    private static final int MOST_TEAMS = 20;
    private static final int MOST_ROUNDS = 38;
    private static final int SEARCH_TEAMS = 8;
    private static final int SEARCH_ROUNDS = 7;
    private static final int MOST_CHOICES = SEARCH_ROUNDS * SEARCH_TEAMS / 2;
    private static final int MOST_BUDGET = 4000;
    private static final int LAST_WISH_ROUND = 38;
    private static final int MOST_PAIRS = 6;
    private static final int MOST_FIXED = 6;
    private static final int MOST_CAP = 19;
    private static final int MOST_GOALS = 99;
    private static final int MOST_WASHED = 4;
    private static final int LAST_DATE = 99;
    private static final int MOST_DATES = 6;
    private static final int MOST_CATCH_UP = 14;

    private static final int AWAY = 0;
    private static final int HOME = 1;

    private static final int NO_HOME_GAME = 0;
    private static final int NO_AWAY_GAME = 1;

    private static final int ALL_KEPT = 0;
    private static final int NO_TIMETABLE = 1;
    private static final int BAN_BROKEN = 2;
    private static final int PAIR_BROKEN = 3;
    private static final int FIXED_BROKEN = 4;
    private static final int CAP_BROKEN = 5;

    private static final int NOT_FOUND = 0;
    private static final int FOUND = 1;
    private static final int BUDGET_SPENT = 2;

    private static final int LAST_FIELD = 7;

    private final Timetable timetable;
    private final Wishes wishes;
    private final Search search;
    private final Results results;
    private final WashOuts washOuts;
    private final CatchUp catchUps;

    public LeagueRounds() {
        timetable = new Timetable(MOST_TEAMS, MOST_ROUNDS);
        wishes = new Wishes();
        search = new Search(wishes);
        results = new Results();
        washOuts = new WashOuts(timetable, results);
        catchUps = new CatchUp(timetable, washOuts);
    }

    public void teams(int n) throws IllegalArgumentException {
        if (n < LEAST_TEAMS || n > MOST_TEAMS) {
            throw new IllegalArgumentException("no such number of teams");
        }
        timetable.begin(n, 0);
        wishes.forget();
        forgetSeason();
    }

    public int ban(int team, int round, int venue) throws IllegalArgumentException {
        if (!timetable.hasTeam(team) || !isWishRound(round)) {
            throw new IllegalArgumentException("no such team or round");
        }
        if (venue != NO_HOME_GAME && venue != NO_AWAY_GAME) {
            throw new IllegalArgumentException("no such venue");
        }
        return wishes.addBan(team, round, venue);
    }

    public int shareGround(int a, int b) throws IllegalArgumentException, IllegalStateException {
        if (!areTwoTeams(a, b)) {
            throw new IllegalArgumentException("not two teams");
        }
        if (wishes.pairsAreFull()) {
            throw new IllegalStateException("no more pairs");
        }
        return wishes.addPair(a, b);
    }

    public int fixGame(int home, int away, int round) throws IllegalArgumentException, IllegalStateException {
        if (!areTwoTeams(home, away) || !isWishRound(round)) {
            throw new IllegalArgumentException("not two teams, or no such round");
        }
        if (wishes.fixedAreFull()) {
            throw new IllegalStateException("no more fixed games");
        }
        return wishes.addFixed(home, away, round);
    }

    public void awayCap(int k) throws IllegalArgumentException {
        if (k < 0 || k > MOST_CAP) {
            throw new IllegalArgumentException("no such cap");
        }
        wishes.setCap(k);
    }

    public int makePlain(boolean twice) {
        timetable.layPlain(twice);
        forgetSeason();
        return timetable.roundCount();
    }

    public int make(int budget) throws IllegalArgumentException, IllegalStateException {
        if (budget < 1 || budget > MOST_BUDGET) {
            throw new IllegalArgumentException("no such budget");
        }
        if (timetable.teamCount() > SEARCH_TEAMS) {
            throw new IllegalStateException("too many teams");
        }
        int end = search.run(timetable.teamCount(), budget);
        if (end == FOUND) {
            timetable.takeOver(search.found());
            forgetSeason();
        }
        return end;
    }

    public int rounds() {
        return timetable.roundCount();
    }

    public int opponent(int team, int round) throws IndexOutOfBoundsException {
        requireRoundAndTeam(round, team);
        return timetable.opponentAt(round, team);
    }

    public int venue(int team, int round) throws IndexOutOfBoundsException {
        requireRoundAndTeam(round, team);
        return timetable.venueAt(round, team);
    }

    public int breaks(int team) throws IndexOutOfBoundsException {
        if (team == NONE) {
            return timetable.breaksOfAll();
        }
        if (!timetable.hasTeam(team)) {
            throw new IndexOutOfBoundsException("no such team");
        }
        return timetable.breaksOf(team);
    }

    public int verify() {
        return wishes.firstBroken(timetable);
    }

    public boolean swapRounds(int a, int b) throws IndexOutOfBoundsException, IllegalStateException {
        if (!timetable.hasRound(a) || !timetable.hasRound(b)) {
            throw new IndexOutOfBoundsException("no such round");
        }
        if (results.count() > 0 || washOuts.count() > 0) {
            throw new IllegalStateException("the season has begun");
        }
        timetable.exchange(a, b);
        if (wishes.firstBroken(timetable) == ALL_KEPT) {
            return true;
        }
        timetable.exchange(a, b);
        return false;
    }

    public int result(int round, int home, int goalsHome, int goalsAway)
            throws IndexOutOfBoundsException, IllegalArgumentException, NoSuchElementException, IllegalStateException {
        requireRoundAndTeam(round, home);
        if (!areGoals(goalsHome) || !areGoals(goalsAway)) {
            throw new IllegalArgumentException("no such goals");
        }
        requireHomeGame(round, home);
        if (washOuts.isMissing(round, home) && catchUps.dateAt(round, home) == NONE) {
            throw new IllegalStateException("the game is missing and has no date");
        }
        results.put(round, home, timetable.opponentAt(round, home), goalsHome, goalsAway);
        return results.count();
    }

    public int table(int p, int field) throws IndexOutOfBoundsException {
        if (!timetable.hasTeam(p) || field < 0 || field > LAST_FIELD) {
            throw new IndexOutOfBoundsException("no such place or field");
        }
        Standings standings = results.standings();
        return standings.fieldOf(standings.teamAt(p, timetable.teamCount()), field);
    }

    public int washOut(int round) throws IndexOutOfBoundsException, IllegalStateException {
        if (!timetable.hasRound(round)) {
            throw new IndexOutOfBoundsException("no such round");
        }
        if (washOuts.isWashed(round) || washOuts.count() >= MOST_WASHED) {
            throw new IllegalStateException("washed out already, or too many rounds are");
        }
        washOuts.add(round);
        return washOuts.missingIn(round);
    }

    public int reserve(int date) throws IllegalArgumentException, IllegalStateException {
        if (date < 0 || date > LAST_DATE) {
            throw new IllegalArgumentException("no such date");
        }
        if (catchUps.hasDate(date) || catchUps.datesAreFull()) {
            throw new IllegalStateException("a reserve date already, or no more dates");
        }
        return catchUps.addDate(date);
    }

    public int missing() {
        return washOuts.missingInAll();
    }

    public int catchUp() throws IllegalStateException {
        if (washOuts.missingInAll() > MOST_CATCH_UP) {
            throw new IllegalStateException("too many games are missing");
        }
        return catchUps.run();
    }

    public int catchDate(int round, int home) throws IndexOutOfBoundsException, NoSuchElementException {
        requireRoundAndTeam(round, home);
        requireHomeGame(round, home);
        return results.has(round, home) ? NONE : catchUps.dateAt(round, home);
    }

    private void forgetSeason() {
        results.forget();
        washOuts.forget();
        catchUps.forget();
    }

    private boolean areTwoTeams(int a, int b) {
        return timetable.hasTeam(a) && timetable.hasTeam(b) && a != b;
    }

    private void requireRoundAndTeam(int round, int team) {
        if (!timetable.hasRound(round) || !timetable.hasTeam(team)) {
            throw new IndexOutOfBoundsException("no such round or team");
        }
    }

    private void requireHomeGame(int round, int team) {
        if (timetable.venueAt(round, team) != HOME) {
            throw new NoSuchElementException("no home game in that round");
        }
    }

    private static boolean isWishRound(int round) {
        return round >= 0 && round <= LAST_WISH_ROUND;
    }

    private static boolean areGoals(int goals) {
        return goals >= 0 && goals <= MOST_GOALS;
    }

    private static boolean hasBit(int mask, int bit) {
        return (mask >> bit & 1) != 0;
    }

    /** How many rounds a single timetable has. */
    private static int singleRounds(int teamCount) {
        return teamCount % 2 == 0 ? teamCount - 1 : teamCount;
    }

    /** Where a game or a team of a round stands in a row that holds MOST_TEAMS of them for each round. */
    private static int spot(int round, int team) {
        return round * MOST_TEAMS + team;
    }

    /** Who meets whom in which round, and where. What is not laid yet stands as a bye. */
    private static final class Timetable {
        private final int width;
        private final int[] opponents;
        private final int[] venues;
        private int teamCount;
        private int roundCount;

        Timetable(int mostTeams, int mostRounds) {
            width = mostTeams;
            opponents = new int[mostTeams * mostRounds];
            venues = new int[mostTeams * mostRounds];
            teamCount = LEAST_TEAMS;
            roundCount = 0;
        }

        void begin(int teams, int rounds) {
            teamCount = teams;
            roundCount = rounds;
            Arrays.fill(opponents, NONE);
            Arrays.fill(venues, NONE);
        }

        int teamCount() {
            return teamCount;
        }

        int roundCount() {
            return roundCount;
        }

        boolean hasTeam(int team) {
            return team >= 0 && team < teamCount;
        }

        boolean hasRound(int round) {
            return round >= 0 && round < roundCount;
        }

        int opponentAt(int round, int team) {
            return opponents[round * width + team];
        }

        int venueAt(int round, int team) {
            return venues[round * width + team];
        }

        void putGame(int round, int home, int away) {
            putSide(round, home, away, HOME);
            putSide(round, away, home, AWAY);
        }

        void takeGame(int round, int home, int away) {
            putSide(round, home, NONE, NONE);
            putSide(round, away, NONE, NONE);
        }

        private void putSide(int round, int team, int other, int where) {
            opponents[round * width + team] = other;
            venues[round * width + team] = where;
        }

        void layPlain(boolean twice) {
            int single = singleRounds(teamCount);
            begin(teamCount, twice ? 2 * single : single);
            for (int round = 0; round < single; round++) {
                layPlainRound(round, single);
            }
            for (int round = single; round < roundCount; round++) {
                layReturnRound(round, round - single);
            }
        }

        private void layPlainRound(int round, int single) {
            for (int k = 1; k <= (single - 1) / 2; k++) {
                int first = wrapped(round + k, single);
                int second = wrapped(round + single - k, single);
                layPlainGame(round, first, second, k % 2 != 0);
            }
            if (teamCount % 2 == 0) {
                layPlainGame(round, round, teamCount - 1, round % 2 == 0);
            }
        }

        private void layPlainGame(int round, int first, int second, boolean firstAtHome) {
            putGame(round, firstAtHome ? first : second, firstAtHome ? second : first);
        }

        private void layReturnRound(int round, int like) {
            for (int team = 0; team < teamCount; team++) {
                if (venueAt(like, team) == HOME) {
                    putGame(round, opponentAt(like, team), team);
                }
            }
        }

        private static int wrapped(int team, int count) {
            return team < count ? team : team - count;
        }

        void takeOver(Timetable other) {
            begin(other.teamCount, other.roundCount);
            for (int round = 0; round < roundCount; round++) {
                for (int team = 0; team < teamCount; team++) {
                    putSide(round, team, other.opponentAt(round, team), other.venueAt(round, team));
                }
            }
        }

        void exchange(int a, int b) {
            for (int team = 0; team < teamCount; team++) {
                int other = opponentAt(a, team);
                int where = venueAt(a, team);
                putSide(a, team, opponentAt(b, team), venueAt(b, team));
                putSide(b, team, other, where);
            }
        }

        int breaksOf(int team) {
            int count = 0;
            for (int round = 1; round < roundCount; round++) {
                int where = venueAt(round, team);
                if (where != NONE && where == venueAt(round - 1, team)) {
                    count++;
                }
            }
            return count;
        }

        int breaksOfAll() {
            int count = 0;
            for (int team = 0; team < teamCount; team++) {
                count += breaksOf(team);
            }
            return count;
        }

        /** In how many rounds in succession, the given one being the last, a team is away. */
        int awayRun(int lastRound, int team) {
            int round = lastRound;
            while (round >= 0 && venueAt(round, team) == AWAY) {
                round--;
            }
            return lastRound - round;
        }
    }

    /** What the timetable should keep to. */
    private static final class Wishes {
        // For each round the teams, a bit each: 1560 bans would be too long a list to walk for every choice.
        private final int[] homeBans = new int[LAST_WISH_ROUND + 1];
        private final int[] awayBans = new int[LAST_WISH_ROUND + 1];
        private int banCount;
        private final int[] pairFirst = new int[MOST_PAIRS];
        private final int[] pairSecond = new int[MOST_PAIRS];
        private int pairCount;
        private final int[] fixedHome = new int[MOST_FIXED];
        private final int[] fixedAway = new int[MOST_FIXED];
        private final int[] fixedRound = new int[MOST_FIXED];
        private int fixedCount;
        private int cap;

        void forget() {
            Arrays.fill(homeBans, 0);
            Arrays.fill(awayBans, 0);
            banCount = 0;
            pairCount = 0;
            fixedCount = 0;
            cap = 0;
        }

        int addBan(int team, int round, int kind) {
            int[] bans = kind == NO_HOME_GAME ? homeBans : awayBans;
            if (!hasBit(bans[round], team)) {
                bans[round] |= 1 << team;
                banCount++;
            }
            return banCount;
        }

        boolean pairsAreFull() {
            return pairCount >= MOST_PAIRS;
        }

        int addPair(int a, int b) {
            pairFirst[pairCount] = a;
            pairSecond[pairCount] = b;
            pairCount++;
            return pairCount;
        }

        boolean fixedAreFull() {
            return fixedCount >= MOST_FIXED;
        }

        int addFixed(int home, int away, int round) {
            fixedHome[fixedCount] = home;
            fixedAway[fixedCount] = away;
            fixedRound[fixedCount] = round;
            fixedCount++;
            return fixedCount;
        }

        void setCap(int k) {
            cap = k;
        }

        /** The answer of verify: which kind of wish is the first that a complete timetable breaks. */
        int firstBroken(Timetable timetable) {
            if (timetable.roundCount() == 0) {
                return NO_TIMETABLE;
            }
            if (breaksBan(timetable)) {
                return BAN_BROKEN;
            }
            if (breaksPair(timetable)) {
                return PAIR_BROKEN;
            }
            if (breaksFixed(timetable)) {
                return FIXED_BROKEN;
            }
            return breaksCap(timetable) ? CAP_BROKEN : ALL_KEPT;
        }

        private boolean breaksBan(Timetable timetable) {
            for (int round = 0; round < timetable.roundCount(); round++) {
                for (int team = 0; team < timetable.teamCount(); team++) {
                    int where = timetable.venueAt(round, team);
                    if (where == HOME && hasBit(homeBans[round], team)
                            || where == AWAY && hasBit(awayBans[round], team)) {
                        return true;
                    }
                }
            }
            return false;
        }

        private boolean breaksPair(Timetable timetable) {
            for (int i = 0; i < pairCount; i++) {
                for (int round = 0; round < timetable.roundCount(); round++) {
                    if (timetable.venueAt(round, pairFirst[i]) == HOME
                            && timetable.venueAt(round, pairSecond[i]) == HOME) {
                        return true;
                    }
                }
            }
            return false;
        }

        private boolean breaksFixed(Timetable timetable) {
            for (int i = 0; i < fixedCount; i++) {
                int round = fixedRound[i];
                if (!timetable.hasRound(round)
                        || timetable.opponentAt(round, fixedHome[i]) != fixedAway[i]
                        || timetable.venueAt(round, fixedHome[i]) != HOME) {
                    return true;
                }
            }
            return false;
        }

        private boolean breaksCap(Timetable timetable) {
            if (cap == 0) {
                return false;
            }
            for (int team = 0; team < timetable.teamCount(); team++) {
                for (int round = 0; round < timetable.roundCount(); round++) {
                    if (timetable.awayRun(round, team) > cap) {
                        return true;
                    }
                }
            }
            return false;
        }

        /** Whether a game can be put into a draft whose rounds are laid one behind the other. */
        boolean allowGame(Timetable draft, int round, int home, int away) {
            return !hasBit(homeBans[round], home)
                    && !hasBit(awayBans[round], away)
                    && fixedAllowGame(round, home, away)
                    && !groundIsTaken(draft, round, home)
                    && (cap == 0 || draft.awayRun(round - 1, away) < cap);
        }

        boolean allowBye(int round, int team) {
            for (int i = 0; i < fixedCount; i++) {
                if (fixedRound[i] == round && isOfFixed(i, team)) {
                    return false;
                }
            }
            return true;
        }

        private boolean fixedAllowGame(int round, int home, int away) {
            for (int i = 0; i < fixedCount; i++) {
                boolean homeIsOfIt = isOfFixed(i, home);
                boolean awayIsOfIt = isOfFixed(i, away);
                if (fixedRound[i] != round) {
                    if (homeIsOfIt && awayIsOfIt) {
                        return false;
                    }
                } else if ((homeIsOfIt || awayIsOfIt) && (fixedHome[i] != home || fixedAway[i] != away)) {
                    return false;
                }
            }
            return true;
        }

        private boolean isOfFixed(int i, int team) {
            return fixedHome[i] == team || fixedAway[i] == team;
        }

        private boolean groundIsTaken(Timetable draft, int round, int home) {
            for (int i = 0; i < pairCount; i++) {
                if (pairFirst[i] == home && draft.venueAt(round, pairSecond[i]) == HOME
                        || pairSecond[i] == home && draft.venueAt(round, pairFirst[i]) == HOME) {
                    return true;
                }
            }
            return false;
        }
    }

    /**
     * The search for a single timetable that keeps all wishes. A second bye in a round is a choice like
     * any other and counts, though nothing complete is ever found behind it: with n teams each round has
     * an odd number of byes, and there are n byes for n rounds.
     */
    private static final class Search {
        private final Wishes wishes;
        private final Timetable draft = new Timetable(SEARCH_TEAMS, SEARCH_ROUNDS);
        private final int[] busy = new int[SEARCH_ROUNDS];
        private final int[] met = new int[SEARCH_TEAMS];
        private int hadBye;
        private int everyone;
        private int choicesLeft;

        Search(Wishes wishes) {
            this.wishes = wishes;
        }

        Timetable found() {
            return draft;
        }

        int run(int teamCount, int budget) {
            draft.begin(teamCount, singleRounds(teamCount));
            Arrays.fill(busy, 0);
            Arrays.fill(met, 0);
            hadBye = 0;
            everyone = (1 << teamCount) - 1;
            choicesLeft = budget;
            return goOn(0, 0);
        }

        /**
         * The depth is the number of choices that stand. No two teams meet twice and none has two byes, so
         * with seven teams they are 21 games and 7 byes at most, and with eight 28 games.
         */
        private int goOn(int depth, int from) {
            int round = busy[from] == everyone ? from + 1 : from;
            if (!draft.hasRound(round)) {
                return FOUND;
            }
            if (depth >= MOST_CHOICES) {
                return NOT_FOUND;
            }
            int team = leastFree(round);
            for (int other = team + 1; other < draft.teamCount(); other++) {
                if (canMeet(round, team, other)) {
                    int end = tryGame(depth, round, team, other);
                    if (end == NOT_FOUND) {
                        end = tryGame(depth, round, other, team);
                    }
                    if (end != NOT_FOUND) {
                        return end;
                    }
                }
            }
            return tryBye(depth, round, team);
        }

        private int leastFree(int round) {
            int team = 0;
            while (team < draft.teamCount() && hasBit(busy[round], team)) {
                team++;
            }
            return team;
        }

        private boolean canMeet(int round, int team, int other) {
            return !hasBit(busy[round], other) && !hasBit(met[team], other);
        }

        private int tryGame(int depth, int round, int home, int away) {
            if (!wishes.allowGame(draft, round, home, away)) {
                return NOT_FOUND;
            }
            if (choicesLeft == 0) {
                return BUDGET_SPENT;
            }
            choicesLeft--;
            draft.putGame(round, home, away);
            flipMeeting(round, home, away);
            int end = goOn(depth + 1, round);
            if (end == NOT_FOUND) {
                flipMeeting(round, home, away);
                draft.takeGame(round, home, away);
            }
            return end;
        }

        private int tryBye(int depth, int round, int team) {
            if (draft.teamCount() % 2 == 0 || hasBit(hadBye, team) || !wishes.allowBye(round, team)) {
                return NOT_FOUND;
            }
            if (choicesLeft == 0) {
                return BUDGET_SPENT;
            }
            choicesLeft--;
            flipBye(round, team);
            int end = goOn(depth + 1, round);
            if (end == NOT_FOUND) {
                flipBye(round, team);
            }
            return end;
        }

        /** Notes that two meet in a round, or, done once more, takes that back. */
        private void flipMeeting(int round, int a, int b) {
            busy[round] ^= 1 << a | 1 << b;
            met[a] ^= 1 << b;
            met[b] ^= 1 << a;
        }

        private void flipBye(int round, int team) {
            busy[round] ^= 1 << team;
            hadBye ^= 1 << team;
        }
    }

    /** The goals of the games that have been played. */
    private static final class Results {
        private final int[] homeGoals = new int[MOST_TEAMS * MOST_ROUNDS];
        private final int[] awayGoals = new int[MOST_TEAMS * MOST_ROUNDS];
        private final Standings rows = new Standings();
        private int count;

        Results() {
            Arrays.fill(homeGoals, NONE);
        }

        void forget() {
            Arrays.fill(homeGoals, NONE);
            rows.forget();
            count = 0;
        }

        int count() {
            return count;
        }

        Standings standings() {
            return rows;
        }

        boolean has(int round, int home) {
            return homeGoals[spot(round, home)] != NONE;
        }

        void put(int round, int home, int away, int goalsHome, int goalsAway) {
            int game = spot(round, home);
            if (homeGoals[game] == NONE) {
                count++;
            } else {
                rows.score(home, away, homeGoals[game], awayGoals[game], -1);
            }
            homeGoals[game] = goalsHome;
            awayGoals[game] = goalsAway;
            rows.score(home, away, goalsHome, goalsAway, 1);
        }
    }

    /** A row of the table for each team. */
    private static final class Standings {
        private final int[] won = new int[MOST_TEAMS];
        private final int[] drawn = new int[MOST_TEAMS];
        private final int[] lost = new int[MOST_TEAMS];
        private final int[] goalsFor = new int[MOST_TEAMS];
        private final int[] goalsAgainst = new int[MOST_TEAMS];

        void forget() {
            Arrays.fill(won, 0);
            Arrays.fill(drawn, 0);
            Arrays.fill(lost, 0);
            Arrays.fill(goalsFor, 0);
            Arrays.fill(goalsAgainst, 0);
        }

        /** Counts a game for both teams; times is -1 to take back what was counted. */
        void score(int home, int away, int goalsHome, int goalsAway, int times) {
            scoreSide(home, goalsHome, goalsAway, times);
            scoreSide(away, goalsAway, goalsHome, times);
        }

        private void scoreSide(int team, int own, int others, int times) {
            if (own > others) {
                won[team] += times;
            } else if (own == others) {
                drawn[team] += times;
            } else {
                lost[team] += times;
            }
            goalsFor[team] += times * own;
            goalsAgainst[team] += times * others;
        }

        int teamAt(int place, int teamCount) {
            for (int team = 0; team < teamCount; team++) {
                if (placeOf(team, teamCount) == place) {
                    return team;
                }
            }
            return 0;
        }

        private int placeOf(int team, int teamCount) {
            int before = 0;
            for (int other = 0; other < teamCount; other++) {
                if (other != team && standsBefore(other, team)) {
                    before++;
                }
            }
            return before;
        }

        private boolean standsBefore(int a, int b) {
            if (points(a) != points(b)) {
                return points(a) > points(b);
            }
            if (difference(a) != difference(b)) {
                return difference(a) > difference(b);
            }
            if (goalsFor[a] != goalsFor[b]) {
                return goalsFor[a] > goalsFor[b];
            }
            return a < b;
        }

        private int points(int team) {
            return 3 * won[team] + drawn[team];
        }

        private int difference(int team) {
            return goalsFor[team] - goalsAgainst[team];
        }

        int fieldOf(int team, int field) {
            switch (field) {
                case 0:
                    return team;
                case 1:
                    return won[team] + drawn[team] + lost[team];
                case 2:
                    return won[team];
                case 3:
                    return drawn[team];
                case 4:
                    return lost[team];
                case 5:
                    return goalsFor[team];
                case 6:
                    return goalsAgainst[team];
                default:
                    return points(team);
            }
        }
    }

    /** The rounds that were washed out, and the games that are missing for it. */
    private static final class WashOuts {
        private final Timetable timetable;
        private final Results results;
        private final boolean[] washed = new boolean[MOST_ROUNDS];
        private int count;

        WashOuts(Timetable timetable, Results results) {
            this.timetable = timetable;
            this.results = results;
        }

        void forget() {
            for (int round = 0; round < MOST_ROUNDS; round++) {
                washed[round] = false;
            }
            count = 0;
        }

        int count() {
            return count;
        }

        boolean isWashed(int round) {
            return washed[round];
        }

        void add(int round) {
            washed[round] = true;
            count++;
        }

        boolean isMissing(int round, int home) {
            return washed[round] && timetable.venueAt(round, home) == HOME && !results.has(round, home);
        }

        int missingIn(int round) {
            int games = 0;
            for (int team = 0; team < timetable.teamCount(); team++) {
                if (isMissing(round, team)) {
                    games++;
                }
            }
            return games;
        }

        int missingInAll() {
            int games = 0;
            for (int round = 0; round < timetable.roundCount(); round++) {
                games += missingIn(round);
            }
            return games;
        }
    }

    /** The reserve dates, and the missing games that were put on them. */
    private static final class CatchUp {
        private final Timetable timetable;
        private final WashOuts washOuts;
        private final int[] dates = new int[MOST_DATES];
        private int dateCount;
        private final int[] dateOfGame = new int[MOST_TEAMS * MOST_ROUNDS];
        private final int[] gameRound = new int[MOST_CATCH_UP];
        private final int[] gameHome = new int[MOST_CATCH_UP];
        private final int[] gameAway = new int[MOST_CATCH_UP];
        private final int[] chosen = new int[MOST_CATCH_UP];
        private final int[] takenDates = new int[MOST_TEAMS];
        private int gameCount;

        CatchUp(Timetable timetable, WashOuts washOuts) {
            this.timetable = timetable;
            this.washOuts = washOuts;
            Arrays.fill(dateOfGame, NONE);
        }

        void forget() {
            dateCount = 0;
            Arrays.fill(dateOfGame, NONE);
        }

        boolean datesAreFull() {
            return dateCount >= MOST_DATES;
        }

        boolean hasDate(int date) {
            for (int i = 0; i < dateCount; i++) {
                if (dates[i] == date) {
                    return true;
                }
            }
            return false;
        }

        int addDate(int date) {
            int place = dateCount;
            while (place > 0 && dates[place - 1] > date) {
                dates[place] = dates[place - 1];
                place--;
            }
            dates[place] = date;
            dateCount++;
            return dateCount;
        }

        int dateAt(int round, int home) {
            return dateOfGame[spot(round, home)];
        }

        int run() {
            listGames();
            for (int count = mostGamesOfOneTeam(); count <= dateCount; count++) {
                Arrays.fill(takenDates, 0);
                if (putFrom(0, count, 0)) {
                    keepDates();
                    return count;
                }
            }
            return NONE;
        }

        private void listGames() {
            gameCount = 0;
            for (int round = 0; round < timetable.roundCount(); round++) {
                for (int team = 0; team < timetable.teamCount(); team++) {
                    if (washOuts.isMissing(round, team) && gameCount < MOST_CATCH_UP) {
                        gameRound[gameCount] = round;
                        gameHome[gameCount] = team;
                        gameAway[gameCount] = timetable.opponentAt(round, team);
                        gameCount++;
                    }
                }
            }
        }

        /** No catch-up can do with fewer dates than that. */
        private int mostGamesOfOneTeam() {
            int most = 0;
            for (int team = 0; team < timetable.teamCount(); team++) {
                int games = 0;
                for (int i = 0; i < gameCount; i++) {
                    if (gameHome[i] == team || gameAway[i] == team) {
                        games++;
                    }
                }
                most = Math.max(most, games);
            }
            return most;
        }

        /**
         * Puts a game and all behind it on the first so many dates. Dates that have no game yet are all
         * alike for those behind, so only the earliest of them is tried.
         */
        private boolean putFrom(int game, int count, int used) {
            if (game >= gameCount) {
                return true;
            }
            int tried = Math.min(used + 1, count);
            for (int date = 0; date < tried; date++) {
                if (isOpen(game, date)) {
                    flipDate(game, date);
                    if (putFrom(game + 1, count, Math.max(used, date + 1))) {
                        chosen[game] = date;
                        return true;
                    }
                    flipDate(game, date);
                }
            }
            return false;
        }

        private boolean isOpen(int game, int date) {
            return !hasBit(takenDates[gameHome[game]] | takenDates[gameAway[game]], date);
        }

        private void flipDate(int game, int date) {
            takenDates[gameHome[game]] ^= 1 << date;
            takenDates[gameAway[game]] ^= 1 << date;
        }

        private void keepDates() {
            for (int i = 0; i < gameCount; i++) {
                dateOfGame[spot(gameRound[i], gameHome[i])] = dates[chosen[i]];
            }
        }
    }
}
