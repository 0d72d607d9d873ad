/**
 * A town of crossings and streets that can be closed, with the best way from its start to its
 * goal. What each call promises stands in DOC.md.
 */
public final class ClosedStreets {
    public static final int NONE = -999;

    private static final int MIN_CROSSINGS = 2;
    private static final int MAX_CROSSINGS = 9;
    private static final int MAX_STREETS = 20;
    private static final int MAX_LENGTH = 99;
    private static final int MAX_CODE = 255;
    private static final int MAX_TEXT = 140;
    private static final int MAX_REMEMBERED = 14;
    private static final int SLOTS = 2;
    private static final int MAX_WAY_LENGTH = 999;
    private static final int MAX_COUNTED_WAYS = 500;
    private static final int MAX_DAYS = 60;
    private static final int DAY_WITHOUT_WAY = 100000;
    private static final int MAX_COMMANDS = 3;
    private static final int GROUP = 100000;

    // How a change of a town answers: the same checks serve the calls, plans and scripts,
    // and only the calls turn a refusal into an exception.
    private static final int GRANTED = 0;
    private static final int MISSING = 1;
    private static final int OUT_OF_RANGE = 2;
    private static final int NOT_NOW = 3;

    private final Text text = new Text();
    private final TownReader townReader = new TownReader();
    private final PlanReader planReader = new PlanReader();
    private final Town town = new Town();
    // Whatever may fail or is only asked for is done on this copy, never on the town itself.
    private final Town trial = new Town();
    private final History history = new History();
    private final Slots slots = new Slots();
    // Two routes, since the best way must stay while the ways of the trial are looked for.
    private final Route best = new Route();
    private final Route other = new Route();

    public ClosedStreets() {
    }

    // ---- text

    public int append(int c) throws IllegalArgumentException, IllegalStateException {
        if (c < 0 || c > MAX_CODE) {
            throw new IllegalArgumentException("no such character code");
        }
        if (text.length >= MAX_TEXT) {
            throw new IllegalStateException("the text is full");
        }
        text.put((char) c);
        return text.length;
    }

    public int clearText() {
        int previous = text.length;
        text.length = 0;
        return previous;
    }

    public int errorPosition(boolean plan) {
        return plan ? planReader.errorIn(text) : townReader.errorIn(text, trial);
    }

    public int load() throws IllegalStateException {
        if (townReader.errorIn(text, trial) != NONE) {
            throw new IllegalStateException("the text is not a town");
        }
        town.copyFrom(trial);
        history.forgetAll();
        slots.emptyAll();
        return town.streets;
    }

    // ---- the town

    public int about(int what) throws IllegalArgumentException {
        switch (what) {
            case 0:
                return town.crossings;
            case 1:
                return town.streets;
            case 2:
                return town.closedStreets();
            case 3:
                return town.start;
            case 4:
                return town.goal;
            case 5:
                return bestLengthIn(town);
            case 6:
                best.find(town);
                return best.streets();
            case 7:
                return neededStreets();
            default:
                throw new IllegalArgumentException("no such number of the town");
        }
    }

    public int street(int s, int what) throws IndexOutOfBoundsException, IllegalArgumentException {
        requireStreet(s);
        switch (what) {
            case 0:
                return town.lower[s];
            case 1:
                return town.higher[s];
            case 2:
                return town.length[s];
            case 3:
                return town.closed[s] ? 1 : 0;
            case 4:
                best.find(town);
                return best.uses(town, s) ? 1 : 0;
            default:
                throw new IllegalArgumentException("no such number of a street");
        }
    }

    public int crossing(int c, int what)
            throws IndexOutOfBoundsException, IllegalArgumentException {
        requireCrossing(c);
        switch (what) {
            case 0:
                return town.openStreetsAt(c);
            case 1:
                best.weigh(town, town.start);
                return best.lengthFrom(c);
            case 2:
                best.weigh(town, town.goal);
                return best.lengthFrom(c);
            case 3:
                best.find(town);
                return best.placeOf(c);
            default:
                throw new IllegalArgumentException("no such number of a crossing");
        }
    }

    public int between(int a, int b) throws IndexOutOfBoundsException {
        requireCrossing(a);
        requireCrossing(b);
        return town.streetJoining(a, b);
    }

    public int wayAt(int i) throws IllegalArgumentException {
        requirePlace(i);
        best.find(town);
        return best.crossingAt(i);
    }

    // ---- actions

    public int addCrossing() throws IllegalStateException {
        trial.copyFrom(town);
        raise(trial.grow());
        acceptTrial();
        return town.crossings - 1;
    }

    public int addStreet(int a, int b, int length)
            throws IndexOutOfBoundsException, IllegalArgumentException, IllegalStateException {
        trial.copyFrom(town);
        raise(trial.join(a, b, length));
        acceptTrial();
        return town.streets - 1;
    }

    public int removeStreet(int s) throws IndexOutOfBoundsException {
        trial.copyFrom(town);
        raise(trial.takeAway(s));
        acceptTrial();
        return bestLengthIn(town);
    }

    public int setLength(int s, int length)
            throws IndexOutOfBoundsException, IllegalArgumentException {
        trial.copyFrom(town);
        raise(trial.stretch(s, length));
        int previous = town.lengthOf(s);
        acceptTrial();
        return previous;
    }

    public int close(int s, boolean is) throws IndexOutOfBoundsException {
        trial.copyFrom(town);
        raise(trial.shut(s, is));
        acceptTrial();
        return bestLengthIn(town);
    }

    public int setEnds(int start, int goal)
            throws IndexOutOfBoundsException, IllegalArgumentException {
        trial.copyFrom(town);
        raise(trial.direct(start, goal));
        acceptTrial();
        return bestLengthIn(town);
    }

    public int runPlan() throws IllegalStateException {
        if (planReader.errorIn(text) != NONE) {
            throw new IllegalStateException("the text is not a plan");
        }
        trial.copyFrom(town);
        int done = 0;
        while (done < planReader.commands && planCommandOnTrial(done) == GRANTED) {
            done++;
        }
        acceptTrial();
        return done;
    }

    public int undo() throws IllegalStateException {
        if (history.count == 0) {
            throw new IllegalStateException("no state is remembered");
        }
        history.takeBack(town);
        return history.count;
    }

    // ---- what would be

    public int without(int s) throws IndexOutOfBoundsException {
        requireStreet(s);
        return lengthWithout(s);
    }

    public int withoutAt(int s, int i)
            throws IndexOutOfBoundsException, IllegalArgumentException {
        requireStreet(s);
        requirePlace(i);
        trial.copyFrom(town);
        trial.shut(s, true);
        other.find(trial);
        return other.crossingAt(i);
    }

    public int dearest() {
        best.find(town);
        int found = NONE;
        int greatest = 0;
        for (int s = 0; s < town.streets; s++) {
            if (best.uses(town, s)) {
                int length = lengthWithout(s);
                if (length == NONE) {
                    return s;
                }
                if (found == NONE || length > greatest) {
                    found = s;
                    greatest = length;
                }
            }
        }
        return found;
    }

    public int upTo(int s) throws IndexOutOfBoundsException {
        requireStreet(s);
        if (town.closed[s]) {
            return NONE;
        }
        trial.copyFrom(town);
        // A street of the best way stays one when it becomes shorter: all ways through it become
        // shorter alike. So the greatest length can be put together of halving steps.
        int longEnough = 0;
        for (int step = 64; step > 0; step /= 2) {
            if (isOnBestWayWithLength(s, longEnough + step)) {
                longEnough += step;
            }
        }
        return longEnough == 0 ? NONE : longEnough;
    }

    public int saves(int a, int b, int length)
            throws IndexOutOfBoundsException, IllegalArgumentException {
        raise(town.refusalOfPair(a, b));
        raise(refusalOfLength(length));
        int now = bestLengthIn(town);
        trial.copyFrom(town);
        trial.replace(a, b, length);
        int then = bestLengthIn(trial);
        return now == NONE || then == NONE ? NONE : now - then;
    }

    public int ways(int length) throws IllegalArgumentException {
        if (length < 0 || length > MAX_WAY_LENGTH) {
            throw new IllegalArgumentException("the length is not 0 to 999");
        }
        return countWays(town, town.start, length, 1 << town.start, 1, 0);
    }

    public int middle() {
        int found = NONE;
        int nearest = 0;
        for (int c = 0; c < town.crossings; c++) {
            best.weigh(town, c);
            int farthest = best.farthest(town);
            if (farthest == NONE) {
                return NONE;
            }
            if (found == NONE || farthest < nearest) {
                found = c;
                nearest = farthest;
            }
        }
        return found;
    }

    // ---- scripts, simulations

    public int runScript(int n, long script) throws IllegalArgumentException {
        if (n < 1 || n > MAX_COMMANDS) {
            throw new IllegalArgumentException("a script has 1 to 3 commands");
        }
        if (script < 0 || leadingGroups(script, n) != 0) {
            throw new IllegalArgumentException("the script has too many digits");
        }
        trial.copyFrom(town);
        for (int i = 0; i < n; i++) {
            if (!scriptCommandOnTrial((int) (leadingGroups(script, n - 1 - i) % GROUP))) {
                return i;
            }
        }
        return NONE;
    }

    public int simulate(long seed, int m) throws IllegalArgumentException {
        if (m < 1 || m > MAX_DAYS) {
            throw new IllegalArgumentException("the days are not 1 to 60");
        }
        long x = seed;
        int sum = 0;
        for (int day = 0; day < m; day++) {
            trial.copyFrom(town);
            for (int s = 0; s < town.streets; s++) {
                if (!town.closed[s]) {
                    x = x * 6364136223846793005L + 1442695040888963407L;
                    int r = (int) (x >>> 33);
                    trial.closed[s] = r % 4 == 0;
                }
            }
            int length = bestLengthIn(trial);
            sum += length == NONE ? DAY_WITHOUT_WAY : length;
        }
        return sum;
    }

    // ---- save slots

    public int save(int slot) throws IndexOutOfBoundsException {
        requireSlot(slot);
        slots.keep(slot, town);
        return town.streets;
    }

    public int restore(int slot) throws IndexOutOfBoundsException, IllegalStateException {
        requireSlot(slot);
        if (!slots.filled[slot]) {
            throw new IllegalStateException("nothing has been saved in this slot");
        }
        slots.giveBack(slot, town);
        history.forgetAll();
        return town.streets;
    }

    // ---- what the calls share

    private static void raise(int refusal) {
        if (refusal == MISSING) {
            throw new IndexOutOfBoundsException("no such crossing or street");
        }
        if (refusal == OUT_OF_RANGE) {
            throw new IllegalArgumentException("an argument is out of its range");
        }
        if (refusal == NOT_NOW) {
            throw new IllegalStateException("the town does not allow it");
        }
    }

    private void requireStreet(int s) {
        if (!town.hasStreet(s)) {
            throw new IndexOutOfBoundsException("no such street");
        }
    }

    private void requireCrossing(int c) {
        if (!town.hasCrossing(c)) {
            throw new IndexOutOfBoundsException("no such crossing");
        }
    }

    private static void requirePlace(int i) {
        if (i < 0) {
            throw new IllegalArgumentException("a place is 0 or more");
        }
    }

    private static void requireSlot(int slot) {
        if (slot < 0 || slot >= SLOTS) {
            throw new IndexOutOfBoundsException("no such save slot");
        }
    }

    private static int refusalOfLength(int length) {
        return length < 1 || length > MAX_LENGTH ? OUT_OF_RANGE : GRANTED;
    }

    private void acceptTrial() {
        history.keep(town);
        town.copyFrom(trial);
    }

    private int bestLengthIn(Town asked) {
        other.weigh(asked, asked.goal);
        return other.lengthFrom(asked.start);
    }

    private int lengthWithout(int s) {
        trial.copyFrom(town);
        trial.shut(s, true);
        return bestLengthIn(trial);
    }

    private boolean isOnBestWayWithLength(int s, int length) {
        return trial.stretch(s, length) == GRANTED && isOnBestWayOfTrial(s);
    }

    private int neededStreets() {
        // A street that no way can do without is one of the best way, too.
        best.find(town);
        int needed = 0;
        for (int s = 0; s < town.streets; s++) {
            if (best.uses(town, s) && lengthWithout(s) == NONE) {
                needed++;
            }
        }
        return needed;
    }

    private static int countWays(
            Town town, int at, int left, int visited, int depth, int countedAhead) {
        if (at == town.goal) {
            return countedAhead + 1;
        }
        int counted = countedAhead;
        if (depth >= MAX_CROSSINGS) {
            return counted;
        }
        for (int s = 0; s < town.streets && counted < MAX_COUNTED_WAYS; s++) {
            int next = town.reachedThrough(s, at);
            if (next != NONE && (visited & 1 << next) == 0 && town.length[s] <= left) {
                counted = countWays(town, next, left - town.length[s],
                        visited | 1 << next, depth + 1, counted);
            }
        }
        return counted;
    }

    private int planCommandOnTrial(int k) {
        int first = planReader.first[k];
        int second = planReader.second[k];
        switch (planReader.words[k]) {
            case 'o':
                return trial.shut(first, false);
            case 'c':
                return trial.shut(first, true);
            case 'l':
                return trial.stretch(first, second);
            case 'e':
                return trial.direct(first, second);
            default:
                return trial.direct(trial.goal, trial.start);
        }
    }

    private static long leadingGroups(long script, int groupsBehind) {
        long rest = script;
        for (int i = 0; i < groupsBehind; i++) {
            rest /= GROUP;
        }
        return rest;
    }

    private boolean scriptCommandOnTrial(int group) {
        int second = group / 1000 % 10;
        int third = group / 100 % 10;
        int middleTwo = group / 100 % 100;
        int lastTwo = group % 100;
        switch (group / 10000) {
            case 1:
                return trial.join(second, third, lastTwo) == GRANTED;
            case 2:
                return lastTwo == 0 && trial.takeAway(middleTwo) == GRANTED;
            case 3:
                return trial.stretch(middleTwo, lastTwo) == GRANTED;
            case 4:
                return (lastTwo == 0 || lastTwo == 10)
                        && trial.shut(middleTwo, lastTwo == 10) == GRANTED;
            case 5:
                return lastTwo == 0 && trial.direct(second, third) == GRANTED;
            case 6:
                return second == 0 && isAtMost(bestLengthIn(trial), group % 1000);
            case 7:
                return lastTwo == 0 && isOnBestWayOfTrial(middleTwo);
            case 8:
                return middleTwo == 0 && lastTwo < 10 && hasTrialWayOf(lastTwo);
            case 9:
                return third == 0 && isNearInTrial(second, lastTwo);
            default:
                return false;
        }
    }

    private static boolean isAtMost(int result, int limit) {
        return result != NONE && result <= limit;
    }

    private boolean isOnBestWayOfTrial(int s) {
        other.find(trial);
        return trial.hasStreet(s) && other.uses(trial, s);
    }

    private boolean hasTrialWayOf(int mostStreets) {
        other.find(trial);
        return isAtMost(other.streets(), mostStreets);
    }

    private boolean isNearInTrial(int c, int mostLength) {
        other.weigh(trial, trial.start);
        return trial.hasCrossing(c) && isAtMost(other.lengthFrom(c), mostLength);
    }

    /** The state that actions change. */
    private static final class Town {
        // One more than a town may have, since a further street may be tried.
        static final int ROOM = MAX_STREETS + 1;

        int crossings = MIN_CROSSINGS;
        int streets = 0;
        int start = 0;
        int goal = 1;
        final int[] lower = new int[ROOM];
        final int[] higher = new int[ROOM];
        final int[] length = new int[ROOM];
        final boolean[] closed = new boolean[ROOM];

        void beginWith(int newCrossings, int newStart, int newGoal) {
            crossings = newCrossings;
            start = newStart;
            goal = newGoal;
            streets = 0;
        }

        void copyFrom(Town source) {
            crossings = source.crossings;
            streets = source.streets;
            start = source.start;
            goal = source.goal;
            for (int s = 0; s < streets; s++) {
                copyStreet(source, s, s);
            }
        }

        private void copyStreet(Town source, int from, int to) {
            lower[to] = source.lower[from];
            higher[to] = source.higher[from];
            length[to] = source.length[from];
            closed[to] = source.closed[from];
        }

        boolean hasCrossing(int c) {
            return c >= 0 && c < crossings;
        }

        boolean hasStreet(int s) {
            return s >= 0 && s < streets;
        }

        int lengthOf(int s) {
            return hasStreet(s) ? length[s] : NONE;
        }

        int closedStreets() {
            int count = 0;
            for (int s = 0; s < streets; s++) {
                if (closed[s]) {
                    count++;
                }
            }
            return count;
        }

        int openStreetsAt(int c) {
            int count = 0;
            for (int s = 0; s < streets; s++) {
                if (reachedThrough(s, c) != NONE) {
                    count++;
                }
            }
            return count;
        }

        int streetJoining(int a, int b) {
            for (int s = 0; s < streets; s++) {
                if (lower[s] == Math.min(a, b) && higher[s] == Math.max(a, b)) {
                    return s;
                }
            }
            return NONE;
        }

        int reachedThrough(int s, int from) {
            if (!hasStreet(s) || closed[s]) {
                return NONE;
            }
            if (lower[s] == from) {
                return higher[s];
            }
            return higher[s] == from ? lower[s] : NONE;
        }

        boolean isJoinedWithAllOthers(int c) {
            int joined = 0;
            for (int s = 0; s < streets; s++) {
                if (lower[s] == c || higher[s] == c) {
                    joined++;
                }
            }
            return joined >= crossings - 1;
        }

        boolean takesNoStreet() {
            return streets >= MAX_STREETS || streets >= crossings * (crossings - 1) / 2;
        }

        int refusalOfPair(int a, int b) {
            if (!hasCrossing(a) || !hasCrossing(b)) {
                return MISSING;
            }
            return a == b ? OUT_OF_RANGE : GRANTED;
        }

        int grow() {
            if (crossings >= MAX_CROSSINGS) {
                return NOT_NOW;
            }
            crossings++;
            return GRANTED;
        }

        int join(int a, int b, int newLength) {
            int refusal = refusalOfPair(a, b);
            if (refusal == GRANTED) {
                refusal = refusalOfLength(newLength);
            }
            if (refusal == GRANTED && (streets >= MAX_STREETS || streetJoining(a, b) != NONE)) {
                refusal = NOT_NOW;
            }
            if (refusal == GRANTED) {
                replace(a, b, newLength);
            }
            return refusal;
        }

        /** Puts an open street in place of the one that joins both, or else behind all others. */
        void replace(int a, int b, int newLength) {
            int s = streetJoining(a, b);
            if (s == NONE && streets < ROOM) {
                s = streets;
                streets++;
            }
            if (hasStreet(s)) {
                lower[s] = Math.min(a, b);
                higher[s] = Math.max(a, b);
                length[s] = newLength;
                closed[s] = false;
            }
        }

        int takeAway(int s) {
            if (!hasStreet(s)) {
                return MISSING;
            }
            streets--;
            for (int behind = s; behind < streets; behind++) {
                copyStreet(this, behind + 1, behind);
            }
            return GRANTED;
        }

        int stretch(int s, int newLength) {
            if (!hasStreet(s)) {
                return MISSING;
            }
            int refusal = refusalOfLength(newLength);
            if (refusal == GRANTED) {
                length[s] = newLength;
            }
            return refusal;
        }

        int shut(int s, boolean is) {
            if (!hasStreet(s)) {
                return MISSING;
            }
            closed[s] = is;
            return GRANTED;
        }

        int direct(int newStart, int newGoal) {
            int refusal = refusalOfPair(newStart, newGoal);
            if (refusal == GRANTED) {
                start = newStart;
                goal = newGoal;
            }
            return refusal;
        }
    }

    /** The best way of a town, and how far its crossings are from one of them. */
    private static final class Route {
        // A way has at most 8 streets, so that one number holds its length and, below that, its
        // streets: the smaller number is the better way, but for the crossings on it.
        static final int LENGTH_WEIGHT = 16;
        static final int UNREACHED = 1000000;

        private final int[] weights = new int[MAX_CROSSINGS];
        private final int[] way = new int[MAX_CROSSINGS];
        private final int[] places = new int[MAX_CROSSINGS];
        private int wayCrossings = 0;

        void weigh(Town town, int target) {
            for (int c = 0; c < MAX_CROSSINGS; c++) {
                weights[c] = c == target ? 0 : UNREACHED;
            }
            boolean better = true;
            for (int round = 0; better && round < MAX_CROSSINGS; round++) {
                better = false;
                for (int s = 0; s < town.streets; s++) {
                    if (!town.closed[s] && improves(town, s)) {
                        better = true;
                    }
                }
            }
        }

        private boolean improves(Town town, int s) {
            int a = town.lower[s];
            int b = town.higher[s];
            int weight = weightOf(town, s);
            if (weights[a] + weight < weights[b]) {
                weights[b] = weights[a] + weight;
                return true;
            }
            if (weights[b] + weight < weights[a]) {
                weights[a] = weights[b] + weight;
                return true;
            }
            return false;
        }

        private static int weightOf(Town town, int s) {
            return town.length[s] * LENGTH_WEIGHT + 1;
        }

        void find(Town town) {
            for (int c = 0; c < MAX_CROSSINGS; c++) {
                places[c] = NONE;
            }
            wayCrossings = 0;
            weigh(town, town.goal);
            int at = weights[town.start] == UNREACHED ? NONE : town.start;
            while (at != NONE && wayCrossings < MAX_CROSSINGS) {
                way[wayCrossings] = at;
                places[at] = wayCrossings;
                wayCrossings++;
                at = nextBehind(town, at);
            }
        }

        /** The weights lead to the goal; the smaller crossing decides between ways as good. */
        private int nextBehind(Town town, int at) {
            int next = NONE;
            for (int s = 0; s < town.streets; s++) {
                int reached = town.reachedThrough(s, at);
                if (reached != NONE && weights[reached] + weightOf(town, s) == weights[at]
                        && (next == NONE || reached < next)) {
                    next = reached;
                }
            }
            return next;
        }

        int lengthFrom(int c) {
            if (c < 0 || c >= MAX_CROSSINGS || weights[c] == UNREACHED) {
                return NONE;
            }
            return weights[c] / LENGTH_WEIGHT;
        }

        int farthest(Town town) {
            int farthest = 0;
            for (int c = 0; c < town.crossings; c++) {
                int length = lengthFrom(c);
                if (length == NONE) {
                    return NONE;
                }
                farthest = Math.max(farthest, length);
            }
            return farthest;
        }

        int streets() {
            return wayCrossings == 0 ? NONE : wayCrossings - 1;
        }

        int crossingAt(int i) {
            return i >= 0 && i < wayCrossings ? way[i] : NONE;
        }

        int placeOf(int c) {
            return c >= 0 && c < MAX_CROSSINGS ? places[c] : NONE;
        }

        boolean uses(Town town, int s) {
            // No two streets join the same two crossings, so neighbours on the way tell the street.
            int a = placeOf(town.lower[s]);
            int b = placeOf(town.higher[s]);
            return a != NONE && b != NONE && (a - b == 1 || b - a == 1);
        }
    }

    /** The characters that were appended. */
    private static final class Text {
        static final int END = -1;

        private final char[] characters = new char[MAX_TEXT];
        int length = 0;

        void put(char c) {
            if (length < MAX_TEXT) {
                characters[length] = c;
                length++;
            }
        }

        int codeAt(int i) {
            return i >= 0 && i < length ? characters[i] : END;
        }

        int digitAt(int i) {
            int code = codeAt(i);
            return code >= '0' && code <= '9' ? code - '0' : NONE;
        }
    }

    /** Reads a text as a town; stops at the error position. */
    private static final class TownReader {
        private int at = 0;

        int errorIn(Text text, Town town) {
            at = 0;
            if (!readHead(text, town)) {
                return at;
            }
            for (int s = 0; s <= MAX_STREETS && at < text.length; s++) {
                if (!readStreet(text, town)) {
                    return at;
                }
            }
            return NONE;
        }

        private boolean readHead(Text text, Town town) {
            if (text.codeAt(at) != 'T') {
                return false;
            }
            at++;
            int crossings = text.digitAt(at);
            if (crossings < MIN_CROSSINGS || crossings > MAX_CROSSINGS) {
                return false;
            }
            at++;
            int start = text.digitAt(at);
            if (start < 0 || start >= crossings) {
                return false;
            }
            at++;
            int goal = text.digitAt(at);
            if (goal < 0 || goal >= crossings || goal == start) {
                return false;
            }
            at++;
            town.beginWith(crossings, start, goal);
            return true;
        }

        private boolean readStreet(Text text, Town town) {
            if (text.codeAt(at) != 's' || town.takesNoStreet()) {
                return false;
            }
            at++;
            int a = text.digitAt(at);
            if (!town.hasCrossing(a) || town.isJoinedWithAllOthers(a)) {
                return false;
            }
            at++;
            int b = text.digitAt(at);
            if (!town.hasCrossing(b) || a == b || town.streetJoining(a, b) != NONE) {
                return false;
            }
            at++;
            int tens = text.digitAt(at);
            if (tens == NONE) {
                return false;
            }
            at++;
            int ones = text.digitAt(at);
            if (ones == NONE || tens + ones == 0) {
                return false;
            }
            at++;
            town.join(a, b, 10 * tens + ones);
            if (text.codeAt(at) == 'x') {
                at++;
                town.shut(town.streets - 1, true);
            }
            return true;
        }
    }

    /** Reads a text as a plan and keeps its commands; stops at the error position. */
    private static final class PlanReader {
        int commands = 0;
        // Of each command the first letter of its word, since the five words differ in it.
        final int[] words = new int[MAX_TEXT];
        final int[] first = new int[MAX_TEXT];
        final int[] second = new int[MAX_TEXT];
        private int at = 0;

        int errorIn(Text text) {
            at = 0;
            commands = 0;
            if (text.length == 0) {
                return NONE;
            }
            for (int k = 0; k < MAX_TEXT; k++) {
                if (!readCommand(text, k)) {
                    return at;
                }
                if (at >= text.length) {
                    return NONE;
                }
                if (!readBlank(text)) {
                    return at;
                }
            }
            return at;
        }

        private boolean readCommand(Text text, int k) {
            int word = text.codeAt(at);
            if (!readLetters(text, wordBeginningWith(word))) {
                return false;
            }
            words[k] = word;
            int numbers = numbersBehind(word);
            if (numbers > 0) {
                if (!readBlank(text) || text.digitAt(at) == NONE) {
                    return false;
                }
                first[k] = readNumber(text);
            }
            if (numbers > 1) {
                if (!readBlank(text) || text.digitAt(at) == NONE) {
                    return false;
                }
                second[k] = readNumber(text);
            }
            commands = k + 1;
            return true;
        }

        private boolean readLetters(Text text, String letters) {
            for (int i = 0; i < letters.length(); i++) {
                if (text.codeAt(at) != letters.charAt(i)) {
                    return false;
                }
                at++;
            }
            return !letters.isEmpty();
        }

        private boolean readBlank(Text text) {
            if (text.codeAt(at) != ' ') {
                return false;
            }
            at++;
            return true;
        }

        private int readNumber(Text text) {
            int number = 0;
            for (int i = 0; i < 2 && text.digitAt(at) != NONE; i++) {
                number = 10 * number + text.digitAt(at);
                at++;
            }
            return number;
        }

        private static String wordBeginningWith(int letter) {
            switch (letter) {
                case 'o':
                    return "open";
                case 'c':
                    return "close";
                case 'l':
                    return "long";
                case 'e':
                    return "ends";
                case 't':
                    return "turn";
                default:
                    return "";
            }
        }

        private static int numbersBehind(int word) {
            switch (word) {
                case 'o':
                case 'c':
                    return 1;
                case 'l':
                case 'e':
                    return 2;
                default:
                    return 0;
            }
        }
    }

    /** The states that undo can bring back, the oldest of which gives its place to a new one. */
    private static final class History {
        private final Town[] towns = new Town[MAX_REMEMBERED];
        private int oldest = 0;
        int count = 0;

        History() {
            for (int i = 0; i < MAX_REMEMBERED; i++) {
                towns[i] = new Town();
            }
        }

        void keep(Town town) {
            towns[(oldest + count) % MAX_REMEMBERED].copyFrom(town);
            if (count < MAX_REMEMBERED) {
                count++;
            } else {
                oldest = (oldest + 1) % MAX_REMEMBERED;
            }
        }

        void takeBack(Town town) {
            if (count > 0) {
                count--;
                town.copyFrom(towns[(oldest + count) % MAX_REMEMBERED]);
            }
        }

        void forgetAll() {
            count = 0;
        }
    }

    /** The states that were saved since the last load. */
    private static final class Slots {
        private final Town[] towns = new Town[SLOTS];
        final boolean[] filled = new boolean[SLOTS];

        Slots() {
            for (int i = 0; i < SLOTS; i++) {
                towns[i] = new Town();
            }
        }

        void keep(int slot, Town town) {
            towns[slot].copyFrom(town);
            filled[slot] = true;
        }

        void giveBack(int slot, Town town) {
            town.copyFrom(towns[slot]);
        }

        void emptyAll() {
            for (int i = 0; i < SLOTS; i++) {
                filled[i] = false;
            }
        }
    }
}
