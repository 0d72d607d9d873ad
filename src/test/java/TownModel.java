import java.util.ArrayList;
import java.util.List;
import java.util.Random;

/**
 * A second, slow telling of the document: it lists every way and sorts them by the rule. The
 * random runs compare the program with it.
 */
final class TownModel {
    static final int NONE = -999;
    static final int MISSING = 1;
    static final int RANGE = 2;
    static final int STATE = 3;

    static final class Street {
        final int a;
        final int b;
        int length;
        boolean closed;

        Street(int a, int b, int length, boolean closed) {
            this.a = a;
            this.b = b;
            this.length = length;
            this.closed = closed;
        }
    }

    int crossings = 2;
    int start = 0;
    int goal = 1;
    final List<Street> streets = new ArrayList<>();

    TownModel copy() {
        TownModel copy = new TownModel();
        copy.crossings = crossings;
        copy.start = start;
        copy.goal = goal;
        for (Street s : streets) {
            copy.streets.add(new Street(s.a, s.b, s.length, s.closed));
        }
        return copy;
    }

    static TownModel random(Random random) {
        TownModel town = new TownModel();
        town.crossings = 2 + random.nextInt(8);
        town.start = random.nextInt(town.crossings);
        town.goal = (town.start + 1 + random.nextInt(town.crossings - 1)) % town.crossings;
        int most = random.nextInt(40);
        int longest = random.nextInt(3) == 0 ? 99 : 1 + random.nextInt(6);
        for (int i = 0; i < most && town.streets.size() < 20; i++) {
            int a = random.nextInt(town.crossings);
            int b = random.nextInt(town.crossings);
            if (a != b && town.between(a, b) == NONE) {
                town.streets.add(new Street(a, b, 1 + random.nextInt(longest),
                        random.nextInt(6) == 0));
            }
        }
        return town;
    }

    String asText() {
        StringBuilder text = new StringBuilder("T").append(crossings).append(start).append(goal);
        for (Street s : streets) {
            text.append('s').append(s.a).append(s.b).append(s.length / 10).append(s.length % 10)
                    .append(s.closed ? "x" : "");
        }
        return text.toString();
    }

    int between(int a, int b) {
        for (int i = 0; i < streets.size(); i++) {
            Street s = streets.get(i);
            if (s.a == a && s.b == b || s.a == b && s.b == a) {
                return i;
            }
        }
        return NONE;
    }

    boolean hasCrossing(int c) {
        return 0 <= c && c < crossings;
    }

    boolean hasStreet(int s) {
        return 0 <= s && s < streets.size();
    }

    // ---- ways

    private void collect(List<Integer> way, int to, List<List<Integer>> found) {
        int at = way.get(way.size() - 1);
        if (at == to) {
            found.add(new ArrayList<>(way));
            return;
        }
        for (int c = 0; c < crossings; c++) {
            int s = between(at, c);
            if (!way.contains(c) && s != NONE && !streets.get(s).closed) {
                way.add(c);
                collect(way, to, found);
                way.remove(way.size() - 1);
            }
        }
    }

    List<List<Integer>> allWays(int from, int to) {
        List<List<Integer>> found = new ArrayList<>();
        List<Integer> way = new ArrayList<>();
        way.add(from);
        collect(way, to, found);
        return found;
    }

    int lengthOf(List<Integer> way) {
        int length = 0;
        for (int i = 1; i < way.size(); i++) {
            length += streets.get(between(way.get(i - 1), way.get(i))).length;
        }
        return length;
    }

    private int compare(List<Integer> one, List<Integer> two) {
        if (lengthOf(one) != lengthOf(two)) {
            return lengthOf(one) - lengthOf(two);
        }
        if (one.size() != two.size()) {
            return one.size() - two.size();
        }
        for (int i = 0; i < one.size(); i++) {
            if (!one.get(i).equals(two.get(i))) {
                return one.get(i) - two.get(i);
            }
        }
        return 0;
    }

    /** The best way between two crossings, empty without one. */
    List<Integer> best(int from, int to) {
        List<Integer> best = new ArrayList<>();
        for (List<Integer> way : allWays(from, to)) {
            if (best.isEmpty() || compare(way, best) < 0) {
                best = way;
            }
        }
        return best;
    }

    List<Integer> best() {
        return best(start, goal);
    }

    int length(int from, int to) {
        List<Integer> way = best(from, to);
        return way.isEmpty() ? NONE : lengthOf(way);
    }

    int length() {
        return length(start, goal);
    }

    boolean onBest(int s) {
        List<Integer> way = best();
        for (int i = 1; i < way.size(); i++) {
            if (between(way.get(i - 1), way.get(i)) == s) {
                return true;
            }
        }
        return false;
    }

    int at(int i) {
        return i < best().size() ? best().get(i) : NONE;
    }

    // ---- the town

    int about(int what) {
        int count = 0;
        switch (what) {
            case 0:
                return crossings;
            case 1:
                return streets.size();
            case 2:
                for (Street s : streets) {
                    count += s.closed ? 1 : 0;
                }
                return count;
            case 3:
                return start;
            case 4:
                return goal;
            case 5:
                return length();
            case 6:
                return best().isEmpty() ? NONE : best().size() - 1;
            default:
                for (int s = 0; s < streets.size(); s++) {
                    boolean needed = !streets.get(s).closed && length() != NONE
                            && closedToo(s).length() == NONE;
                    count += needed ? 1 : 0;
                }
                return count;
        }
    }

    int street(int s, int what) {
        Street street = streets.get(s);
        switch (what) {
            case 0:
                return Math.min(street.a, street.b);
            case 1:
                return Math.max(street.a, street.b);
            case 2:
                return street.length;
            case 3:
                return street.closed ? 1 : 0;
            default:
                return onBest(s) ? 1 : 0;
        }
    }

    int crossing(int c, int what) {
        int open = 0;
        for (Street s : streets) {
            open += !s.closed && (s.a == c || s.b == c) ? 1 : 0;
        }
        int place = best().indexOf(c);
        return what == 0 ? open
                : what == 1 ? length(start, c)
                : what == 2 ? length(c, goal)
                : place < 0 ? NONE : place;
    }

    // ---- changes: 0 if done, otherwise what refuses them

    int addStreet(int a, int b, int length) {
        if (!hasCrossing(a) || !hasCrossing(b)) {
            return MISSING;
        }
        if (a == b || length < 1 || length > 99) {
            return RANGE;
        }
        if (between(a, b) != NONE || streets.size() == 20) {
            return STATE;
        }
        streets.add(new Street(a, b, length, false));
        return 0;
    }

    int removeStreet(int s) {
        if (!hasStreet(s)) {
            return MISSING;
        }
        streets.remove(s);
        return 0;
    }

    int setLength(int s, int length) {
        if (!hasStreet(s)) {
            return MISSING;
        }
        if (length < 1 || length > 99) {
            return RANGE;
        }
        streets.get(s).length = length;
        return 0;
    }

    int close(int s, boolean is) {
        if (!hasStreet(s)) {
            return MISSING;
        }
        streets.get(s).closed = is;
        return 0;
    }

    int setEnds(int newStart, int newGoal) {
        if (!hasCrossing(newStart) || !hasCrossing(newGoal)) {
            return MISSING;
        }
        if (newStart == newGoal) {
            return RANGE;
        }
        start = newStart;
        goal = newGoal;
        return 0;
    }

    int runPlan(String plan) {
        if (plan.isEmpty()) {
            return 0;
        }
        String[] words = plan.split(" ");
        int done = 0;
        for (int i = 0; i < words.length; done++) {
            String word = words[i];
            int first = word.equals("turn") ? goal : Integer.parseInt(words[i + 1]);
            boolean two = word.equals("long") || word.equals("ends");
            int second = word.equals("turn") ? start : two ? Integer.parseInt(words[i + 2]) : 0;
            int refusal = word.equals("open") ? close(first, false)
                    : word.equals("close") ? close(first, true)
                    : word.equals("long") ? setLength(first, second)
                    : setEnds(first, second);
            if (refusal != 0) {
                return done;
            }
            i += word.equals("turn") ? 1 : two ? 3 : 2;
        }
        return done;
    }

    // ---- what would be

    TownModel closedToo(int s) {
        TownModel copy = copy();
        copy.streets.get(s).closed = true;
        return copy;
    }

    int dearest() {
        int found = NONE;
        long most = -1;
        for (int s = 0; s < streets.size(); s++) {
            if (onBest(s)) {
                int without = closedToo(s).length();
                long cost = without == NONE ? Long.MAX_VALUE : without;
                if (cost > most) {
                    found = s;
                    most = cost;
                }
            }
        }
        return found;
    }

    int upTo(int s) {
        TownModel copy = copy();
        for (int length = 99; length >= 1; length--) {
            copy.streets.get(s).length = length;
            if (copy.onBest(s)) {
                return length;
            }
        }
        return NONE;
    }

    int saves(int a, int b, int length) {
        TownModel copy = copy();
        int s = between(a, b);
        if (s != NONE) {
            copy.streets.remove(s);
        }
        copy.streets.add(new Street(a, b, length, false));
        return length() == NONE || copy.length() == NONE ? NONE : length() - copy.length();
    }

    int ways(int most) {
        int count = 0;
        for (List<Integer> way : allWays(start, goal)) {
            count += lengthOf(way) <= most ? 1 : 0;
        }
        return Math.min(count, 500);
    }

    int middle() {
        int found = NONE;
        int shortest = Integer.MAX_VALUE;
        for (int c = 0; c < crossings; c++) {
            int farthest = 0;
            for (int other = 0; other < crossings; other++) {
                if (length(c, other) == NONE) {
                    return NONE;
                }
                farthest = Math.max(farthest, length(c, other));
            }
            if (farthest < shortest) {
                found = c;
                shortest = farthest;
            }
        }
        return found;
    }

    // ---- scripts, simulations

    int runScript(int n, long script) {
        StringBuilder digits = new StringBuilder(String.valueOf(script));
        while (digits.length() < 5 * n) {
            digits.insert(0, '0');
        }
        TownModel copy = copy();
        for (int i = 0; i < n; i++) {
            if (!copy.command(digits.substring(5 * i, 5 * i + 5))) {
                return i;
            }
        }
        return NONE;
    }

    private boolean command(String group) {
        int a = group.charAt(1) - '0';
        int b = group.charAt(2) - '0';
        int ss = Integer.parseInt(group.substring(1, 3));
        int xy = Integer.parseInt(group.substring(3));
        int xyz = Integer.parseInt(group.substring(2));
        if (group.charAt(0) == '1') {
            return addStreet(a, b, xy) == 0;
        }
        if (group.matches("2..00")) {
            return removeStreet(ss) == 0;
        }
        if (group.charAt(0) == '3') {
            return setLength(ss, xy) == 0;
        }
        if (group.matches("4..[01]0")) {
            return close(ss, xy == 10) == 0;
        }
        if (group.matches("5..00")) {
            return setEnds(a, b) == 0;
        }
        if (group.matches("60...")) {
            return length() != NONE && length() <= xyz;
        }
        if (group.matches("7..00")) {
            return hasStreet(ss) && onBest(ss);
        }
        if (group.matches("8000.")) {
            return !best().isEmpty() && best().size() - 1 <= xy;
        }
        if (group.matches("9.0..")) {
            return hasCrossing(a) && length(start, a) != NONE && length(start, a) <= xy;
        }
        return false;
    }

    int simulate(long seed, int m) {
        long x = seed;
        int without = 0;
        int sum = 0;
        for (int day = 0; day < m; day++) {
            TownModel copy = copy();
            for (int s = 0; s < streets.size(); s++) {
                if (!streets.get(s).closed) {
                    x = x * 6364136223846793005L + 1442695040888963407L;
                    if ((int) (x >>> 33) % 4 == 0) {
                        copy.close(s, true);
                    }
                }
            }
            int length = copy.length();
            without += length == NONE ? 1 : 0;
            sum += length == NONE ? 0 : length;
        }
        return 100000 * without + sum;
    }
}
