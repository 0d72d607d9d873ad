import java.util.ArrayList;
import java.util.List;
import java.util.Random;

/** Random runs of calls, each answer compared with that of the slow model. */
public final class ModelTest {
    private static final int RUNS = 400;

    private final Random random;
    private final ClosedStreets x = new ClosedStreets();
    private TownModel town = new TownModel();
    private final List<TownModel> remembered = new ArrayList<>();
    private final TownModel[] slots = new TownModel[2];
    private String text = "";
    private final int run;

    private ModelTest(int run) {
        this.run = run;
        random = new Random(run);
    }

    public static void main(String[] args) {
        for (int run = 0; run < RUNS; run++) {
            new ModelTest(run).calls();
        }
        Due.end();
    }

    private void calls() {
        if (random.nextInt(5) != 0) {
            load();
        }
        for (int i = 0; i < 40; i++) {
            change();
            question();
            if (i % 8 == 0) {
                questions();
            }
        }
    }

    private void due(String call, int want, Due.Call made) {
        Due.row("run " + run + ": " + call + " on " + town.asText(), Due.told(made),
                String.valueOf(want));
    }

    /** A number that is mostly in the range, and at times just outside it. */
    private int near(int low, int high) {
        return random.nextInt(6) == 0 ? low - 1 + random.nextInt(2) * (high - low + 2)
                : low + random.nextInt(Math.max(1, high - low + 1));
    }

    private void remember() {
        remembered.add(town.copy());
        if (remembered.size() > 14) {
            remembered.remove(0);
        }
    }

    private void load() {
        town = TownModel.random(random);
        text = town.asText();
        Towns.write(x, text);
        due("load()", town.streets.size(), x::load);
        remembered.clear();
        slots[0] = null;
        slots[1] = null;
    }

    private void change() {
        int a = near(0, town.crossings - 1);
        int b = near(0, town.crossings - 1);
        int s = near(0, town.streets.size() - 1);
        int length = near(1, random.nextBoolean() ? 99 : 5);
        boolean is = random.nextInt(3) == 0;
        TownModel next = town.copy();
        switch (random.nextInt(12)) {
            case 0:
                next.crossings++;
                done("addCrossing()", town.crossings == 9 ? TownModel.STATE : 0, next,
                        town.crossings, x::addCrossing);
                break;
            case 1:
            case 2:
            case 3:
                done("addStreet(" + a + ", " + b + ", " + length + ")",
                        next.addStreet(a, b, length), next, town.streets.size(),
                        () -> x.addStreet(a, b, length));
                break;
            case 4:
                done("removeStreet(" + s + ")", next.removeStreet(s), next, next.length(),
                        () -> x.removeStreet(s));
                break;
            case 5:
                done("setLength(" + s + ", " + length + ")", next.setLength(s, length), next,
                        town.hasStreet(s) ? town.street(s, 2) : 0, () -> x.setLength(s, length));
                break;
            case 6:
                done("close(" + s + ", " + is + ")", next.close(s, is), next, next.length(),
                        () -> x.close(s, is));
                break;
            case 7:
                done("setEnds(" + a + ", " + b + ")", next.setEnds(a, b), next, next.length(),
                        () -> x.setEnds(a, b));
                break;
            case 8:
                plan();
                break;
            case 9:
                undo();
                break;
            default:
                slot(random.nextInt(2), random.nextBoolean());
        }
    }

    private void done(String call, int refusal, TownModel next, int want, Due.Call made) {
        if (refusal == TownModel.MISSING) {
            Due.missing(call, made);
        } else if (refusal == TownModel.RANGE) {
            Due.outOfRange(call, made);
        } else if (refusal == TownModel.STATE) {
            Due.notNow(call, made);
        } else {
            due(call, want, made);
            remember();
            town = next;
        }
    }

    private void plan() {
        StringBuilder plan = new StringBuilder();
        int commands = random.nextInt(8);
        for (int i = 0; i < commands; i++) {
            int s = random.nextInt(Math.max(1, town.streets.size()));
            String street = random.nextBoolean() && s < 10 ? "0" + s : "" + s;
            plan.append(i == 0 ? "" : " ");
            switch (random.nextInt(9)) {
                case 0:
                case 1:
                    plan.append("open ").append(street);
                    break;
                case 2:
                case 3:
                    plan.append("close ").append(street);
                    break;
                case 4:
                case 5:
                    plan.append("long ").append(street).append(' ').append(random.nextInt(100));
                    break;
                case 6:
                    plan.append("ends ").append(random.nextInt(town.crossings)).append(' ')
                            .append(random.nextInt(town.crossings + 1));
                    break;
                default:
                    plan.append("turn");
            }
        }
        text = plan.toString();
        Towns.write(x, text);
        due("errorPosition(true)", TownModel.NONE, () -> x.errorPosition(true));
        remember();
        due("runPlan() of '" + text + "'", town.runPlan(text), x::runPlan);
        due("clearText()", text.length(), x::clearText);
    }

    private void undo() {
        if (remembered.isEmpty()) {
            Due.notNow("undo()", x::undo);
            return;
        }
        due("undo()", remembered.size() - 1, x::undo);
        town = remembered.remove(remembered.size() - 1);
    }

    private void slot(int slot, boolean keep) {
        if (keep) {
            due("save(" + slot + ")", town.streets.size(), () -> x.save(slot));
            slots[slot] = town.copy();
        } else if (slots[slot] == null) {
            Due.notNow("restore(" + slot + ")", () -> x.restore(slot));
        } else {
            due("restore(" + slot + ")", slots[slot].streets.size(), () -> x.restore(slot));
            town = slots[slot].copy();
            remembered.clear();
        }
    }

    /** One question straight behind a change, with arguments that may be out of range. */
    private void question() {
        int a = near(0, town.crossings - 1);
        int b = near(0, town.crossings - 1);
        int s = near(0, town.streets.size() - 1);
        int length = near(1, 99);
        int place = near(0, town.crossings - 1);
        int what = near(0, 4);
        boolean noStreet = !town.hasStreet(s);
        boolean noPair = !town.hasCrossing(a) || !town.hasCrossing(b);
        switch (random.nextInt(11)) {
            case 0:
                asked("about(" + what + ")", false, what < 0, () -> town.about(what),
                        () -> x.about(what));
                break;
            case 1:
                asked("street(" + s + ", " + what + ")", noStreet, what < 0 || what > 4,
                        () -> town.street(s, what), () -> x.street(s, what));
                break;
            case 2:
                asked("crossing(" + a + ", " + what + ")", !town.hasCrossing(a),
                        what < 0 || what > 3, () -> town.crossing(a, what),
                        () -> x.crossing(a, what));
                break;
            case 3:
                asked("between(" + a + ", " + b + ")", noPair, false, () -> town.between(a, b),
                        () -> x.between(a, b));
                break;
            case 4:
                asked("wayAt(" + place + ")", false, place < 0, () -> town.at(place),
                        () -> x.wayAt(place));
                break;
            case 5:
                asked("without(" + s + ")", noStreet, false, () -> town.closedToo(s).length(),
                        () -> x.without(s));
                break;
            case 6:
                asked("withoutAt(" + s + ", " + place + ")", noStreet, place < 0,
                        () -> town.closedToo(s).at(place), () -> x.withoutAt(s, place));
                break;
            case 7:
                asked("upTo(" + s + ")", noStreet, false, () -> town.upTo(s), () -> x.upTo(s));
                break;
            case 8:
                asked("saves(" + a + ", " + b + ", " + length + ")", noPair,
                        a == b || length < 1 || length > 99, () -> town.saves(a, b, length),
                        () -> x.saves(a, b, length));
                break;
            default:
                bareQuestion(random.nextInt(5));
        }
    }

    private void bareQuestion(int which) {
        long seed = random.nextLong();
        switch (which) {
            case 0:
                due("dearest()", town.dearest(), x::dearest);
                break;
            case 1:
                due("middle()", town.middle(), x::middle);
                break;
            case 2:
                due("ways(999)", town.ways(999), () -> x.ways(999));
                break;
            case 3:
                due("simulate(" + seed + ", 7)", town.simulate(seed, 7),
                        () -> x.simulate(seed, 7));
                break;
            default:
                script();
        }
    }

    private void asked(String call, boolean missing, boolean outOfRange, Due.Call model,
            Due.Call made) {
        if (missing) {
            Due.missing(call, made);
        } else if (outOfRange) {
            Due.outOfRange(call, made);
        } else {
            due(call, model.answer(), made);
        }
    }

    private void questions() {
        for (int what = 0; what < 8; what++) {
            int w = what;
            due("about(" + w + ")", town.about(w), () -> x.about(w));
        }
        for (int i = 0; i < 11; i++) {
            int place = i;
            due("wayAt(" + i + ")", town.at(i), () -> x.wayAt(place));
        }
        due("dearest()", town.dearest(), x::dearest);
        due("middle()", town.middle(), x::middle);
        for (int s = 0; s < town.streets.size(); s++) {
            streetQuestions(s);
        }
        for (int c = 0; c < town.crossings; c++) {
            crossingQuestions(c);
        }
        for (int length : new int[] {0, random.nextInt(10), random.nextInt(200), 999}) {
            due("ways(" + length + ")", town.ways(length), () -> x.ways(length));
        }
        for (int i = 0; i < 40; i++) {
            script();
        }
        long seed = random.nextLong();
        int m = 1 + random.nextInt(60);
        due("simulate(" + seed + ", " + m + ")", town.simulate(seed, m),
                () -> x.simulate(seed, m));
    }

    private void streetQuestions(int s) {
        for (int what = 0; what < 5; what++) {
            int w = what;
            due("street(" + s + ", " + w + ")", town.street(s, w), () -> x.street(s, w));
        }
        TownModel without = town.closedToo(s);
        due("without(" + s + ")", without.length(), () -> x.without(s));
        int place = random.nextInt(5);
        due("withoutAt(" + s + ", " + place + ")", without.at(place),
                () -> x.withoutAt(s, place));
        if (random.nextInt(4) == 0) {
            due("upTo(" + s + ")", town.upTo(s), () -> x.upTo(s));
        }
    }

    private void crossingQuestions(int c) {
        for (int what = 0; what < 4; what++) {
            int w = what;
            due("crossing(" + c + ", " + w + ")", town.crossing(c, w), () -> x.crossing(c, w));
        }
        int length = 1 + random.nextInt(random.nextBoolean() ? 5 : 99);
        for (int other = 0; other < town.crossings; other++) {
            int o = other;
            due("between(" + c + ", " + o + ")", town.between(c, o), () -> x.between(c, o));
            if (o != c) {
                due("saves(" + c + ", " + o + ", " + length + ")", town.saves(c, o, length),
                        () -> x.saves(c, o, length));
            }
        }
    }

    private void script() {
        int n = 1 + random.nextInt(3);
        long script = 0;
        for (int i = 0; i < n; i++) {
            script = script * 100000 + group();
        }
        long whole = script;
        due("runScript(" + n + ", " + script + ")", town.runScript(n, script),
                () -> x.runScript(n, whole));
    }

    private int group() {
        int word = random.nextInt(12);
        int s = random.nextInt(town.streets.size() + 1);
        int a = random.nextInt(town.crossings + (random.nextInt(4) == 0 ? 1 : 0)) % 10;
        int b = random.nextInt(town.crossings);
        int length = random.nextInt(random.nextBoolean() ? 100 : 12);
        switch (word) {
            case 1:
                return 10000 + a * 1000 + b * 100 + length;
            case 2:
                return 20000 + s * 100;
            case 3:
                return 30000 + s * 100 + length;
            case 4:
                return 40000 + s * 100 + 10 * random.nextInt(3);
            case 5:
                return 50000 + a * 1000 + b * 100;
            case 6:
                return 60000 + random.nextInt(random.nextBoolean() ? 1000 : 20);
            case 7:
                return 70000 + s * 100;
            case 8:
                return 80000 + random.nextInt(8);
            case 9:
                return 90000 + a * 1000 + length;
            default:
                return random.nextInt(100000);
        }
    }
}
