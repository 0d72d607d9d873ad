import java.util.ArrayList;
import java.util.List;
import java.util.function.Supplier;

/**
 * Many calls of every kind, each on an object of its own: whatever an object holds, some of them
 * tell of it. Two objects are taken to be alike if all of these answer alike.
 */
final class Calls {
    private final List<String> names = new ArrayList<>();
    private final List<Use> calls = new ArrayList<>();
    private final Supplier<ClosedStreets> maker;
    private final List<String> answers = new ArrayList<>();

    Calls(Supplier<ClosedStreets> maker) {
        this.maker = maker;
        text();
        town();
        actions();
        whatWouldBe();
        for (Use call : calls) {
            answers.add(answer(maker.get(), call));
        }
    }

    private static String answer(ClosedStreets x, Use call) {
        return Due.told(() -> call.on(x)) + " with " + Towns.state(x);
    }

    /** A call changes nothing if all calls behind it answer as if it had not been made. */
    void sameBehind(String ahead, Use made) {
        for (int i = 0; i < calls.size(); i++) {
            ClosedStreets x = maker.get();
            Due.told(() -> made.on(x));
            Due.row(names.get(i) + " behind " + ahead, answer(x, calls.get(i)), answers.get(i));
        }
        ClosedStreets x = maker.get();
        Due.told(() -> made.on(x));
        Due.row("all behind " + ahead, Towns.everything(x), Towns.everything(maker.get()));
    }

    private void add(String name, Use call) {
        names.add(name);
        calls.add(call);
    }

    private void text() {
        add("errorPosition(false)", x -> x.errorPosition(false));
        add("errorPosition(true)", x -> x.errorPosition(true));
        add("append(120)", x -> x.append(120));
        add("clearText()", ClosedStreets::clearText);
        add("load()", ClosedStreets::load);
        add("runPlan()", ClosedStreets::runPlan);
    }

    private void town() {
        for (int i = 0; i < 9; i++) {
            int n = i;
            add("about(" + n + ")", x -> x.about(n));
            add("wayAt(" + n + ")", x -> x.wayAt(n));
            add("between(0, " + n + ")", x -> x.between(0, n));
            add("between(" + n + ", 2)", x -> x.between(n, 2));
            for (int what = 0; what < 5; what++) {
                int w = what;
                add("street(" + n + ", " + w + ")", x -> x.street(n, w));
                add("crossing(" + n + ", " + w + ")", x -> x.crossing(n, w));
            }
        }
    }

    private void actions() {
        add("addCrossing()", ClosedStreets::addCrossing);
        add("undo()", ClosedStreets::undo);
        add("undo() twice", x -> x.undo() + x.undo());
        for (int i = 0; i < 9; i++) {
            int n = i;
            add("addStreet(" + n + ", 3, 1)", x -> x.addStreet(n, 3, 1));
            add("removeStreet(" + n + ")", x -> x.removeStreet(n));
            add("setLength(" + n + ", 3)", x -> x.setLength(n, 3));
            add("close(" + n + ", true)", x -> x.close(n, true));
            add("close(" + n + ", false)", x -> x.close(n, false));
            add("setEnds(0, " + n + ")", x -> x.setEnds(0, n));
            add("setEnds(" + n + ", 1)", x -> x.setEnds(n, 1));
        }
        for (int i = 0; i < 2; i++) {
            int slot = i;
            add("save(" + slot + ")", x -> x.save(slot));
            add("restore(" + slot + ")", x -> x.restore(slot));
        }
    }

    private void whatWouldBe() {
        for (int i = 0; i < 9; i++) {
            int n = i;
            add("without(" + n + ")", x -> x.without(n));
            add("withoutAt(" + n + ", 1)", x -> x.withoutAt(n, 1));
            add("upTo(" + n + ")", x -> x.upTo(n));
            add("saves(0, " + n + ", 1)", x -> x.saves(0, n, 1));
            add("saves(" + n + ", 2, 9)", x -> x.saves(n, 2, 9));
            add("ways(" + n + ")", x -> x.ways(n));
        }
        add("ways(999)", x -> x.ways(999));
        add("dearest()", ClosedStreets::dearest);
        add("middle()", ClosedStreets::middle);
        long[] groups = {10301, 20000, 30001, 40010, 40300, 50100, 60009, 60999, 70000, 80001,
            80008, 91005, 98099};
        for (long group : groups) {
            add("runScript(1, " + group + ")", x -> x.runScript(1, group));
            add("runScript(2, " + group + "60012)", x -> x.runScript(2, group * 100000 + 60012));
        }
        add("simulate(5, 60)", x -> x.simulate(5, 60));
        add("simulate(-5, 1)", x -> x.simulate(-5, 1));
    }
}
