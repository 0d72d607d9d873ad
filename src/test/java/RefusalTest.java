import java.util.ArrayList;
import java.util.List;

/** EXCEPTIONS: which calls are refused, by which exception, and that they change nothing. */
public final class RefusalTest {
    private static final String MISSING = "throws.IndexOutOfBoundsException";
    private static final String RANGE = "throws.IllegalArgumentException";
    private static final String STATE = "throws.IllegalStateException";

    private record Refused(String call, String exception, Use made) {
    }

    private static final Calls SAMPLE = new Calls(Towns::sample);
    private static final Calls BUSY = new Calls(RefusalTest::busy);
    private static final Calls FULL = new Calls(RefusalTest::full);
    private static final List<Refused> ON_BUSY = new ArrayList<>();
    private static final List<Refused> ON_FULL = new ArrayList<>();

    public static void main(String[] args) {
        Doc doc = Doc.part("EXCEPTIONS", "The constants:");
        missing(doc);
        outOfRange(doc);
        notNow(doc);
        order(doc);
        doc.says("A call that throws an exception changes nothing.");
        for (Refused refused : ON_BUSY) {
            BUSY.sameBehind(refused.call, refused.made);
        }
        for (Refused refused : ON_FULL) {
            FULL.sameBehind(refused.call, refused.made);
        }
        doc.isTested();
        Doc asked = Doc.part("Ahead of the calls `without`", "Ahead of the calls");
        asked.says("these and all following methods up to the save slots change nothing.");
        whatWouldBe();
        Due.by("");
        asked("errorPosition(false)", x -> x.errorPosition(false));
        asked("errorPosition(true)", x -> x.errorPosition(true));
        asked("about(5)", x -> x.about(5));
        asked("about(7)", x -> x.about(7));
        asked("street(1, 4)", x -> x.street(1, 4));
        asked("crossing(1, 1)", x -> x.crossing(1, 1));
        asked("crossing(1, 2)", x -> x.crossing(1, 2));
        asked("wayAt(1)", x -> x.wayAt(1));
        Due.end();
    }

    /**
     * 5 crossings, 4 streets, four remembered states, slot 0 filled, and a text that is no plan
     * and begins as a town does.
     */
    private static ClosedStreets busy() {
        ClosedStreets x = Towns.sample();
        x.setLength(0, 7);
        x.save(0);
        x.addCrossing();
        x.close(3, false);
        x.setEnds(1, 3);
        Towns.write(x, "T987s7801s7");
        return x;
    }

    /** 9 crossings, 20 streets, 140 characters of no use; nothing remembered or saved. */
    private static ClosedStreets full() {
        ClosedStreets x = Towns.full();
        Towns.write(x, "T210s0101x" + "T".repeat(130));
        return x;
    }

    private static void onBusy(String call, String exception, Use made) {
        ON_BUSY.add(new Refused(call, exception, made));
        Due.row(call, Due.told(() -> made.on(busy())), exception);
    }

    private static void onFull(String call, String exception, Use made) {
        ON_FULL.add(new Refused(call, exception, made));
        Due.row(call, Due.told(() -> made.on(full())), exception);
    }

    private static void missing(Doc doc) {
        doc.says("IndexOutOfBoundsException means that a crossing or a street does not exist, or"
                + " that a save slot is not 0 or 1.");
        for (int s : new int[] {-1, 4, 5, 20, Due.LEAST, Due.GREATEST}) {
            String of = " of street " + s;
            onBusy("street(s, 0)" + of, MISSING, x -> x.street(s, 0));
            onBusy("removeStreet(s)" + of, MISSING, x -> x.removeStreet(s));
            onBusy("setLength(s, 1)" + of, MISSING, x -> x.setLength(s, 1));
            onBusy("close(s, true)" + of, MISSING, x -> x.close(s, true));
            onBusy("close(s, false)" + of, MISSING, x -> x.close(s, false));
            onBusy("without(s)" + of, MISSING, x -> x.without(s));
            onBusy("withoutAt(s, 0)" + of, MISSING, x -> x.withoutAt(s, 0));
            onBusy("upTo(s)" + of, MISSING, x -> x.upTo(s));
        }
        for (int c : new int[] {-1, 5, 6, 9, Due.LEAST, Due.GREATEST}) {
            String of = " of crossing " + c;
            onBusy("crossing(c, 0)" + of, MISSING, x -> x.crossing(c, 0));
            onBusy("between(c, 0)" + of, MISSING, x -> x.between(c, 0));
            onBusy("between(0, c)" + of, MISSING, x -> x.between(0, c));
            onBusy("addStreet(c, 0, 1)" + of, MISSING, x -> x.addStreet(c, 0, 1));
            onBusy("addStreet(0, c, 1)" + of, MISSING, x -> x.addStreet(0, c, 1));
            onBusy("setEnds(c, 0)" + of, MISSING, x -> x.setEnds(c, 0));
            onBusy("setEnds(0, c)" + of, MISSING, x -> x.setEnds(0, c));
            onBusy("saves(c, 0, 1)" + of, MISSING, x -> x.saves(c, 0, 1));
            onBusy("saves(0, c, 1)" + of, MISSING, x -> x.saves(0, c, 1));
        }
        for (int slot : new int[] {-1, 2, Due.LEAST, Due.GREATEST}) {
            onBusy("save(" + slot + ")", MISSING, x -> x.save(slot));
            onBusy("restore(" + slot + ")", MISSING, x -> x.restore(slot));
        }
    }

    private static void outOfRange(Doc doc) {
        doc.says("IllegalArgumentException means that another argument is out of its range.");
        for (int n : new int[] {-1, 1000, Due.LEAST, Due.GREATEST}) {
            onBusy("append(" + n + ")", RANGE, x -> x.append(n));
            onBusy("about(" + n + ")", RANGE, x -> x.about(n));
            onBusy("street(0, " + n + ")", RANGE, x -> x.street(0, n));
            onBusy("crossing(0, " + n + ")", RANGE, x -> x.crossing(0, n));
            onBusy("addStreet(0, 3, " + n + ")", RANGE, x -> x.addStreet(0, 3, n));
            onBusy("setLength(0, " + n + ")", RANGE, x -> x.setLength(0, n));
            onBusy("saves(0, 3, " + n + ")", RANGE, x -> x.saves(0, 3, n));
            onBusy("ways(" + n + ")", RANGE, x -> x.ways(n));
            onBusy("runScript(" + n + ", 0)", RANGE, x -> x.runScript(n, 0));
            onBusy("simulate(0, " + n + ")", RANGE, x -> x.simulate(0, n));
        }
        for (int i : new int[] {-1, -2, Due.LEAST}) {
            onBusy("wayAt(" + i + ")", RANGE, x -> x.wayAt(i));
            onBusy("withoutAt(0, " + i + ")", RANGE, x -> x.withoutAt(0, i));
            onBusy("runScript(1, " + i + ")", RANGE, x -> x.runScript(1, i));
        }
        onBusy("append(256)", RANGE, x -> x.append(256));
        onBusy("about(8)", RANGE, x -> x.about(8));
        onBusy("street(0, 5)", RANGE, x -> x.street(0, 5));
        onBusy("crossing(0, 4)", RANGE, x -> x.crossing(0, 4));
        for (int length : new int[] {0, 100}) {
            onBusy("addStreet(0, 3, " + length + ")", RANGE, x -> x.addStreet(0, 3, length));
            onBusy("setLength(0, " + length + ")", RANGE, x -> x.setLength(0, length));
            onBusy("saves(0, 3, " + length + ")", RANGE, x -> x.saves(0, 3, length));
        }
        for (int c = 0; c < 5; c++) {
            int same = c;
            onBusy("addStreet(c, c, 1) of " + c, RANGE, x -> x.addStreet(same, same, 1));
            onBusy("setEnds(c, c) of " + c, RANGE, x -> x.setEnds(same, same));
            onBusy("saves(c, c, 1) of " + c, RANGE, x -> x.saves(same, same, 1));
        }
        onBusy("runScript(0, 0)", RANGE, x -> x.runScript(0, 0));
        onBusy("runScript(4, 0)", RANGE, x -> x.runScript(4, 0));
        onBusy("runScript(1, 10^5)", RANGE, x -> x.runScript(1, 100000L));
        onBusy("runScript(2, 10^10)", RANGE, x -> x.runScript(2, 10000000000L));
        onBusy("runScript(3, 10^15)", RANGE, x -> x.runScript(3, 1000000000000000L));
        onBusy("simulate(0, 0)", RANGE, x -> x.simulate(0, 0));
        onBusy("simulate(0, 61)", RANGE, x -> x.simulate(0, 61));
    }

    private static void notNow(Doc doc) {
        doc.says("IllegalStateException means what the method says.");
        onBusy("load() of no town", STATE, ClosedStreets::load);
        onBusy("runPlan() of no plan", STATE, ClosedStreets::runPlan);
        onBusy("restore(1) of nothing", STATE, x -> x.restore(1));
        onBusy("addStreet(0, 1, 1) of a pair that is joined", STATE, x -> x.addStreet(0, 1, 1));
        onFull("append(65) to 140 characters", STATE, x -> x.append(65));
        onFull("load() of 140 characters", STATE, ClosedStreets::load);
        onFull("runPlan() of 140 characters", STATE, ClosedStreets::runPlan);
        onFull("addCrossing() to 9", STATE, ClosedStreets::addCrossing);
        onFull("addStreet(7, 8, 1) to 20", STATE, x -> x.addStreet(7, 8, 1));
        onFull("undo() of nothing", STATE, ClosedStreets::undo);
        onFull("restore(0) of nothing", STATE, x -> x.restore(0));
        onFull("restore(1) of nothing", STATE, x -> x.restore(1));
    }

    private static void order(Doc doc) {
        doc.says("If several exceptions apply to a call, the one that its description names first"
                + " is thrown.");
        onFull("append(256) to 140 characters", RANGE, x -> x.append(256));
        onFull("append(-1) to 140 characters", RANGE, x -> x.append(-1));
        onBusy("street(4, 5)", MISSING, x -> x.street(4, 5));
        onBusy("street(-1, -1)", MISSING, x -> x.street(-1, -1));
        onBusy("crossing(5, 4)", MISSING, x -> x.crossing(5, 4));
        onBusy("crossing(-1, -1)", MISSING, x -> x.crossing(-1, -1));
        onBusy("addStreet(5, 5, 1)", MISSING, x -> x.addStreet(5, 5, 1));
        onBusy("addStreet(-1, -1, 1)", MISSING, x -> x.addStreet(-1, -1, 1));
        onBusy("addStreet(0, 5, 0)", MISSING, x -> x.addStreet(0, 5, 0));
        onBusy("addStreet(5, 0, 100)", MISSING, x -> x.addStreet(5, 0, 100));
        onBusy("addStreet(0, 1, 100), joined", RANGE, x -> x.addStreet(0, 1, 100));
        onFull("addStreet(9, 0, 1) to 20", MISSING, x -> x.addStreet(9, 0, 1));
        onFull("addStreet(0, -1, 1) to 20", MISSING, x -> x.addStreet(0, -1, 1));
        onFull("addStreet(8, 8, 1) to 20", RANGE, x -> x.addStreet(8, 8, 1));
        onFull("addStreet(7, 8, 100) to 20", RANGE, x -> x.addStreet(7, 8, 100));
        onFull("addStreet(7, 8, 0) to 20", RANGE, x -> x.addStreet(7, 8, 0));
        onBusy("setLength(4, 0)", MISSING, x -> x.setLength(4, 0));
        onBusy("setLength(-1, 100)", MISSING, x -> x.setLength(-1, 100));
        onBusy("setEnds(5, 5)", MISSING, x -> x.setEnds(5, 5));
        onBusy("setEnds(-1, -1)", MISSING, x -> x.setEnds(-1, -1));
        onBusy("withoutAt(4, -1)", MISSING, x -> x.withoutAt(4, -1));
        onBusy("withoutAt(-1, -1)", MISSING, x -> x.withoutAt(-1, -1));
        onBusy("saves(5, 5, 1)", MISSING, x -> x.saves(5, 5, 1));
        onBusy("saves(-1, -1, 0)", MISSING, x -> x.saves(-1, -1, 0));
        onBusy("saves(0, 5, 100)", MISSING, x -> x.saves(0, 5, 100));
        onFull("restore(2) with nothing saved", MISSING, x -> x.restore(2));
        onFull("restore(-1) with nothing saved", MISSING, x -> x.restore(-1));
    }

    private static void whatWouldBe() {
        asked("without", x -> x.without(0) + x.without(1) + x.without(2) + x.without(3));
        asked("withoutAt", x -> x.withoutAt(0, 0) + x.withoutAt(2, 1) + x.withoutAt(3, 2));
        asked("dearest", ClosedStreets::dearest);
        asked("upTo", x -> x.upTo(0) + x.upTo(1) + x.upTo(2) + x.upTo(3));
        asked("saves", x -> x.saves(0, 3, 1) + x.saves(0, 1, 99) + x.saves(2, 3, 5));
        asked("ways", x -> x.ways(0) + x.ways(999));
        asked("middle", ClosedStreets::middle);
        asked("runScript of addStreet", x -> x.runScript(1, 10301));
        asked("runScript of removeStreet", x -> x.runScript(2, 2000020000L));
        asked("runScript of setLength", x -> x.runScript(2, 3000130199L));
        asked("runScript of close", x -> x.runScript(3, 400104031040200L));
        asked("runScript of setEnds", x -> x.runScript(2, 5300051000L));
        asked("runScript of questions", x -> x.runScript(3, 600117000080002L));
        asked("runScript that fails", x -> x.runScript(3, 200005300000000L));
        asked("simulate", x -> x.simulate(1, 60) + x.simulate(-1, 1));
    }

    private static void asked(String call, Use made) {
        SAMPLE.sameBehind(call, made);
        BUSY.sameBehind(call + " on a busy object", made);
        FULL.sameBehind(call + " on a full object", made);
    }
}
