import java.util.ArrayDeque;
import java.util.Deque;

/** "What it is", THE TOWN, WAYS, ACTIONS AND UNDO and the constant, sentence by sentence. */
public final class TermsTest {
    private static final int NONE = ClosedStreets.NONE;
    // 8 streets from 0 to 8, each as long as its last two digits tell.
    private static final String SHORT_STREETS = "s0101s1201s2301s3401s4501s5601s6701s7801";

    public static void main(String[] args) {
        use();
        Doc town = Doc.part("THE TOWN", "WAYS");
        crossings(town);
        streets(town);
        town.isTested();
        Doc ways = Doc.part("WAYS", "TEXT");
        ways(ways);
        better(ways);
        best(ways);
        ways.isTested();
        Doc actions = Doc.part("ACTIONS AND UNDO", "EXCEPTIONS");
        state(actions);
        actions(actions);
        remembered(actions);
        actions.isTested();
        Doc constants = Doc.part("The constants:", "Ahead of the calls");
        constants.says("NONE = -999: There is no such result.");
        Due.is("NONE", -999, ClosedStreets.NONE);
        Due.is("about(5) without a way", -999, new ClosedStreets().about(5));
        constants.isTested();
        Due.end();
    }

    private static void use() {
        Doc doc = Doc.part("## What it is", "## ");
        doc.says("An object is used for at most 512 calls after it has been made");
        ClosedStreets x = new ClosedStreets();
        Due.is("addStreet(0, 1, 1), call 1", 0, x.addStreet(0, 1, 1));
        for (int call = 2; call < 512; call++) {
            Due.is("setLength, call " + call, (call - 2) % 99 + 1,
                    x.setLength(0, (call - 1) % 99 + 1));
        }
        Due.is("about(5), call 512", 16, x.about(5));
        ClosedStreets told = new ClosedStreets();
        for (int call = 1; call <= 512; call++) {
            Due.is("text, call " + call, call % 141 == 0 ? 140 : call % 141,
                    call % 141 == 0 ? told.clearText() : told.append(call % 256));
        }
        Due.by("");
    }

    private static void notATown(String text) {
        ClosedStreets x = new ClosedStreets();
        Towns.write(x, text);
        Due.notNow("load() of " + text, x::load);
    }

    private static void crossings(Doc doc) {
        doc.says("There are 2 to 9 crossings, numbered from 0;");
        ClosedStreets x = new ClosedStreets();
        Due.is("crossings of a new town", 2, x.about(0));
        Due.eachIs("crossing(c, 0)", 0, c -> x.crossing(c, 0), 0, 1);
        Due.eachMissing("crossing(c, 0)", c -> x.crossing(c, 0), -1, 2, 9);
        ClosedStreets greatest = Towns.of("T901");
        Due.is("crossings of T901", 9, greatest.about(0));
        Due.eachIs("crossing(c, 0)", 0, c -> greatest.crossing(c, 0), 0, 1, 7, 8);
        Due.eachMissing("crossing(c, 0)", c -> greatest.crossing(c, 0), -1, 9, 10);
        Due.notNow("addCrossing() to 9", greatest::addCrossing);
        notATown("T101");
        notATown("T101s0101");
        notATown("T001");
        notATown("T:01");
        doc.says("two different ones of them are the start and the goal.");
        ClosedStreets ends = Towns.of("T987");
        Due.is("start", 8, ends.about(3));
        Due.is("goal", 7, ends.about(4));
        Due.outOfRange("setEnds(3, 3)", () -> ends.setEnds(3, 3));
        Due.is("setEnds(3, 3) in a script", 0, ends.runScript(1, 53300));
        Towns.write(ends, "ends 3 3");
        Due.is("setEnds(3, 3) in a plan", 0, ends.runPlan());
        Due.is("start", 8, ends.about(3));
        Due.is("goal", 7, ends.about(4));
        notATown("T988");
        notATown("T200");
        doc.says("In a new object there are 2 crossings and no streets, the start is 0, and the"
                + " goal is 1.");
        Due.row("new object", Towns.state(new ClosedStreets()), Towns.NEW_STATE);
    }

    private static void streets(Doc doc) {
        doc.says("There are at most 20 streets, numbered from 0 in the order in which they were"
                + " added.");
        ClosedStreets x = Towns.full();
        Due.is("streets", 20, x.about(1));
        for (int s = 0; s < 20; s++) {
            Due.is("smaller crossing of street " + s, s / 5, x.street(s, 0));
            Due.is("greater crossing of street " + s, s / 5 + s % 5 + 1, x.street(s, 1));
        }
        Due.eachMissing("street(s, 0)", s -> x.street(s, 0), -1, 20);
        Due.notNow("addStreet to 20", () -> x.addStreet(7, 8, 1));
        Due.is("addStreet to 20 in a script", 0, x.runScript(1, 17801));
        notATown(Towns.twentyStreets("T901", "01") + "s7801");
        ClosedStreets added = Towns.of("T901");
        Due.is("addStreet(8, 7, 1)", 0, added.addStreet(8, 7, 1));
        Due.is("addStreet(0, 3, 1)", 1, added.addStreet(0, 3, 1));
        Due.is("addStreet(0, 2, 1)", 2, added.addStreet(0, 2, 1));
        Due.is("between(7, 8)", 0, added.between(7, 8));
        Due.is("between(0, 2)", 2, added.between(0, 2));
        doc.says("A street joins two different crossings, has a length from 1 to 99, and is open"
                + " or closed.");
        ClosedStreets one = new ClosedStreets();
        Due.eachOutOfRange("addStreet(c, c, 5)", c -> one.addStreet(c, c, 5), 0, 1);
        Due.eachOutOfRange("addStreet(0, 1, n)", n -> one.addStreet(0, 1, n), 0, 100);
        Due.is("addStreet(0, 1, 1)", 0, one.addStreet(0, 1, 1));
        Due.inOrder("street(0, what)", what -> one.street(0, what), 0, 1, 1, 0, 1);
        Due.is("setLength(0, 99)", 1, one.setLength(0, 99));
        Due.is("close(0, true)", NONE, one.close(0, true));
        Due.inOrder("street(0, what)", what -> one.street(0, what), 0, 1, 99, 1, 0);
        notATown("T201s0005");
        notATown("T201s0100");
        doc.says("No two streets join the same two crossings.");
        ClosedStreets sample = Towns.sample();
        Due.notNow("addStreet(0, 1, 5)", () -> sample.addStreet(0, 1, 5));
        Due.notNow("addStreet(1, 0, 9)", () -> sample.addStreet(1, 0, 9));
        Due.notNow("addStreet(3, 2, 9), closed", () -> sample.addStreet(3, 2, 9));
        Due.is("addStreet(0, 1, 5) in a script", 0, sample.runScript(1, 10105));
        Due.is("addStreet(1, 0, 5) in a script", 0, sample.runScript(1, 11005));
        notATown("T301s0105s0106");
        notATown("T301s0105xs1005");
        doc.says("Streets can be gone in both directions.");
        ClosedStreets down = Towns.of("T320s2105s0106");
        Due.row("way down", Towns.way(down), "210");
        Due.is("setEnds(0, 2)", 11, down.setEnds(0, 2));
        Due.row("way up", Towns.way(down), "012");
    }

    private static void ways(Doc doc) {
        doc.says("A way from a crossing to another one is a row of different crossings, from the"
                + " first to the second, each two of which that follow one another are joined by"
                + " an open street.");
        // A ring beside the only street to the goal: going round it would repeat a crossing.
        ClosedStreets x = Towns.of("T501s0201s2301s3401s4201s2101");
        Due.is("ways(999) beside a ring", 1, x.ways(999));
        Due.row("way beside a ring", Towns.way(x), "021");
        Due.is("ways(999) with a ring at the start", 1,
                Towns.of("T410s1201s2301s3101s1001").ways(999));
        Due.is("ways(999) with a ring at the goal", 1,
                Towns.of("T401s1201s2301s3101s1001").ways(999));
        x.close(0, true);
        Due.row("way with its street closed", Towns.way(x), "");
        Due.is("ways(999) with its street closed", 0, x.ways(999));
        x.close(0, false);
        Due.row("way with its street open again", Towns.way(x), "021");
        Due.row("way without streets", Towns.way(Towns.of("T901")), "");
        doc.says("Its length is that of its streets together.");
        ClosedStreets longest = Towns.of("T908s0199s1299s2399s3499s4599s5699s6799s7899");
        Due.is("about(5) of 8 streets", 792, longest.about(5));
        Due.is("ways(791)", 0, longest.ways(791));
        Due.is("ways(792)", 1, longest.ways(792));
        Due.is("about(5) of one street", 1, Towns.of("T201s0101").about(5));
    }

    private static void wayOf(String what, String town, String want) {
        Due.row(what, Towns.way(Towns.of(town)), want);
    }

    private static void better(Doc doc) {
        doc.says("Of two ways the better one is the shorter one;");
        wayOf("shorter by 1 with one street more", "T301s0202s2101s0104", "021");
        wayOf("shorter by 1 with 7 streets more", "T908s0809" + SHORT_STREETS, "012345678");
        wayOf("shorter by 1 with a greater crossing", "T401s0202s0302s2102s3101", "031");
        doc.says("of as long ones that with fewer streets;");
        wayOf("fewer streets by 1", "T301s0201s2101s0102", "01");
        wayOf("fewer streets by 7", "T908s0808" + SHORT_STREETS, "08");
        wayOf("fewer streets with a greater crossing", "T501s0201s2301s3101s0402s4101", "041");
        doc.says("of these the one with the smaller crossing at the first place at which they"
                + " differ.");
        // The later places would have it the other way round.
        wayOf("first place", "T605s0101s0201s1401s2301s4501s3501", "0145");
        wayOf("first place, streets backwards", "T605s3501s4501s2301s1401s0201s0101", "0145");
        wayOf("second place", "T605s0101s1401s1201s4501s2501", "0125");
        wayOf("third place", "T706s0101s1201s2501s2301s5601s3601", "01236");
        wayOf("places from the start on", "T650s0401s4101s1501s0301s3201s2501", "5140");
        wayOf("greatest crossings", "T987s8201s8101s2701s1701", "817");
    }

    private static void best(Doc doc) {
        doc.says("The best way is the best one from the start to the goal, if there is one; its"
                + " streets are those that join crossings that follow one another in it.");
        // Street 0 joins two crossings of the best way, but they do not follow one another.
        ClosedStreets x = Towns.of("T603s0209s0103s1203s2303s4501");
        Due.row("way", Towns.way(x), "0123");
        Due.inOrder("street(s, 4)", s -> x.street(s, 4), 0, 1, 1, 1, 0);
        x.setEnds(1, 0);
        Due.row("way to another goal", Towns.way(x), "10");
        Due.inOrder("street(s, 4)", s -> x.street(s, 4), 0, 1, 0, 0, 0);
        x.setEnds(0, 4);
        Due.row("no way", Towns.way(x), "");
        Due.is("length without a way", NONE, x.about(5));
        Due.inOrder("street(s, 4)", s -> x.street(s, 4), 0, 0, 0, 0, 0);
    }

    private static void state(Doc doc) {
        doc.says("The methods in the section \"actions\" change the state, which consists of"
                + " everything but the text and the save slots.");
        ClosedStreets x = Towns.sample();
        Towns.write(x, "turn");
        x.runPlan();
        x.append(' ');
        Due.is("undo()", 0, x.undo());
        Due.is("errorPosition(true): the text is not taken back", 5, x.errorPosition(true));
        Due.is("clearText()", 5, x.clearText());
        x.addCrossing();
        x.save(1);
        Due.is("undo()", 0, x.undo());
        Due.is("crossings behind undo()", 4, x.about(0));
        Due.is("restore(1): the slot is not taken back", 4, x.restore(1));
        Due.is("crossings behind restore(1)", 5, x.about(0));
    }

    private static void actions(Doc doc) {
        doc.says("Each call of one of them that does not throw an exception is an action, also if"
                + " nothing becomes different (undo is none).");
        ClosedStreets x = Towns.sample();
        x.setLength(0, 5);
        x.close(0, false);
        x.close(3, true);
        x.setEnds(0, 2);
        x.runPlan();
        Due.notNow("a refused call", () -> x.addStreet(0, 1, 1));
        for (int left = 4; left >= 0; left--) {
            Due.is("undo()", left, x.undo());
        }
        Due.notNow("undo() of undo()", x::undo);
        Due.row("state", Towns.state(x), Towns.SAMPLE_STATE);
        doc.says("Before each action, the state is remembered.");
        undone("addCrossing()", ClosedStreets::addCrossing);
        undone("addStreet(0, 3, 1)", y -> y.addStreet(0, 3, 1));
        undone("removeStreet(0)", y -> y.removeStreet(0));
        undone("removeStreet(3)", y -> y.removeStreet(3));
        undone("setLength(1, 99)", y -> y.setLength(1, 99));
        undone("close(0, true)", y -> y.close(0, true));
        undone("close(3, false)", y -> y.close(3, false));
        undone("setEnds(3, 1)", y -> y.setEnds(3, 1));
        undone("runPlan()", ClosedStreets::runPlan);
        doc.says("load and restore are not actions.");
        ClosedStreets y = Towns.sample();
        Due.notNow("undo() behind load()", y::undo);
        Due.is("save(0)", 4, y.save(0));
        Due.is("restore(0)", 4, y.restore(0));
        Due.notNow("undo() behind restore(0)", y::undo);
    }

    private static void undone(String call, Use made) {
        ClosedStreets x = Towns.sample();
        Towns.write(x, "close 1 long 2 7 turn open 3");
        made.on(x);
        Due.row(call + " makes the state different",
                Towns.state(x).equals(Towns.SAMPLE_STATE), false);
        Due.is("undo() of " + call, 0, x.undo());
        Due.row("state behind undo() of " + call, Towns.state(x), Towns.SAMPLE_STATE);
    }

    private static void remembered(Doc doc) {
        doc.says("At most 14 states are remembered; when one more is remembered, the oldest one"
                + " is forgotten.");
        for (int actions : new int[] {1, 13, 14, 15, 16, 28, 29, 100}) {
            History history = new History();
            history.act(actions);
            history.takeBack(15);
        }
        // The oldest one is another one each time that the row begins anew.
        History history = new History();
        for (int actions = 1; actions < 20; actions++) {
            history.act(actions);
            history.takeBack(actions / 2);
        }
        history.takeBack(15);
    }

    /** Lengths of one street, and those that are due behind undo(). */
    private static final class History {
        private final ClosedStreets x = Towns.of("T201s0199");
        private final Deque<Integer> lengths = new ArrayDeque<>();
        private int length = 99;

        void act(int actions) {
            for (int i = 0; i < actions; i++) {
                lengths.addLast(length);
                length = length % 98 + 1;
                x.setLength(0, length);
                if (lengths.size() > 14) {
                    lengths.removeFirst();
                }
            }
        }

        void takeBack(int times) {
            for (int i = 0; i < times; i++) {
                if (lengths.isEmpty()) {
                    Due.notNow("undo()", x::undo);
                } else {
                    length = lengths.removeLast();
                    Due.is("undo()", lengths.size(), x.undo());
                }
                Due.is("length behind undo()", length, x.about(5));
            }
        }
    }
}
