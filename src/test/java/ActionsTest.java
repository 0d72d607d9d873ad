/** Promises 11 to 18: actions and undo. */
public final class ActionsTest {
    private static final int NONE = ClosedStreets.NONE;
    private static final String SAMPLE = "T402s0105s1206s0220s2301x";

    public static void main(String[] args) {
        addCrossing();
        addStreet();
        removeStreet();
        setLength();
        close();
        setEnds();
        runPlan();
        undo();
        refusedCallsChangeNothing();
        Due.end();
    }

    private static void addCrossing() {
        ClosedStreets x = new ClosedStreets();
        for (int c = 2; c < 9; c++) {
            Due.is("addCrossing()", c, x.addCrossing());
            Due.is("open streets of a new crossing", 0, x.crossing(c, 0));
        }
        Due.notNow("addCrossing() to 9", x::addCrossing);
        Due.is("crossings", 9, x.about(0));
        Due.is("undo() of 7 actions", 6, x.undo());
        Due.is("crossings behind undo()", 8, x.about(0));
    }

    private static void addStreet() {
        ClosedStreets x = Due.town(SAMPLE);
        Due.is("addStreet(3, 0, 99)", 4, x.addStreet(3, 0, 99));
        Due.row("the new street", Due.state(x),
                "4 5 1 0 2 11 2 0 |0 1 5 0 1|1 2 6 0 1|0 2 20 0 0|2 3 1 1 0|0 3 99 0 0");
        Due.is("addStreet(1, 3, 1)", 5, x.addStreet(1, 3, 1));
        Due.missing("addStreet(4, 0, 1)", () -> x.addStreet(4, 0, 1));
        Due.missing("addStreet(0, 4, 1)", () -> x.addStreet(0, 4, 1));
        Due.missing("addStreet(-1, 0, 1)", () -> x.addStreet(-1, 0, 1));
        Due.missing("addStreet(0, -1, 0)", () -> x.addStreet(0, -1, 0));
        Due.missing("addStreet(4, 4, 0)", () -> x.addStreet(4, 4, 0));
        Due.outOfRange("addStreet(1, 1, 1)", () -> x.addStreet(1, 1, 1));
        Due.outOfRange("addStreet(0, 1, 0)", () -> x.addStreet(0, 1, 0));
        Due.outOfRange("addStreet(0, 1, 100)", () -> x.addStreet(0, 1, 100));
        Due.notNow("addStreet(0, 1, 1) again", () -> x.addStreet(0, 1, 1));
        Due.notNow("addStreet(1, 0, 1) again", () -> x.addStreet(1, 0, 1));
        Due.notNow("addStreet(3, 2, 1) beside a closed one", () -> x.addStreet(3, 2, 1));
        ClosedStreets full = full();
        Due.is("streets", 20, full.about(1));
        Due.notNow("addStreet to 20 streets", () -> full.addStreet(7, 8, 1));
        Due.outOfRange("addStreet of 100 to 20 streets", () -> full.addStreet(7, 8, 100));
        Due.outOfRange("addStreet(8, 8, 1) to 20 streets", () -> full.addStreet(8, 8, 1));
        Due.is("removeStreet of one of 20", 1, full.removeStreet(4));
        Due.is("addStreet in its place", 19, full.addStreet(7, 8, 1));
    }

    private static ClosedStreets full() {
        StringBuilder town = new StringBuilder("T901");
        for (int a = 0; a < 4; a++) {
            for (int k = 1; k <= 5; k++) {
                town.append('s').append(a).append(a + k).append("01");
            }
        }
        return Due.town(town.toString());
    }

    private static void removeStreet() {
        ClosedStreets x = Due.town(SAMPLE);
        Due.is("removeStreet(1)", 20, x.removeStreet(1));
        Due.row("streets behind removeStreet(1)", Due.state(x),
                "4 3 1 0 2 20 1 1 |0 1 5 0 0|0 2 20 0 1|2 3 1 1 0");
        Due.is("removeStreet(2), the last one", 20, x.removeStreet(2));
        Due.is("removeStreet(1)", NONE, x.removeStreet(1));
        Due.missing("removeStreet(1) of 1", () -> x.removeStreet(1));
        Due.missing("removeStreet(-1)", () -> x.removeStreet(-1));
        Due.is("removeStreet(0)", NONE, x.removeStreet(0));
        Due.missing("removeStreet(0) of none", () -> x.removeStreet(0));
        Due.is("undo()", 3, x.undo());
        Due.is("undo()", 2, x.undo());
        Due.is("undo()", 1, x.undo());
        Due.is("undo()", 0, x.undo());
        Due.row("streets behind undo()", Due.state(x),
                "4 4 1 0 2 11 2 0 |0 1 5 0 1|1 2 6 0 1|0 2 20 0 0|2 3 1 1 0");
    }

    private static void setLength() {
        ClosedStreets x = Due.town(SAMPLE);
        Due.is("setLength(1, 16)", 6, x.setLength(1, 16));
        Due.is("best length", 20, x.about(5));
        Due.is("setLength(1, 1)", 16, x.setLength(1, 1));
        Due.is("setLength(3, 99) of a closed one", 1, x.setLength(3, 99));
        Due.is("street(3, 3)", 1, x.street(3, 3));
        Due.missing("setLength(4, 1)", () -> x.setLength(4, 1));
        Due.missing("setLength(-1, 0)", () -> x.setLength(-1, 0));
        Due.outOfRange("setLength(0, 0)", () -> x.setLength(0, 0));
        Due.outOfRange("setLength(0, 100)", () -> x.setLength(0, 100));
        Due.is("undo()", 2, x.undo());
    }

    private static void close() {
        ClosedStreets x = Due.town(SAMPLE);
        Due.is("close(0, true)", 20, x.close(0, true));
        Due.is("close(2, true)", NONE, x.close(2, true));
        Due.is("close(2, true) again", NONE, x.close(2, true));
        Due.is("close(0, false)", 11, x.close(0, false));
        Due.is("street(0, 3)", 0, x.street(0, 3));
        Due.is("street(2, 3)", 1, x.street(2, 3));
        Due.missing("close(4, true)", () -> x.close(4, true));
        Due.missing("close(-1, false)", () -> x.close(-1, false));
        Due.is("undo(): an action without a change is one", 3, x.undo());
    }

    private static void setEnds() {
        ClosedStreets x = Due.town(SAMPLE);
        Due.is("setEnds(2, 1)", 6, x.setEnds(2, 1));
        Due.is("setEnds(3, 0)", NONE, x.setEnds(3, 0));
        Due.is("start", 3, x.about(3));
        Due.is("goal", 0, x.about(4));
        Due.missing("setEnds(4, 0)", () -> x.setEnds(4, 0));
        Due.missing("setEnds(0, 4)", () -> x.setEnds(0, 4));
        Due.missing("setEnds(-1, -1)", () -> x.setEnds(-1, -1));
        Due.outOfRange("setEnds(3, 3)", () -> x.setEnds(3, 3));
        Due.is("undo()", 1, x.undo());
        Due.is("start behind undo()", 2, x.about(3));
    }

    private static void plan(String told, int want, String state) {
        ClosedStreets x = Due.town(SAMPLE);
        Due.write(x, told);
        String before = Due.state(x);
        Due.is("runPlan() of '" + told + "'", want, x.runPlan());
        Due.row("state behind '" + told + "'", Due.state(x), state);
        Due.is("undo(): a plan is one action", 0, x.undo());
        Due.row("state behind undo() of '" + told + "'", Due.state(x), before);
        Due.is("clearText(): the plan stays", told.length(), x.clearText());
    }

    private static void runPlan() {
        String same = "4 4 1 0 2 11 2 0 |0 1 5 0 1|1 2 6 0 1|0 2 20 0 0|2 3 1 1 0";
        plan("", 0, same);
        plan("turn", 1, "4 4 1 2 0 11 2 0 |0 1 5 0 1|1 2 6 0 1|0 2 20 0 0|2 3 1 1 0");
        plan("turn turn", 2, same);
        plan("open 3 ends 1 03", 2, "4 4 0 1 3 7 2 1 |0 1 5 0 0|1 2 6 0 1|0 2 20 0 0|2 3 1 0 1");
        plan("close 00 close 2", 2,
                "4 4 3 0 2 -999 -999 0 |0 1 5 1 0|1 2 6 0 0|0 2 20 1 0|2 3 1 1 0");
        plan("long 1 99 long 2 05", 2, "4 4 1 0 2 5 1 0 |0 1 5 0 0|1 2 99 0 0|0 2 5 0 1|2 3 1 1 0");
        plan("open 4 turn", 0, same);
        plan("close 4 turn", 0, same);
        plan("long 4 1 turn", 0, same);
        plan("long 0 0 turn", 0, same);
        plan("long 0 00 turn", 0, same);
        plan("ends 1 1 turn", 0, same);
        plan("ends 4 1 turn", 0, same);
        plan("ends 0 10 turn", 0, same);
        plan("turn open 99 turn", 1,
                "4 4 1 2 0 11 2 0 |0 1 5 0 1|1 2 6 0 1|0 2 20 0 0|2 3 1 1 0");
        ClosedStreets x = Due.town(SAMPLE);
        Due.write(x, "turn ");
        Due.notNow("runPlan() of a text that is no plan", x::runPlan);
        Due.row("state behind it", Due.state(x), same);
        Due.notNow("undo(): what throws is no action", x::undo);
        Due.write(x, SAMPLE);
        Due.notNow("runPlan() of a town", x::runPlan);
        Due.write(x, "turn");
        Due.is("runPlan()", 1, x.runPlan());
        Due.is("runPlan() again", 1, x.runPlan());
        Due.is("start", 0, x.about(3));
    }

    private static void undo() {
        ClosedStreets x = new ClosedStreets();
        x.addStreet(0, 1, 1);
        for (int length = 2; length <= 20; length++) {
            x.setLength(0, length);
        }
        for (int left = 13; left >= 0; left--) {
            Due.is("undo()", left, x.undo());
            Due.is("length behind undo()", left + 6, x.street(0, 2));
        }
        Due.notNow("undo() with none remembered", x::undo);
        Due.is("length behind the last undo()", 6, x.street(0, 2));
        x.setLength(0, 50);
        Due.is("undo() is no action", 0, x.undo());
        Due.notNow("undo() of undo()", x::undo);
        // The crossing that was taken back is there for no call any more.
        ClosedStreets back = Due.town(SAMPLE);
        back.addCrossing();
        back.undo();
        Due.missing("crossing(4, 0) behind undo()", () -> back.crossing(4, 0));
        Due.missing("between(0, 4) behind undo()", () -> back.between(0, 4));
        Due.missing("saves(0, 4, 1) behind undo()", () -> back.saves(0, 4, 1));
        Due.missing("setEnds(0, 4) behind undo()", () -> back.setEnds(0, 4));
        back.setEnds(1, 2);
        back.undo();
        Due.is("ways(11) behind undo()", 1, back.ways(11));
    }

    private static void refusedCallsChangeNothing() {
        ClosedStreets x = Due.town(SAMPLE);
        String before = Due.state(x);
        Due.told(() -> x.addStreet(0, 1, 1));
        Due.told(() -> x.addStreet(0, 0, 1));
        Due.told(() -> x.removeStreet(9));
        Due.told(() -> x.setLength(0, 100));
        Due.told(() -> x.close(9, true));
        Due.told(() -> x.setEnds(1, 1));
        Due.row("state behind refused calls", Due.state(x), before);
        Due.notNow("undo(): refused calls are no actions", x::undo);
    }
}
