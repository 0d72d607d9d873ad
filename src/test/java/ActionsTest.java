/** Promises 11 to 18, sentence by sentence: actions and undo. */
public final class ActionsTest {
    private static final int NONE = ClosedStreets.NONE;
    private static final String LENGTH_THEN =
            "Returns the length of the best way then; NONE without one.";

    public static void main(String[] args) {
        addCrossing();
        addStreet();
        removeStreet();
        setLength();
        close();
        setEnds();
        Doc plan = Doc.promise(17);
        planCommands(plan);
        planStops(plan);
        planIsOneAction(plan);
        plan.isTested();
        undo();
        Due.end();
    }

    private static void addCrossing() {
        Doc doc = Doc.promise(11);
        doc.says("Adds a crossing behind all others, without streets.");
        ClosedStreets x = Towns.sample();
        x.addCrossing();
        Due.is("crossings", 5, x.about(0));
        Due.inOrder("crossing(4, what)", what -> x.crossing(4, what), 0, NONE, NONE, NONE);
        Due.inOrder("between(4, c)", c -> x.between(4, c), NONE, NONE, NONE, NONE, NONE);
        Due.is("streets", 4, x.about(1));
        doc.says("Returns its number.");
        ClosedStreets y = new ClosedStreets();
        for (int c = 2; c <= 8; c++) {
            Due.is("addCrossing()", c, y.addCrossing());
        }
        doc.says("Throws IllegalStateException if there are 9 crossings");
        Due.notNow("addCrossing() to 9", y::addCrossing);
        Due.notNow("addCrossing() to 9 again", y::addCrossing);
        Due.is("crossings", 9, y.about(0));
        Due.notNow("addCrossing() to 9 that were loaded", Towns.of("T901")::addCrossing);
        Due.is("undo() of 7 actions", 6, y.undo());
        Due.is("addCrossing() to 8", 8, y.addCrossing());
        Due.is("addCrossing() to 8 that were loaded", 8, Towns.of("T801").addCrossing());
        doc.isTested();
    }

    private static void addStreet() {
        Doc doc = Doc.promise(12);
        doc.says("Adds a street, which is open.");
        ClosedStreets x = Towns.sample();
        x.addStreet(3, 0, 99);
        Due.row("state", Towns.state(x),
                "4 5 1 0 2 11 2 0 |0 1 5 0 1|1 2 6 0 1|0 2 20 0 0|2 3 1 1 0|0 3 99 0 0");
        // The number of a street that was closed and removed.
        x.close(4, true);
        x.removeStreet(4);
        x.addStreet(3, 1, 2);
        Due.inOrder("street(4, what)", what -> x.street(4, what), 1, 3, 2, 0, 0);
        doc.says("- a: crossing - b: crossing");
        ClosedStreets y = Towns.of("T901");
        Due.is("addStreet(0, 8, 3)", 0, y.addStreet(0, 8, 3));
        Due.is("addStreet(8, 1, 3)", 1, y.addStreet(8, 1, 3));
        Due.row("way", Towns.way(y), "081");
        doc.says("- length: 1 to 99");
        Due.is("addStreet(2, 3, 1)", 2, y.addStreet(2, 3, 1));
        Due.is("street(2, 2)", 1, y.street(2, 2));
        Due.is("addStreet(2, 4, 99)", 3, y.addStreet(2, 4, 99));
        Due.is("street(3, 2)", 99, y.street(3, 2));
        doc.says("Returns its number.");
        Due.is("addStreet to none", 0, new ClosedStreets().addStreet(0, 1, 1));
        ClosedStreets full = Towns.full();
        full.removeStreet(4);
        Due.is("addStreet to 19", 19, full.addStreet(7, 8, 1));
        doc.says("Throws IndexOutOfBoundsException if there is no such crossing");
        Due.eachMissing("addStreet(c, 0, 1)", c -> x.addStreet(c, 0, 1), -1, 4, Due.LEAST,
                Due.GREATEST);
        Due.eachMissing("addStreet(0, c, 1)", c -> x.addStreet(0, c, 1), -1, 4, Due.LEAST,
                Due.GREATEST);
        Due.eachMissing("addStreet(c, c, 0)", c -> x.addStreet(c, c, 0), -1, 4);
        Due.eachMissing("addStreet(9, c, 1) to 20", c -> full.addStreet(9, c, 1), 0, 9);
        doc.says("Throws IllegalArgumentException if both are the same, or length is out of"
                + " range");
        Due.eachOutOfRange("addStreet(c, c, 1)", c -> x.addStreet(c, c, 1), 0, 1, 2, 3);
        Due.eachOutOfRange("addStreet(0, 3, n)", n -> x.addStreet(0, 3, n), 0, 100, -1,
                Due.LEAST, Due.GREATEST);
        Due.eachOutOfRange("addStreet(0, 1, n), joined", n -> x.addStreet(0, 1, n), 0, 100);
        Due.eachOutOfRange("addStreet(7, 8, n) to 20", n -> full.addStreet(7, 8, n), 0, 100);
        Due.eachOutOfRange("addStreet(c, c, 1) to 20", c -> full.addStreet(c, c, 1), 0, 8);
        doc.says("Throws IllegalStateException if a street joins them, or there are 20 streets");
        Due.notNow("addStreet(0, 1, 5)", () -> x.addStreet(0, 1, 5));
        Due.notNow("addStreet(1, 0, 1)", () -> x.addStreet(1, 0, 1));
        Due.notNow("addStreet(3, 2, 1), closed", () -> x.addStreet(3, 2, 1));
        Due.notNow("addStreet(6, 7, 1) to 20", () -> full.addStreet(6, 7, 1));
        Due.notNow("addStreet(0, 1, 1) to 20", () -> full.addStreet(0, 1, 1));
        doc.isTested();
    }

    private static void removeStreet() {
        Doc doc = Doc.promise(13);
        doc.says("Removes a street; those behind it get numbers that are smaller by 1.");
        ClosedStreets x = Towns.sample();
        x.removeStreet(1);
        Due.row("without a middle one", Towns.state(x),
                "4 3 1 0 2 20 1 1 |0 1 5 0 0|0 2 20 0 1|2 3 1 1 0");
        x.removeStreet(2);
        Due.row("without the last one", Towns.state(x), "4 2 0 0 2 20 1 1 |0 1 5 0 0|0 2 20 0 1");
        x.removeStreet(0);
        Due.row("without the first one", Towns.state(x), "4 1 0 0 2 20 1 1 |0 2 20 0 1");
        x.removeStreet(0);
        Due.row("without the only one", Towns.state(x), "4 0 0 0 2 -999 -999 0 ");
        ClosedStreets full = Towns.full();
        full.removeStreet(0);
        Due.is("streets", 19, full.about(1));
        Due.is("between(0, 2)", 0, full.between(0, 2));
        Due.is("between(3, 8)", 18, full.between(3, 8));
        doc.says("- s: street");
        full.removeStreet(18);
        Due.is("between(3, 8)", NONE, full.between(3, 8));
        doc.says(LENGTH_THEN);
        ClosedStreets y = Towns.sample();
        Due.is("removeStreet(3), closed", 11, y.removeStreet(3));
        Due.is("removeStreet(1)", 20, y.removeStreet(1));
        Due.is("removeStreet(1)", NONE, y.removeStreet(1));
        Due.is("removeStreet(0)", NONE, y.removeStreet(0));
        doc.says("Throws IndexOutOfBoundsException if there is no such street");
        Due.eachMissing("removeStreet of none", y::removeStreet, -1, 0, 1);
        Due.eachMissing("removeStreet of 4", Towns.sample()::removeStreet, -1, 4, Due.LEAST,
                Due.GREATEST);
        Due.eachMissing("removeStreet of 20", Towns.full()::removeStreet, -1, 20);
        doc.isTested();
    }

    private static void setLength() {
        Doc doc = Doc.promise(14);
        doc.says("Changes the length of a street.");
        ClosedStreets x = Towns.sample();
        x.setLength(1, 16);
        Due.is("street(1, 2)", 16, x.street(1, 2));
        Due.is("best length", 20, x.about(5));
        x.setLength(3, 98);
        Due.inOrder("street(3, what), closed", what -> x.street(3, what), 2, 3, 98, 1, 0);
        doc.says("- s: street");
        Due.is("setLength(0, 6)", 5, x.setLength(0, 6));
        Due.is("setLength(19, 2)", 1, Towns.full().setLength(19, 2));
        doc.says("- length: 1 to 99");
        Due.is("setLength(1, 1)", 16, x.setLength(1, 1));
        Due.is("setLength(1, 99)", 1, x.setLength(1, 99));
        Due.is("street(1, 2)", 99, x.street(1, 2));
        doc.says("Returns its previous length.");
        Due.is("setLength(1, 99) again", 99, x.setLength(1, 99));
        Due.is("setLength(1, 50)", 99, x.setLength(1, 50));
        Due.is("setLength(3, 1), closed", 98, x.setLength(3, 1));
        doc.says("Throws IndexOutOfBoundsException if there is no such street");
        Due.eachMissing("setLength(s, 1)", s -> x.setLength(s, 1), -1, 4, Due.LEAST,
                Due.GREATEST);
        Due.eachMissing("setLength(s, 0)", s -> x.setLength(s, 0), -1, 4);
        Due.eachMissing("setLength(s, 100)", s -> x.setLength(s, 100), -1, 4);
        Due.eachMissing("setLength(s, 1) of none", s -> new ClosedStreets().setLength(s, 1), 0);
        doc.says("Throws IllegalArgumentException if length is out of range");
        Due.eachOutOfRange("setLength(0, n)", n -> x.setLength(0, n), 0, 100, -1, Due.LEAST,
                Due.GREATEST);
        Due.eachOutOfRange("setLength(3, n)", n -> x.setLength(3, n), 0, 100);
        doc.isTested();
    }

    private static void close() {
        Doc doc = Doc.promise(15);
        doc.says("Closes or opens a street.");
        ClosedStreets x = Towns.sample();
        x.close(0, true);
        x.close(3, false);
        Due.inOrder("street(s, 3)", s -> x.street(s, 3), 1, 0, 0, 0);
        doc.says("- s: street");
        ClosedStreets full = Towns.full();
        Due.is("close(0, true)", 2, full.close(0, true));
        Due.is("close(19, true)", 2, full.close(19, true));
        Due.is("closed ones", 2, full.about(2));
        doc.says("- is: whether it is closed then");
        x.close(0, true);
        Due.is("street(0, 3)", 1, x.street(0, 3));
        x.close(0, false);
        Due.is("street(0, 3)", 0, x.street(0, 3));
        x.close(0, false);
        Due.is("street(0, 3)", 0, x.street(0, 3));
        doc.says(LENGTH_THEN);
        Due.is("close(0, true)", 20, x.close(0, true));
        Due.is("close(2, true)", NONE, x.close(2, true));
        Due.is("close(2, true) again", NONE, x.close(2, true));
        Due.is("close(0, false)", 11, x.close(0, false));
        Due.is("close(0, false) again", 11, x.close(0, false));
        doc.says("Throws IndexOutOfBoundsException if there is no such street");
        Due.eachMissing("close(s, true)", s -> x.close(s, true), -1, 4, Due.LEAST, Due.GREATEST);
        Due.eachMissing("close(s, false)", s -> x.close(s, false), -1, 4);
        Due.eachMissing("close(s, true) of 20", s -> full.close(s, true), -1, 20);
        Due.eachMissing("close(s, true) of none", s -> new ClosedStreets().close(s, true), 0);
        doc.isTested();
    }

    private static void setEnds() {
        Doc doc = Doc.promise(16);
        doc.says("Changes the start and the goal.");
        ClosedStreets x = Towns.sample();
        x.setEnds(3, 1);
        Due.is("start", 3, x.about(3));
        Due.is("goal", 1, x.about(4));
        doc.says("- start: crossing - goal: crossing");
        ClosedStreets y = Towns.of("T901s0809");
        Due.is("setEnds(0, 8)", 9, y.setEnds(0, 8));
        Due.is("setEnds(8, 0)", 9, y.setEnds(8, 0));
        Due.is("start", 8, y.about(3));
        Due.is("goal", 0, y.about(4));
        doc.says(LENGTH_THEN);
        Due.is("setEnds(2, 1)", 6, x.setEnds(2, 1));
        Due.is("setEnds(2, 3)", NONE, x.setEnds(2, 3));
        Due.is("setEnds(2, 0)", 11, x.setEnds(2, 0));
        Due.is("setEnds(2, 0) again", 11, x.setEnds(2, 0));
        doc.says("Throws IndexOutOfBoundsException if there is no such crossing");
        Due.eachMissing("setEnds(c, 0)", c -> x.setEnds(c, 0), -1, 4, Due.LEAST, Due.GREATEST);
        Due.eachMissing("setEnds(0, c)", c -> x.setEnds(0, c), -1, 4, Due.LEAST, Due.GREATEST);
        Due.eachMissing("setEnds(c, c)", c -> x.setEnds(c, c), -1, 4);
        Due.eachMissing("setEnds(c, 0) of 9", c -> y.setEnds(c, 0), 9);
        doc.says("Throws IllegalArgumentException if both are the same");
        Due.eachOutOfRange("setEnds(c, c)", c -> x.setEnds(c, c), 0, 1, 2, 3);
        Due.is("start", 2, x.about(3));
        Due.is("goal", 0, x.about(4));
        doc.isTested();
    }

    /** Runs a plan on the sample town. */
    private static void plan(String told, int want, String state) {
        ClosedStreets x = Towns.sample();
        Towns.write(x, told);
        Due.is("runPlan() of '" + told + "'", want, x.runPlan());
        Due.row("state behind '" + told + "'", Towns.state(x), state);
        Due.is("undo() of '" + told + "'", 0, x.undo());
        Due.row("state behind undo() of '" + told + "'", Towns.state(x), Towns.SAMPLE_STATE);
    }

    private static void planCommands(Doc doc) {
        doc.says("Does the commands of the plan in the text, one after the other:");
        plan("close 0 open 0 close 1", 3,
                "4 4 2 0 2 20 1 1 |0 1 5 0 0|1 2 6 1 0|0 2 20 0 1|2 3 1 1 0");
        plan("long 0 9 long 0 99 long 0 1", 3,
                "4 4 1 0 2 7 2 0 |0 1 1 0 1|1 2 6 0 1|0 2 20 0 0|2 3 1 1 0");
        plan("ends 3 0 ends 1 0", 2,
                "4 4 1 1 0 5 1 0 |0 1 5 0 1|1 2 6 0 0|0 2 20 0 0|2 3 1 1 0");
        doc.says("open s is close(s, false),");
        plan("open 3", 1, "4 4 0 0 2 11 2 0 |0 1 5 0 1|1 2 6 0 1|0 2 20 0 0|2 3 1 0 0");
        plan("open 00", 1, Towns.SAMPLE_STATE);
        doc.says("close s is close(s, true),");
        plan("close 0", 1, "4 4 2 0 2 20 1 1 |0 1 5 1 0|1 2 6 0 0|0 2 20 0 1|2 3 1 1 0");
        plan("close 03", 1, Towns.SAMPLE_STATE);
        doc.says("long s n is setLength(s, n),");
        plan("long 1 99", 1, "4 4 1 0 2 20 1 0 |0 1 5 0 0|1 2 99 0 0|0 2 20 0 1|2 3 1 1 0");
        plan("long 02 01", 1, "4 4 1 0 2 1 1 0 |0 1 5 0 0|1 2 6 0 0|0 2 1 0 1|2 3 1 1 0");
        doc.says("ends a b is setEnds(a, b),");
        plan("ends 2 1", 1, "4 4 1 2 1 6 1 0 |0 1 5 0 0|1 2 6 0 1|0 2 20 0 0|2 3 1 1 0");
        plan("ends 00 03", 1,
                "4 4 1 0 3 -999 -999 0 |0 1 5 0 0|1 2 6 0 0|0 2 20 0 0|2 3 1 1 0");
        doc.says("turn is setEnds(the goal, the start).");
        plan("turn", 1, "4 4 1 2 0 11 2 0 |0 1 5 0 1|1 2 6 0 1|0 2 20 0 0|2 3 1 1 0");
        plan("turn turn", 2, Towns.SAMPLE_STATE);
        plan("ends 1 3 turn", 2,
                "4 4 1 3 1 -999 -999 0 |0 1 5 0 0|1 2 6 0 0|0 2 20 0 0|2 3 1 1 0");
        doc.says("Returns the number of commands that are done.");
        plan("turn ".repeat(27) + "turn", 28, Towns.SAMPLE_STATE);
        plan("turn open 0 long 0 5 close 3 ends 0 2", 5, Towns.SAMPLE_STATE);
        ClosedStreets full = Towns.full();
        Towns.write(full, "close 19 close 09 long 19 42");
        Due.is("runPlan() on 20 streets", 3, full.runPlan());
        Due.is("street(19, 2)", 42, full.street(19, 2));
        Due.is("closed ones", 2, full.about(2));
    }

    private static void planStops(Doc doc) {
        doc.says("It stops ahead of the first one that would throw an exception.");
        for (String refused : new String[] {"open 4", "open 99", "close 4", "close 20",
            "long 4 1", "long 0 0", "long 00 00", "long 4 0", "ends 4 0", "ends 0 4", "ends 1 1",
            "ends 9 9", "ends 10 0", "ends 0 99", "ends 0 00"}) {
            plan(refused, 0, Towns.SAMPLE_STATE);
            plan(refused + " turn", 0, Towns.SAMPLE_STATE);
            plan("turn " + refused + " turn", 1,
                    "4 4 1 2 0 11 2 0 |0 1 5 0 1|1 2 6 0 1|0 2 20 0 0|2 3 1 1 0");
        }
        plan("long 0 10 close 1 close 4 close 2", 2,
                "4 4 2 0 2 20 1 1 |0 1 10 0 0|1 2 6 1 0|0 2 20 0 1|2 3 1 1 0");
        ClosedStreets none = new ClosedStreets();
        Towns.write(none, "turn open 0 turn");
        Due.is("runPlan() without streets", 1, none.runPlan());
    }

    private static void planIsOneAction(Doc doc) {
        doc.says("All together is one action, also if no command is done.");
        plan("", 0, Towns.SAMPLE_STATE);
        plan("open 4", 0, Towns.SAMPLE_STATE);
        ClosedStreets x = Towns.sample();
        x.addCrossing();
        Towns.write(x, "turn close 0 turn long 0 9");
        Due.is("runPlan()", 4, x.runPlan());
        x.clearText();
        Due.is("runPlan() of no command", 0, x.runPlan());
        Due.is("undo() of no command", 2, x.undo());
        Due.is("street(0, 2)", 9, x.street(0, 2));
        Due.is("undo() of four commands", 1, x.undo());
        Due.is("street(0, 2)", 5, x.street(0, 2));
        Due.is("street(0, 3)", 0, x.street(0, 3));
        doc.says("The text stays.");
        Towns.write(x, "turn open 9");
        Due.is("runPlan()", 1, x.runPlan());
        Due.is("errorPosition(true)", NONE, x.errorPosition(true));
        Due.is("runPlan() again", 1, x.runPlan());
        Due.is("start", 0, x.about(3));
        Due.is("clearText()", 11, x.clearText());
        doc.says("Throws IllegalStateException if the text is not a plan");
        for (String text : new String[] {"turn ", " turn", "turm", "T201", "open", "turn  turn",
            "open 100", "close 0 turn clos"}) {
            Towns.write(x, text);
            Due.notNow("runPlan() of '" + text + "'", x::runPlan);
        }
        Due.is("closed ones behind wrong plans", 1, x.about(2));
        Due.is("undo() behind wrong plans", 2, x.undo());
    }

    private static void undo() {
        Doc doc = Doc.promise(18);
        doc.says("Takes back the last action that is remembered.");
        ClosedStreets x = Towns.sample();
        x.addCrossing();
        x.close(0, true);
        x.undo();
        Due.is("street(0, 3)", 0, x.street(0, 3));
        Due.is("crossings", 5, x.about(0));
        x.undo();
        Due.row("state", Towns.state(x), Towns.SAMPLE_STATE);
        Due.missing("crossing(4, 0)", () -> x.crossing(4, 0));
        x.addStreet(0, 3, 1);
        x.undo();
        Due.is("between(0, 3)", NONE, x.between(0, 3));
        Due.missing("street(4, 0)", () -> x.street(4, 0));
        x.setEnds(1, 2);
        x.undo();
        Due.is("ways(11)", 1, x.ways(11));
        doc.says("Returns how many states are still remembered.");
        for (int i = 0; i < 20; i++) {
            x.setLength(0, 50 + i);
        }
        for (int left = 13; left >= 0; left--) {
            Due.is("undo()", left, x.undo());
            Due.is("street(0, 2)", 55 + left, x.street(0, 2));
        }
        doc.says("Throws IllegalStateException if none is remembered");
        Due.notNow("undo() of the 15th action", x::undo);
        Due.notNow("undo() of a new object", new ClosedStreets()::undo);
        Due.is("street(0, 2)", 55, x.street(0, 2));
        x.setLength(0, 5);
        Due.is("undo()", 0, x.undo());
        Due.notNow("undo() of undo()", x::undo);
        doc.isTested();
    }
}
