/** TEXT and promises 1 to 5, sentence by sentence. */
public final class TextTest {
    private static final int NONE = ClosedStreets.NONE;
    private static final int BLANK = 32;

    public static void main(String[] args) {
        newObject();
        append();
        clearText();
        Doc text = Doc.part("TEXT", "ACTIONS AND UNDO");
        text.says("The object has a text buffer of at most 140 characters.");
        ClosedStreets full = new ClosedStreets();
        Towns.write(full, "x".repeat(140));
        Due.notNow("append to 140 characters", () -> full.append('x'));
        Due.is("clearText()", 140, full.clearText());
        townHead(text);
        townStreets(text);
        townLengths(text);
        townFull(text);
        planForm(text);
        planBlanks(text);
        planNumbers(text);
        errors(text);
        endsTooSoon(text);
        text.isTested();
        errorPosition();
        load();
        Due.end();
    }

    private static void newObject() {
        Doc doc = Doc.promise(1);
        doc.says("Creates a town of 2 crossings without streets.");
        ClosedStreets x = new ClosedStreets();
        Due.row("state", Towns.state(x), Towns.NEW_STATE);
        Due.is("middle()", NONE, x.middle());
        Due.is("simulate(1, 60)", 6000000, x.simulate(1, 60));
        Due.is("clearText()", 0, x.clearText());
        Due.notNow("undo()", x::undo);
        Due.notNow("restore(0)", () -> x.restore(0));
        Due.notNow("restore(1)", () -> x.restore(1));
        doc.isTested();
    }

    private static void append() {
        Doc doc = Doc.promise(2);
        doc.says("Appends a character to the text buffer.");
        ClosedStreets x = new ClosedStreets();
        x.append('t');
        Due.is("errorPosition(true) of t", 1, x.errorPosition(true));
        x.append('u');
        Due.is("errorPosition(true) of tu", 2, x.errorPosition(true));
        x.append('o');
        Due.is("errorPosition(true) of tuo", 2, x.errorPosition(true));
        doc.says("- c: character code, 0 to 255");
        ClosedStreets codes = new ClosedStreets();
        for (int c = 0; c <= 255; c++) {
            codes.clearText();
            Due.is("append(" + c + ")", 1, codes.append(c));
        }
        doc.says("Returns the new length of the text.");
        codes.clearText();
        for (int length = 1; length <= 140; length++) {
            Due.is("append(32)", length, codes.append(32));
        }
        doc.says("Throws IllegalArgumentException if c is out of range");
        Due.eachOutOfRange("append", x::append, -1, 256, 65536 + 'r', Due.LEAST, Due.GREATEST);
        Due.eachOutOfRange("append to 140 characters", codes::append, -1, 256);
        Due.is("clearText(): three characters as before", 3, x.clearText());
        doc.says("Throws IllegalStateException if the text already has 140 characters");
        Due.notNow("append(0) to 140 characters", () -> codes.append(0));
        Due.notNow("append(255) to 140 characters", () -> codes.append(255));
        Due.is("clearText()", 140, codes.clearText());
        Due.is("append(0) behind clearText()", 1, codes.append(0));
        doc.isTested();
    }

    private static void clearText() {
        Doc doc = Doc.promise(3);
        doc.says("Empties the text buffer.");
        ClosedStreets x = new ClosedStreets();
        Towns.write(x, "x");
        x.clearText();
        Due.is("errorPosition(true) of no text", NONE, x.errorPosition(true));
        Due.is("append behind clearText()", 1, x.append('t'));
        Due.is("errorPosition(true) of t", 1, x.errorPosition(true));
        doc.says("Returns the previous length of the text.");
        Due.is("clearText() of 1", 1, x.clearText());
        Due.is("clearText() of none", 0, x.clearText());
        Towns.write(x, "x".repeat(139));
        Due.is("clearText() of 139", 139, x.clearText());
        doc.isTested();
    }

    private static void error(boolean plan, String text, int want) {
        ClosedStreets x = new ClosedStreets();
        Towns.write(x, text);
        Due.is("errorPosition(" + plan + ") of '" + text + "'", want, x.errorPosition(plan));
        Due.is("clearText() behind errorPosition", text.length(), x.clearText());
        Due.row("state behind errorPosition", Towns.state(x), Towns.NEW_STATE);
    }

    private static void town(String text, int want) {
        error(false, text, want);
    }

    private static void plan(String text, int want) {
        error(true, text, want);
    }

    private static void townHead(Doc doc) {
        doc.says("A town is the letter T,");
        town("T201", NONE);
        town("t201", 0);
        town("201", 0);
        town(" T201", 0);
        town("S201", 0);
        town("U201", 0);
        doc.says("a digit from 2 to 9 for the number of crossings,");
        town("T901", NONE);
        town("T301", NONE);
        town("T801", NONE);
        town("T101", 1);
        town("T001", 1);
        town("T:01", 1);
        town("T/01", 1);
        town("Tx01", 1);
        town("TT01", 1);
        doc.says("a digit for the start,");
        town("T910", NONE);
        town("T981", NONE);
        town("T21", 3);
        town("T221", 2);
        town("T231", 2);
        town("T891", 2);
        town("T9:1", 2);
        town("T9/1", 2);
        town("T9x1", 2);
        doc.says("one for the goal (another one),");
        town("T210", NONE);
        town("T918", NONE);
        town("T200", 3);
        town("T211", 3);
        town("T988", 3);
        town("T202", 3);
        town("T819", 3);
        town("T90:", 3);
        town("T91/", 3);
        town("T90s", 3);
        doc.says("and then any number of streets:");
        town("T201", NONE);
        town("T201s0101", NONE);
        town("T301s0101s0201", NONE);
        town(Towns.twentyStreets("T901", "01"), NONE);
    }

    private static void townStreets(Doc doc) {
        doc.says("the letter s,");
        town("T201S0101", 4);
        town("T201r0101", 4);
        town("T201t0101", 4);
        town("T2010101", 4);
        town("T201x", 4);
        town("T301s0101S", 9);
        town("T301s0101xx", 10);
        town("T301s01011", 9);
        doc.says("a digit for each of its crossings (the first one not joined with all others by"
                + " streets told ahead;");
        town("T401s3001", NONE);
        town("T201s2001", 5);
        town("T801s8001", 5);
        town("T201s:001", 5);
        town("T201s/001", 5);
        town("T201sx001", 5);
        town("T301s0101s1001", 11);
        town("T301s0101s0201s0101", 15);
        town("T301s0101xs0201xs01", 17);
        town("T301s0101s0201s1201", NONE);
        town("T301s1001s2001s0101", 15);
        town("T401s0101s0201s0301s0", 20);
        town("T401s3001s3101s3201s3", 20);
        town("T401s3001s3101s3", 16);
        town("T901s0101s0201s0301s0401s0501s0601s0701s0801", NONE);
        town("T901s0101s0201s0301s0401s0501s0601s0701s0801s0", 45);
        town("T901s8001s8101s8201s8301s8401s8501s8601s8", 41);
        doc.says("the second one other than the first, and not joined with it by one of them),");
        town("T201s1001", NONE);
        town("T201s0001", 6);
        town("T901s8801", 6);
        town("T201s0201", 6);
        town("T801s0801", 6);
        town("T201s0:01", 6);
        town("T201s0/01", 6);
        town("T301s0101s01", 11);
        town("T301s0101s10", 11);
        town("T301s1001s01", 11);
        town("T301s0101xs01", 12);
        town("T301s0101s0201s10", 16);
        town("T401s0101s2301s3201", 16);
    }

    private static void townLengths(Doc doc) {
        doc.says("two digits from 01 to 99 for its length,");
        town("T201s0101", NONE);
        town("T201s0109", NONE);
        town("T201s0110", NONE);
        town("T201s0190", NONE);
        town("T201s0199", NONE);
        town("T201s0100", 8);
        town("T201s01100", 9);
        town("T201s011", 8);
        town("T201s011s", 8);
        town("T201s010x", 8);
        town("T201s010:", 8);
        town("T201s010/", 8);
        town("T201s01:1", 7);
        town("T201s01/1", 7);
        town("T201s01x", 7);
        doc.says("and perhaps an x (it is closed).");
        town("T201s0101x", NONE);
        town("T301s0101xs0201x", NONE);
        town("T201s0101X", 9);
        town("T201s0101y", 9);
        town("T201s0101w", 9);
        town("T201s0101xx", 10);
        ClosedStreets x = Towns.of("T301s0101xs0201");
        Due.is("street(0, 3)", 1, x.street(0, 3));
        Due.is("street(1, 3)", 0, x.street(1, 3));
    }

    private static void townFull(Doc doc) {
        doc.says("An s is not allowed behind 20 streets, or if every two crossings are joined.");
        String twenty = Towns.twentyStreets("T901", "07x");
        town(twenty, NONE);
        town(twenty + "s", 124);
        town(twenty + "s7801", 124);
        town(twenty.substring(0, 118), NONE);
        town(twenty.substring(0, 118) + "s7801", NONE);
        town(twenty.substring(0, 118) + "s7801s", 123);
        town(twenty.substring(0, 118) + "s7801xs", 124);
        town("T201s0101s", 9);
        town("T201s0101xs", 10);
        town("T301s0101s0201s1201", NONE);
        town("T301s0101s0201s1201s", 19);
        town("T301s0101xs0201xs1201xs", 22);
        town("T401s0101s0201s0301s1201s1301s", 30);
        town("T401s0101s0201s0301s1201s1301s2301", NONE);
        town("T401s0101s0201s0301s1201s1301s2301s", 34);
        StringBuilder six = new StringBuilder("T601");
        for (int a = 0; a < 6; a++) {
            for (int b = a + 1; b < 6; b++) {
                six.append('s').append(a).append(b).append("50");
            }
        }
        town(six.toString(), NONE);
        town(six + "s", 79);
        doc.says("There are no blanks.");
        town("T 201", 1);
        town("T201 ", 4);
        town("T201 s0101", 4);
        town("T201s 0101", 5);
        town("T201s01 01", 7);
        town("T201s0101 ", 9);
        town("T201s0101 x", 9);
        town("T201s0101x ", 10);
    }

    private static void planForm(Doc doc) {
        doc.says("A plan is any number of commands (perhaps none), each of them a word and its"
                + " numbers,");
        plan("", NONE);
        plan("turn", NONE);
        plan("turn turn", NONE);
        plan("open 1", NONE);
        plan("close 1 open 2 turn long 3 4 ends 5 6 close 7", NONE);
        plan("turn ".repeat(27) + "turn", NONE);
        plan("open 1 ".repeat(19) + "open 1", NONE);
        plan("1", 0);
        plan("turn 1", 5);
        plan("open turn", 5);
        plan("open 1 2", 7);
        plan("close 1 2", 8);
        plan("long 1 turn", 7);
        plan("long 1 2 3", 9);
        plan("ends turn", 5);
        plan("ends 1 turn", 7);
        plan("ends 1 2 3", 9);
        plan("T201", 0);
        doc.says("The words are: open s; close s; long s n; ends a b; turn.");
        for (String told : new String[] {"open 3", "close 3", "long 3 4", "ends 3 4", "turn"}) {
            plan(told, NONE);
            plan(told + " " + told, NONE);
            plan(told.toUpperCase(), 0);
            for (int length = 1; length < told.length(); length++) {
                plan(told.substring(0, length), length);
            }
        }
        String[] wrongWords = {"opem 1", "closd 1", "lonh 1 1", "endt 1 1", "turm", "a", "shut 1",
            "go", "undo", "x", "pen 1", "urn", "nd"};
        int[] due = {3, 4, 3, 3, 3, 0, 0, 0, 0, 0, 0, 0, 0};
        for (int i = 0; i < due.length; i++) {
            plan(wrongWords[i], due[i]);
            plan("turn " + wrongWords[i], 5 + due[i]);
        }
    }

    private static void planBlanks(Doc doc) {
        doc.says("behind each word and each number but the last one of the plan just one blank"
                + " (the character 32);");
        plan("open" + (char) BLANK + "1" + (char) BLANK + "turn", NONE);
        plan("turn  turn", 5);
        plan("open  1", 5);
        plan("long 1  2", 7);
        plan("open 1  turn", 7);
        plan("long 1 2  turn", 9);
        plan(" turn", 0);
        plan(" ", 0);
        plan("turnturn", 4);
        plan("open1", 4);
        plan("close1", 5);
        plan("ends 1,2", 6);
        plan("open 1turn", 6);
        plan("open 12turn", 7);
        for (char c : new char[] {0, 9, 10, 31, 33, 95, 160, 255}) {
            plan("open" + c + "1", 4);
            plan("open 1" + c + "turn", 6);
            plan("turn" + c + "turn", 4);
            plan("long 1" + c + "2", 6);
        }
        doc.says("the last one ends the text.");
        plan("turn ", 5);
        plan("open 1 ", 7);
        plan("close 12 ", 9);
        plan("long 1 2 ", 9);
        plan("ends 1 2 ", 9);
        plan("turn  ", 5);
        plan("turn turn ", 10);
        plan("turn" + (char) 0, 4);
        plan("turn.", 4);
        plan("turn ".repeat(28), 140);
    }

    private static void planNumbers(Doc doc) {
        doc.says("The numbers are rows of one or two digits (05 is 5).");
        plan("open 0", NONE);
        plan("open 9", NONE);
        plan("open 00", NONE);
        plan("open 99", NONE);
        plan("open 100", 7);
        plan("open 005", 7);
        plan("open ", 5);
        plan("open -1", 5);
        plan("open +1", 5);
        plan("open /", 5);
        plan("open :", 5);
        plan("open 1:", 6);
        plan("open 1/", 6);
        plan("open 1x", 6);
        plan("open 12:", 7);
        plan("long 12 34", NONE);
        plan("long 123 1", 7);
        plan("long 1 ", 7);
        plan("long 1 x", 7);
        plan("long 1 234", 9);
        plan("ends 12 345", 10);
        ClosedStreets x = Towns.sample();
        Towns.write(x, "long 00 09 long 01 20 close 02 ends 03 01");
        Due.is("runPlan()", 4, x.runPlan());
        Due.row("state", Towns.state(x),
                "4 4 2 3 1 -999 -999 0 |0 1 9 0 0|1 2 20 0 0|0 2 20 1 0|2 3 1 1 0");
        doc.says("A number that is out of its range is no error.");
        plan("open 20", NONE);
        plan("close 99", NONE);
        plan("long 99 00", NONE);
        plan("long 0 0", NONE);
        plan("ends 9 9", NONE);
        plan("ends 10 99", NONE);
    }

    private static void errors(Doc doc) {
        doc.says("The text is read from left to right.");
        town("T201s0100s0000", 8);
        town("T101s0000", 1);
        plan("open x turm", 5);
        plan("turm open x", 3);
        town("T301s0201s2001s0301", 11);
        doc.says("The error position is the index of the first character that these rules do not"
                + " allow at its place");
        town("x", 0);
        town("T201s0101" + (char) 255, 9);
        town("T90" + (char) 128, 3);
        town("T" + (char) ('2' + 128), 1);
        plan("x", 0);
        plan("" + (char) 0, 0);
        plan("turn" + (char) 255, 4);
        plan("open 1" + (char) ('1' + 128), 6);
        doc.says("(of a word: at which no word begins with it and the letters before it;");
        plan("tx", 1);
        plan("oc", 1);
        plan("clo e", 3);
        plan("lon 1", 3);
        plan("enss", 2);
        plan("turn lurn", 6);
        plan("opening", 4);
        plan("closed 1", 5);
        plan("turn tpen", 6);
        doc.says("of a digit in a town: if no number that is allowed begins with it and those"
                + " before it);");
        town("T201s010", 8);
        town("T201s0100", 8);
        town("T201s019", 8);
        town("T0", 1);
        town("T1", 1);
        town("T33", 2);
        town("T322", 3);
    }

    private static void endsTooSoon(Doc doc) {
        doc.says("if the text ends too soon, it is the length of the text.");
        String whole = "T301s0105";
        for (int length = 0; length < whole.length(); length++) {
            if (length != 4) {
                town(whole.substring(0, length), length);
            }
        }
        town("T301s0105xs", 11);
        plan("t", 1);
        plan("turn o", 6);
        plan("turn open", 9);
        plan("long 12", 7);
        plan("turn ".repeat(27) + "long", 139);
        plan("turn ".repeat(26) + "turn open", 139);
        plan("turn ".repeat(26) + "turn close", 140);
        plan("turn ".repeat(26) + "long 12 34", NONE);
        plan("turn ".repeat(26) + "long 12 3", NONE);
        plan("turn ".repeat(26) + "long 12 3 ", 140);
    }

    private static void errorPosition() {
        Doc doc = Doc.promise(4);
        doc.says("Checks the text.");
        ClosedStreets x = new ClosedStreets();
        Towns.write(x, "T201");
        Due.is("errorPosition(false)", NONE, x.errorPosition(false));
        Due.is("errorPosition(false) again", NONE, x.errorPosition(false));
        Due.is("clearText() behind it", 4, x.clearText());
        doc.says("- plan: whether it is to be a plan, or a town");
        Towns.write(x, "turn");
        Due.is("errorPosition(true) of a plan", NONE, x.errorPosition(true));
        Due.is("errorPosition(false) of a plan", 0, x.errorPosition(false));
        Towns.write(x, "T201");
        Due.is("errorPosition(true) of a town", 0, x.errorPosition(true));
        doc.says("Returns the error position of the text; NONE if it is a plan, or a town.");
        plan("", NONE);
        town("", 0);
        plan("turn ", 5);
        town("T2", 2);
        doc.isTested();
    }

    private static void load() {
        Doc doc = Doc.promise(5);
        doc.says("Replaces everything by the town of the text.");
        ClosedStreets x = Towns.of("T302s0110s1220xs0250");
        x.addCrossing();
        x.save(0);
        x.save(1);
        Towns.write(x, "T412s3005s2105xs3299");
        Due.is("load()", 3, x.load());
        Due.row("state behind load()", Towns.state(x),
                "4 3 1 1 2 -999 -999 0 |0 3 5 0 0|1 2 5 1 0|2 3 99 0 0");
        doc.says("Forgets all remembered states and empties both save slots.");
        Due.notNow("undo()", x::undo);
        Due.notNow("restore(0)", () -> x.restore(0));
        Due.notNow("restore(1)", () -> x.restore(1));
        x.addCrossing();
        Due.is("undo() of one action", 0, x.undo());
        doc.says("Keeps the text.");
        Due.is("errorPosition(false)", NONE, x.errorPosition(false));
        Due.is("load() again", 3, x.load());
        Due.is("clearText()", 20, x.clearText());
        doc.says("Returns the number of streets.");
        Due.is("load() without streets", 0, loaded("T201"));
        Due.is("load() with one", 1, loaded("T901s7899x"));
        Due.is("load() with 20", 20, loaded(Towns.twentyStreets("T901", "50x")));
        doc.says("Throws IllegalStateException if the text is not a town");
        for (String text : new String[] {"", "turn", "T", "T20", "T201s", "T201s0101s", "t201",
            "T201 ", "T201s0100"}) {
            Due.notNow("load() of '" + text + "'", () -> loaded(text));
        }
        doc.isTested();
    }

    private static int loaded(String text) {
        ClosedStreets x = new ClosedStreets();
        Towns.write(x, text);
        return x.load();
    }
}
