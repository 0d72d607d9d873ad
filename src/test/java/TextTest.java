/** Promises 1 to 5: a new object, the text buffer, the error position, load. */
public final class TextTest {
    public static void main(String[] args) {
        newObject();
        appending();
        clearing();
        towns();
        plans();
        loading();
        Due.end();
    }

    private static void newObject() {
        ClosedStreets x = new ClosedStreets();
        Due.is("NONE", -999, ClosedStreets.NONE);
        Due.row("state of a new object", Due.state(x), "2 0 0 0 1 -999 -999 0 ");
        Due.is("clearText() of a new object", 0, x.clearText());
        Due.notNow("undo() of a new object", x::undo);
        Due.notNow("restore(0) of a new object", () -> x.restore(0));
        Due.notNow("restore(1) of a new object", () -> x.restore(1));
    }

    private static void appending() {
        ClosedStreets x = new ClosedStreets();
        Due.is("append(0)", 1, x.append(0));
        Due.is("append(255)", 2, x.append(255));
        Due.outOfRange("append(-1)", () -> x.append(-1));
        Due.outOfRange("append(256)", () -> x.append(256));
        Due.outOfRange("append(65620)", () -> x.append(65536 + 'T'));
        for (int i = 3; i <= 140; i++) {
            Due.is("append(32)", i, x.append(32));
        }
        Due.notNow("append(32) to 140 characters", () -> x.append(32));
        Due.outOfRange("append(256) to 140 characters", () -> x.append(256));
        Due.outOfRange("append(-1) to 140 characters", () -> x.append(-1));
        Due.is("clearText()", 140, x.clearText());
    }

    private static void clearing() {
        ClosedStreets x = new ClosedStreets();
        Due.write(x, "turn");
        Due.is("clearText()", 4, x.clearText());
        Due.is("clearText()", 0, x.clearText());
        Due.is("append", 1, x.append('t'));
        Due.is("errorPosition(true)", 1, x.errorPosition(true));
    }

    private static void error(boolean plan, String text, int want) {
        ClosedStreets x = new ClosedStreets();
        Due.write(x, text);
        Due.is("errorPosition(" + plan + ") of '" + text + "'", want, x.errorPosition(plan));
        Due.is("clearText() behind errorPosition", text.length(), x.clearText());
        Due.row("state behind errorPosition", Due.state(x), "2 0 0 0 1 -999 -999 0 ");
    }

    private static void towns() {
        int none = ClosedStreets.NONE;
        error(false, "", 0);
        error(false, "t", 0);
        error(false, "T", 1);
        error(false, "T1", 1);
        error(false, "T9", 2);
        error(false, "T:", 1);
        error(false, "T20", 3);
        error(false, "T22", 2);
        error(false, "T200", 3);
        error(false, "T202", 3);
        error(false, "T201", none);
        error(false, "T210", none);
        error(false, "T987", none);
        error(false, "T20 1", 3);
        error(false, "T201 ", 4);
        error(false, "T201x", 4);
        error(false, "T201s", 5);
        error(false, "T201s2", 5);
        error(false, "T201s0", 6);
        error(false, "T201s00", 6);
        error(false, "T201s01", 7);
        error(false, "T201s010", 8);
        error(false, "T201s0100", 8);
        error(false, "T201s01x", 7);
        error(false, "T201s010x", 8);
        error(false, "T201s0101", none);
        error(false, "T201s1099", none);
        error(false, "T201s0190", none);
        error(false, "T201s01100", 9);
        error(false, "T201s0101x", none);
        error(false, "T201s0101xx", 10);
        error(false, "T201s0101X", 9);
        error(false, "T201s0101s", 9);
        error(false, "T201s0101xs", 10);
        error(false, "T301s0101s0", 11);
        error(false, "T301s0101s10", 11);
        error(false, "T301s0101xs01", 12);
        error(false, "T301s0101s0202s0", 15);
        error(false, "T301s0101s0202s1", 16);
        error(false, "T301s0101s0202s1203", none);
        error(false, "T301s0101s0202s1203s", 19);
        error(false, "T301s0101s0202s1203x", none);
        error(false, "T301s0101s0202s1203xs", 20);
        String twenty = "T901";
        for (int a = 0; a < 4; a++) {
            for (int k = 1; k <= 5; k++) {
                twenty += "s" + a + (a + k) + "07x";
            }
        }
        error(false, twenty, none);
        error(false, twenty + "s", 124);
        error(false, twenty + "x", 124);
        error(false, twenty.substring(0, 123) + "s", 123);
        error(false, twenty.substring(0, 118) + "s7807s", 123);
        error(false, "T901" + (char) 0, 4);
        error(false, "T90" + (char) 255, 3);
    }

    private static void plans() {
        int none = ClosedStreets.NONE;
        error(true, "", none);
        error(true, " ", 0);
        error(true, "turn", none);
        error(true, "tur", 3);
        error(true, "turx", 3);
        error(true, "Turn", 0);
        error(true, "turn ", 5);
        error(true, "turn  turn", 5);
        error(true, "turnturn", 4);
        error(true, "turn turn", none);
        error(true, "turn 1", 5);
        error(true, "o", 1);
        error(true, "on", 1);
        error(true, "open", 4);
        error(true, "open1", 4);
        error(true, "open ", 5);
        error(true, "open  1", 5);
        error(true, "open x", 5);
        error(true, "open 1", none);
        error(true, "open 99", none);
        error(true, "open 00", none);
        error(true, "open 100", 7);
        error(true, "open 1 ", 7);
        error(true, "open 1x", 6);
        error(true, "open 1 2", 7);
        error(true, "open 1" + (char) 9 + "turn", 6);
        error(true, "close 05 open 7 turn", none);
        error(true, "close", 5);
        error(true, "closed 1", 5);
        error(true, "cl ose", 2);
        error(true, "long 1", 6);
        error(true, "long 1 ", 7);
        error(true, "long 1 2", none);
        error(true, "long 12 99", none);
        error(true, "long 12 100", 10);
        error(true, "long 123 1", 7);
        error(true, "long 1 turn", 7);
        error(true, "ends 1 2 ends 2 1", none);
        error(true, "ends 1 2 3", 9);
        error(true, "ends 1  2", 7);
        error(true, "end", 3);
        error(true, "T201", 0);
        String turns = "turn";
        for (int i = 1; i < 26; i++) {
            turns += " turn";
        }
        error(true, turns + " turn turn", none);
        error(true, turns + " long 1 2", none);
        error(true, turns + " long 1 2 ", 139);
        error(true, turns + " turn open", 139);
        error(true, turns + " turn turnx", 139);
    }

    private static void loading() {
        ClosedStreets x = Due.town("T302s0110s1220xs0250");
        x.addCrossing();
        x.save(0);
        x.save(1);
        Due.write(x, "T412s0305s1205x");
        Due.is("load()", 2, x.load());
        Due.row("state behind load()", Due.state(x),
                "4 2 1 1 2 -999 -999 0 |0 3 5 0 0|1 2 5 1 0");
        Due.notNow("undo() behind load()", x::undo);
        Due.notNow("restore(0) behind load()", () -> x.restore(0));
        Due.notNow("restore(1) behind load()", () -> x.restore(1));
        Due.is("load() again", 2, x.load());
        x.append('s');
        x.save(1);
        x.close(1, false);
        String before = Due.state(x);
        Due.notNow("load() of a wrong text", x::load);
        Due.row("state behind a load() that throws", Due.state(x), before);
        Due.is("restore(1) behind a load() that throws", 2, x.restore(1));
        Due.is("clearText() behind load()", 16, x.clearText());
        Due.notNow("load() of no text", x::load);
        Due.write(x, "turn");
        Due.notNow("load() of a plan", x::load);
        Due.write(x, "T301s0101");
        x.addCrossing();
        Due.notNow("load() is no action, and undo is none", () -> {
            x.load();
            return x.undo();
        });
    }
}
