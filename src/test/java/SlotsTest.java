/** Promises 28 and 29: save slots. */
public final class SlotsTest {
    public static void main(String[] args) {
        ClosedStreets x = Due.town("T402s0105s1206s0220s2301x");
        String first = Due.state(x);
        Due.notNow("restore(0) ahead of save(0)", () -> x.restore(0));
        Due.is("save(0)", 4, x.save(0));
        Due.notNow("undo(): save is no action", x::undo);
        Due.notNow("restore(1) with slot 0 filled", () -> x.restore(1));
        x.removeStreet(0);
        x.addCrossing();
        x.setEnds(4, 3);
        String second = Due.state(x);
        Due.is("save(1)", 3, x.save(1));
        x.removeStreet(0);
        x.close(1, true);
        Due.is("restore(1)", 3, x.restore(1));
        Due.row("state behind restore(1)", Due.state(x), second);
        Due.notNow("undo() behind restore(1)", x::undo);
        x.setLength(0, 77);
        Due.is("restore(0)", 4, x.restore(0));
        Due.row("state behind restore(0)", Due.state(x), first);
        Due.notNow("undo() behind restore(0)", x::undo);
        x.close(0, true);
        x.setLength(1, 99);
        Due.is("restore(0): the slot keeps it", 4, x.restore(0));
        Due.row("state behind restore(0) again", Due.state(x), first);
        x.removeStreet(3);
        Due.is("save(0) over another", 3, x.save(0));
        Due.is("undo(): save keeps what is remembered", 0, x.undo());
        Due.is("restore(0)", 3, x.restore(0));
        wrongSlots(x);
        textStays();
        Due.end();
    }

    private static void wrongSlots(ClosedStreets x) {
        x.addCrossing();
        String before = Due.state(x);
        Due.missing("save(-1)", () -> x.save(-1));
        Due.missing("save(2)", () -> x.save(2));
        Due.missing("restore(-1)", () -> x.restore(-1));
        Due.missing("restore(2)", () -> x.restore(2));
        Due.row("state behind wrong slots", Due.state(x), before);
        Due.is("undo() behind wrong slots", 0, x.undo());
        ClosedStreets none = new ClosedStreets();
        none.addCrossing();
        Due.notNow("restore(1) of nothing", () -> none.restore(1));
        Due.is("undo() behind a restore that throws", 0, none.undo());
    }

    private static void textStays() {
        ClosedStreets x = new ClosedStreets();
        Due.is("save(1) of a new object", 0, x.save(1));
        Due.write(x, "turn");
        Due.is("runPlan()", 1, x.runPlan());
        Due.is("restore(1)", 0, x.restore(1));
        Due.is("start behind restore(1)", 0, x.about(3));
        Due.is("clearText(): the text stays", 4, x.clearText());
    }
}
