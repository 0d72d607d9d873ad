/** Promises 28 and 29, sentence by sentence: save slots. */
public final class SlotsTest {
    private static final String NO_SLOT =
            "Throws IndexOutOfBoundsException if there is no such save slot";

    public static void main(String[] args) {
        save();
        Doc doc = Doc.promise(29);
        restore(doc);
        emptySlots(doc);
        doc.isTested();
        Due.end();
    }

    private static void save() {
        Doc doc = Doc.promise(28);
        doc.says("Stores the present state in a save slot.");
        ClosedStreets x = Towns.sample();
        x.save(0);
        x.setEnds(1, 3);
        x.addCrossing();
        x.save(1);
        x.removeStreet(0);
        Due.is("restore(0)", 4, x.restore(0));
        Due.row("state of slot 0", Towns.state(x), Towns.SAMPLE_STATE);
        x.close(0, true);
        x.save(0);
        Due.is("restore(0)", 4, x.restore(0));
        Due.is("street(0, 3) of slot 0, saved again", 1, x.street(0, 3));
        doc.says("- slot: 0 or 1");
        Due.is("restore(1)", 4, x.restore(1));
        Due.row("state of slot 1", Towns.state(x),
                "5 4 1 1 3 -999 -999 0 |0 1 5 0 0|1 2 6 0 0|0 2 20 0 0|2 3 1 1 0");
        doc.says("Returns the number of streets.");
        Due.is("save(1) of a new object", 0, new ClosedStreets().save(1));
        Due.is("save(0) of 4", 4, Towns.sample().save(0));
        Due.is("save(1) of 20", 20, Towns.full().save(1));
        ClosedStreets y = Towns.sample();
        y.setLength(0, 6);
        Due.is("save(0)", 4, y.save(0));
        Due.is("undo(): save is no action and forgets nothing", 0, y.undo());
        doc.says(NO_SLOT);
        Due.eachMissing("save", x::save, -1, 2, Due.LEAST, Due.GREATEST);
        doc.isTested();
    }

    private static void restore(Doc doc) {
        doc.says("Replaces the state by the one in a save slot, and forgets all remembered"
                + " states.");
        ClosedStreets x = Towns.sample();
        x.save(1);
        x.addCrossing();
        x.addStreet(4, 0, 9);
        x.setLength(1, 99);
        x.close(3, false);
        x.setEnds(3, 4);
        Towns.write(x, "turn");
        x.restore(1);
        Due.row("state behind restore(1)", Towns.state(x), Towns.SAMPLE_STATE);
        Due.missing("street(4, 0) behind restore(1)", () -> x.street(4, 0));
        Due.missing("crossing(4, 0) behind restore(1)", () -> x.crossing(4, 0));
        Due.notNow("undo() behind restore(1)", x::undo);
        Due.is("clearText(): the text stays", 4, x.clearText());
        x.addCrossing();
        Due.is("undo() of one action", 0, x.undo());
        doc.says("The save slot keeps it.");
        for (int times = 0; times < 3; times++) {
            x.close(0, true);
            x.removeStreet(1);
            Due.is("restore(1)", 4, x.restore(1));
            Due.row("state behind restore(1)", Towns.state(x), Towns.SAMPLE_STATE);
        }
        doc.says("- slot: 0 or 1");
        x.removeStreet(0);
        x.save(0);
        Due.is("restore(1)", 4, x.restore(1));
        Due.is("restore(0)", 3, x.restore(0));
        doc.says("Returns the number of streets then.");
        ClosedStreets y = Towns.full();
        y.save(0);
        y.removeStreet(19);
        Due.is("restore(0) of 20", 20, y.restore(0));
        ClosedStreets none = new ClosedStreets();
        none.save(1);
        none.addStreet(0, 1, 1);
        Due.is("restore(1) of none", 0, none.restore(1));
        doc.says(NO_SLOT);
        Due.eachMissing("restore", x::restore, -1, 2, Due.LEAST, Due.GREATEST);
        Due.eachMissing("restore with nothing saved", new ClosedStreets()::restore, -1, 2);
    }

    private static void emptySlots(Doc doc) {
        doc.says("Throws IllegalStateException if nothing has been saved in it since the last"
                + " load");
        ClosedStreets x = new ClosedStreets();
        x.addCrossing();
        Due.notNow("restore(0) of a new object", () -> x.restore(0));
        Due.notNow("restore(1) of a new object", () -> x.restore(1));
        Due.is("crossings behind it", 3, x.about(0));
        Due.is("undo() behind it", 0, x.undo());
        x.save(0);
        Due.notNow("restore(1) with slot 0 filled", () -> x.restore(1));
        Due.is("restore(0)", 0, x.restore(0));
        x.save(1);
        Towns.write(x, "T201s0101");
        x.load();
        Due.notNow("restore(0) behind load()", () -> x.restore(0));
        Due.notNow("restore(1) behind load()", () -> x.restore(1));
        x.save(1);
        Due.notNow("restore(0) with slot 1 filled", () -> x.restore(0));
        Due.is("restore(1)", 1, x.restore(1));
        Towns.write(x, "T20");
        Due.notNow("load() of no town", x::load);
        Due.is("restore(1) behind a load() that is refused", 1, x.restore(1));
    }
}
