/** Promises 6 to 10, sentence by sentence: what the town tells of itself. */
public final class TownTest {
    private static final int NONE = ClosedStreets.NONE;
    private static final String NUMBER = "Returns that number.";

    public static void main(String[] args) {
        about();
        street();
        crossing();
        between();
        wayAt();
        Due.end();
    }

    // 0-1 (4), 1-2 (3), 2-3 (2), 0-2 (7), 1-3 (9), 3-4 (1, closed), 4-0 (1); from 0 to 3
    private static ClosedStreets sample() {
        return Towns.of("T503s0104s1203s2302s0207s1309s4301xs4001");
    }

    // 8 streets of 99 in a row
    private static ClosedStreets longest() {
        return Towns.of("T908s0199s1299s2399s3499s4599s5699s6799s7899");
    }

    private static void about() {
        Doc doc = Doc.promise(6);
        doc.says("Returns a number.");
        ClosedStreets x = sample();
        Due.inOrder("about", x::about, 5, 7, 1, 0, 3, 9, 2, 0);
        doc.says("- what: 0: the number of crossings;");
        Due.is("about(0) of the fewest", 2, new ClosedStreets().about(0));
        Due.is("about(0) of the most", 9, longest().about(0));
        doc.says("1: of streets;");
        Due.is("about(1) of none", 0, new ClosedStreets().about(1));
        Due.is("about(1) of the most", 20, Towns.full().about(1));
        doc.says("2: of closed ones;");
        Due.is("about(2) of no streets", 0, new ClosedStreets().about(2));
        Due.is("about(2) of none", 0, Towns.full().about(2));
        Due.is("about(2) of all", 20, Towns.of(Towns.twentyStreets("T901", "01x")).about(2));
        doc.says("3: the start; 4: the goal;");
        ClosedStreets ends = Towns.of("T987");
        Due.is("about(3) of the greatest", 8, ends.about(3));
        Due.is("about(4)", 7, ends.about(4));
        ends.setEnds(0, 8);
        Due.is("about(3) of the smallest", 0, ends.about(3));
        Due.is("about(4) of the greatest", 8, ends.about(4));
        doc.says("5: the length of the best way, NONE without one;");
        Due.is("about(5) of the shortest", 1, Towns.of("T210s0101").about(5));
        Due.is("about(5) of the longest", 792, longest().about(5));
        Due.is("about(5) without streets", NONE, new ClosedStreets().about(5));
        Due.is("about(5) of a closed one", NONE, Towns.of("T201s0101x").about(5));
        Due.is("about(5) of one that leads nowhere", NONE, Towns.of("T301s0201").about(5));
        doc.says("6: the number of its streets, NONE without one;");
        Due.is("about(6) of one", 1, Towns.of("T210s0101").about(6));
        Due.is("about(6) of the most", 8, longest().about(6));
        Due.is("about(6) without a way", NONE, Towns.of("T301s0201").about(6));
        needed(doc);
        doc.says(NUMBER);
        x.setEnds(4, 2);
        Due.inOrder("about", x::about, 5, 7, 1, 4, 2, 8, 2, 1);
        doc.says("Throws IllegalArgumentException if what is not 0 to 7");
        Due.eachOutOfRange("about", x::about, -1, 8, Due.LEAST, Due.GREATEST);
        doc.isTested();
    }

    private static void needed(Doc doc) {
        doc.says("7: the number of open streets without which there would be no best way"
                + " (0 if there is none as it is)");
        Due.is("about(7) of a ring", 0, Towns.of("T301s0101s1201s0201").about(7));
        Due.is("about(7) of a closed ring", 2, Towns.of("T301s0101xs1201s0201").about(7));
        Due.is("about(7) behind a ring", 1, Towns.of("T403s0101s1201s0201s2301").about(7));
        Due.is("about(7) of one", 1, Towns.of("T201s0101").about(7));
        Due.is("about(7) of the most", 8, longest().about(7));
        Due.is("about(7) beside the way", 1, Towns.of("T401s0101s0201s1301").about(7));
        Due.is("about(7) without streets", 0, new ClosedStreets().about(7));
        Due.is("about(7) of closed ones", 0, Towns.of("T201s0101x").about(7));
        Due.is("about(7) without a way", 0, Towns.of("T401s0201s2301").about(7));
    }

    private static void street() {
        Doc doc = Doc.promise(7);
        doc.says("Returns a number of a street.");
        ClosedStreets x = sample();
        Due.inOrder("street(0, what)", what -> x.street(0, what), 0, 1, 4, 0, 0);
        doc.says("- s: street");
        ClosedStreets full = Towns.full();
        Due.is("street(0, 1), the first of 20", 1, full.street(0, 1));
        Due.is("street(19, 1), the last of 20", 8, full.street(19, 1));
        doc.says("- what: 0: the smaller one of its crossings; 1: the greater one;");
        Due.inOrder("street(s, 0)", s -> x.street(s, 0), 0, 1, 2, 0, 1, 3, 0);
        Due.inOrder("street(s, 1)", s -> x.street(s, 1), 1, 2, 3, 2, 3, 4, 4);
        doc.says("2: its length;");
        Due.inOrder("street(s, 2)", s -> x.street(s, 2), 4, 3, 2, 7, 9, 1, 1);
        doc.says("3: 1 if it is closed, otherwise 0;");
        Due.inOrder("street(s, 3)", s -> x.street(s, 3), 0, 0, 0, 0, 0, 1, 0);
        doc.says("4: 1 if it is a street of the best way, otherwise 0");
        Due.inOrder("street(s, 4)", s -> x.street(s, 4), 0, 0, 1, 1, 0, 0, 0);
        doc.says(NUMBER);
        x.close(2, true);
        Due.inOrder("street(s, 4) of another way", s -> x.street(s, 4), 1, 0, 0, 0, 1, 0, 0);
        x.close(4, true);
        Due.inOrder("street(s, 4) without a way", s -> x.street(s, 4), 0, 0, 0, 0, 0, 0, 0);
        Due.inOrder("street(5, what)", what -> x.street(5, what), 3, 4, 1, 1, 0);
        doc.says("Throws IndexOutOfBoundsException if there is no such street");
        Due.eachMissing("street(s, 0)", s -> x.street(s, 0), -1, 7, Due.LEAST, Due.GREATEST);
        Due.eachMissing("street(s, 5)", s -> x.street(s, 5), -1, 7);
        Due.eachMissing("street(s, 0) of 20", s -> full.street(s, 0), -1, 20);
        ClosedStreets none = new ClosedStreets();
        Due.eachMissing("street(s, 0) of none", s -> none.street(s, 0), -1, 0, 1);
        doc.says("Throws IllegalArgumentException if what is not 0 to 4");
        Due.eachOutOfRange("street(0, what)", what -> x.street(0, what), -1, 5, Due.LEAST,
                Due.GREATEST);
        Due.eachOutOfRange("street(6, what)", what -> x.street(6, what), -1, 5);
        doc.isTested();
    }

    private static void crossing() {
        Doc doc = Doc.promise(8);
        doc.says("Returns a number of a crossing.");
        ClosedStreets x = sample();
        Due.inOrder("crossing(2, what)", what -> x.crossing(2, what), 3, 7, 2, 1);
        doc.says("- c: crossing");
        Due.inOrder("crossing(c, 1)", c -> longest().crossing(c, 1), 0, 99, 198, 297, 396, 495,
                594, 693, 792);
        doc.says("- what: 0: the number of its open streets;");
        Due.inOrder("crossing(c, 0)", c -> x.crossing(c, 0), 3, 3, 3, 2, 1);
        Due.is("crossing(0, 0) of none", 0, new ClosedStreets().crossing(0, 0));
        Due.is("crossing(0, 0) of the most", 8,
                Towns.of("T901s0101s0201s0301s0401s0501s0601s0701s0801").crossing(0, 0));
        Due.is("crossing(0, 0) of closed ones", 0, Towns.of("T301s0101xs0201x").crossing(0, 0));
        doc.says("1: the length of the best way from the start to it (0 for the start), NONE"
                + " without one;");
        Due.inOrder("crossing(c, 1)", c -> x.crossing(c, 1), 0, 4, 7, 9, 1);
        ClosedStreets behind = Towns.of("T501s0105s1206s3401");
        Due.inOrder("crossing(c, 1)", c -> behind.crossing(c, 1), 0, 5, 11, NONE, NONE);
        doc.says("2: the length of the best way from it to the goal (0 for the goal), NONE"
                + " without one;");
        Due.inOrder("crossing(c, 2)", c -> x.crossing(c, 2), 9, 5, 2, 0, 10);
        ClosedStreets ahead = Towns.of("T510s0105s1206s3401");
        Due.inOrder("crossing(c, 2)", c -> ahead.crossing(c, 2), 0, 5, 11, NONE, NONE);
        doc.says("3: its place in the best way, from 0, NONE if it is not in it");
        Due.inOrder("crossing(c, 3)", c -> x.crossing(c, 3), 0, NONE, 1, 2, NONE);
        Due.inOrder("crossing(c, 3)", c -> longest().crossing(c, 3), 0, 1, 2, 3, 4, 5, 6, 7, 8);
        doc.says(NUMBER);
        ClosedStreets apart = new ClosedStreets();
        Due.inOrder("crossing(0, what) without a way", what -> apart.crossing(0, what), 0, 0,
                NONE, NONE);
        Due.inOrder("crossing(1, what) without a way", what -> apart.crossing(1, what), 0, NONE,
                0, NONE);
        doc.says("Throws IndexOutOfBoundsException if there is no such crossing");
        Due.eachMissing("crossing(c, 0)", c -> x.crossing(c, 0), -1, 5, Due.LEAST, Due.GREATEST);
        Due.eachMissing("crossing(c, 4)", c -> x.crossing(c, 4), -1, 5);
        Due.eachMissing("crossing(c, 3) of 9", c -> longest().crossing(c, 3), -1, 9);
        doc.says("Throws IllegalArgumentException if what is not 0 to 3");
        Due.eachOutOfRange("crossing(4, what)", what -> x.crossing(4, what), -1, 4, Due.LEAST,
                Due.GREATEST);
        doc.isTested();
    }

    private static void between() {
        Doc doc = Doc.promise(9);
        doc.says("Finds a street.");
        ClosedStreets x = sample();
        Due.is("between(1, 2)", 1, x.between(1, 2));
        doc.says("- a: crossing - b: crossing");
        Due.inOrder("between(0, b)", b -> x.between(0, b), NONE, 0, 3, NONE, 6);
        Due.inOrder("between(a, 0)", a -> x.between(a, 0), NONE, 0, 3, NONE, 6);
        doc.says("Returns the street that joins them, open or closed; NONE if there is none (also"
                + " if both are the same).");
        Due.is("between(3, 4), closed", 5, x.between(3, 4));
        Due.is("between(4, 3), closed", 5, x.between(4, 3));
        Due.inOrder("between(c, c)", c -> x.between(c, c), NONE, NONE, NONE, NONE, NONE);
        Due.is("between(7, 8) of none", NONE, Towns.full().between(7, 8));
        Due.is("between(8, 3), the last of 20", 19, Towns.full().between(8, 3));
        Due.is("between(0, 1) without streets", NONE, new ClosedStreets().between(0, 1));
        doc.says("Throws IndexOutOfBoundsException if there is no such crossing");
        Due.eachMissing("between(c, 0)", c -> x.between(c, 0), -1, 5, Due.LEAST, Due.GREATEST);
        Due.eachMissing("between(0, c)", c -> x.between(0, c), -1, 5, Due.LEAST, Due.GREATEST);
        Due.eachMissing("between(c, c)", c -> x.between(c, c), -1, 5);
        doc.isTested();
    }

    private static void wayAt() {
        Doc doc = Doc.promise(10);
        doc.says("Returns a crossing of the best way.");
        ClosedStreets x = sample();
        Due.is("wayAt(1)", 2, x.wayAt(1));
        doc.says("- i: place, 0 or more");
        Due.is("wayAt(0)", 0, x.wayAt(0));
        doc.says("Returns the crossing at this place; NONE if there is no such place.");
        Due.inOrder("wayAt", x::wayAt, 0, 2, 3, NONE, NONE, NONE);
        Due.inOrder("wayAt of the longest", longest()::wayAt, 0, 1, 2, 3, 4, 5, 6, 7, 8, NONE,
                NONE);
        Due.eachIs("wayAt", NONE, x::wayAt, 9, 256, 65536, Due.GREATEST);
        Due.eachIs("wayAt without a way", NONE, new ClosedStreets()::wayAt, 0, 1, Due.GREATEST);
        x.setLength(3, 8);
        Due.inOrder("wayAt of another way", x::wayAt, 0, 1, 2, 3, NONE);
        doc.says("Throws IllegalArgumentException if i is negative");
        Due.eachOutOfRange("wayAt", x::wayAt, -1, -2, Due.LEAST);
        Due.eachOutOfRange("wayAt without a way", new ClosedStreets()::wayAt, -1);
        doc.isTested();
    }
}
