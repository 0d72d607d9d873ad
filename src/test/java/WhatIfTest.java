/** Promises 19 to 25, sentence by sentence: what would be. */
public final class WhatIfTest {
    private static final int NONE = ClosedStreets.NONE;
    private static final String NO_STREET =
            "Throws IndexOutOfBoundsException if there is no such street";

    public static void main(String[] args) {
        without();
        withoutAt();
        dearest();
        upTo();
        saves();
        ways();
        middle();
        Due.end();
    }

    private static void without() {
        Doc doc = Doc.promise(19);
        doc.says("Tells the length of the next best way.");
        ClosedStreets x = Towns.sample();
        Due.is("without(0)", 20, x.without(0));
        doc.says("- s: street");
        Due.inOrder("without", x::without, 20, 20, 11, 11);
        ClosedStreets full = Towns.full();
        Due.is("without(0) of 20", 2, full.without(0));
        Due.is("without(19) of 20", 1, full.without(19));
        doc.says("Returns the length of the best way if this street were closed (too); NONE"
                + " without one.");
        Due.is("without(3), closed", 11, x.without(3));
        x.close(2, true);
        Due.inOrder("without with one closed", x::without, NONE, NONE, 11, 11);
        x.close(1, true);
        Due.inOrder("without with no way", x::without, NONE, NONE, NONE, NONE);
        Due.is("without(0) of the only one", NONE, Towns.of("T201s0101").without(0));
        Due.is("without(0) of a closed one", NONE, Towns.of("T201s0101x").without(0));
        Due.is("street(0, 3) behind without(0)", 0, x.street(0, 3));
        doc.says(NO_STREET);
        Due.eachMissing("without", x::without, -1, 4, Due.LEAST, Due.GREATEST);
        Due.eachMissing("without of 20", full::without, -1, 20);
        Due.eachMissing("without of none", new ClosedStreets()::without, -1, 0);
        doc.isTested();
    }

    private static void withoutAt() {
        Doc doc = Doc.promise(20);
        doc.says("Returns a crossing of the next best way.");
        ClosedStreets x = Towns.sample();
        Due.is("withoutAt(2, 1)", 1, x.withoutAt(2, 1));
        doc.says("- s: street");
        Due.inOrder("withoutAt(s, 1)", s -> x.withoutAt(s, 1), 2, 2, 1, 1);
        ClosedStreets full = Towns.full();
        Due.is("withoutAt(0, 1) of 20", 2, full.withoutAt(0, 1));
        Due.is("withoutAt(19, 1) of 20", 1, full.withoutAt(19, 1));
        doc.says("- i: place, 0 or more");
        Due.is("withoutAt(0, 0)", 0, x.withoutAt(0, 0));
        doc.says("Returns the crossing at this place of the best way if this street were closed"
                + " (too); NONE if there is no such place.");
        Due.inOrder("withoutAt(0, i)", i -> x.withoutAt(0, i), 0, 2, NONE, NONE);
        Due.inOrder("withoutAt(2, i)", i -> x.withoutAt(2, i), 0, 1, 2, NONE, NONE);
        Due.inOrder("withoutAt(3, i), closed", i -> x.withoutAt(3, i), 0, 1, 2, NONE);
        Due.eachIs("withoutAt(0, i)", NONE, i -> x.withoutAt(0, i), 9, 256, 65536, Due.GREATEST);
        ClosedStreets longest = Towns.of("T908s0801s0101s1201s2301s3401s4501s5601s6701s7801");
        Due.inOrder("withoutAt(0, i) of 8 streets", i -> longest.withoutAt(0, i), 0, 1, 2, 3, 4,
                5, 6, 7, 8, NONE);
        x.close(2, true);
        Due.inOrder("withoutAt(0, i) with no way", i -> x.withoutAt(0, i), NONE, NONE, NONE);
        doc.says(NO_STREET);
        Due.eachMissing("withoutAt(s, 0)", s -> x.withoutAt(s, 0), -1, 4, Due.LEAST,
                Due.GREATEST);
        Due.eachMissing("withoutAt(s, -1)", s -> x.withoutAt(s, -1), -1, 4);
        Due.eachMissing("withoutAt(s, 0) of none", s -> new ClosedStreets().withoutAt(s, 0), 0);
        doc.says("Throws IllegalArgumentException if i is negative");
        Due.eachOutOfRange("withoutAt(0, i)", i -> x.withoutAt(0, i), -1, -2, Due.LEAST);
        doc.isTested();
    }

    private static void dearestOf(String what, int want, String town) {
        Due.is("dearest(), " + what, want, Towns.of(town).dearest());
    }

    private static void dearest() {
        Doc doc = Doc.promise(21);
        doc.says("Finds the street whose closing costs most.");
        // without(0) is 12, without(1) is 20
        dearestOf("the second one", 1, "T402s0105s1206s0220s0303s3103");
        doc.says("Returns the street of the best way for which without() is NONE, among several"
                + " the smallest number;");
        dearestOf("the last one", 3, "T402s0105s0320s3101s1206");
        dearestOf("the first one", 0, "T403s0199s1201s2301s1302");
        dearestOf("two of two", 0, "T302s1206s0105");
        dearestOf("two of three", 1, "T503s0101s1201s2301s0401s4101");
        dearestOf("the only one", 0, "T201s0101");
        dearestOf("eight", 0, "T908s7801s6701s5601s4501s3401s2301s1201s0101");
        dearestOf("not beside the way", 1, "T301s0201s0101");
        doc.says("if there is none such, that for which it is greatest, among several the"
                + " smallest number;");
        dearestOf("as dear", 0, Towns.SAMPLE);
        dearestOf("as dear, the first one not on the way", 1, "T302s0220s1206s0105");
        dearestOf("street 0 is not of the best way", 1, "T401s0230s0110s2101");
        dearestOf("street 4 of 4 crossings", 4, "T401s0230s1230s0330s1330s0109");
        dearestOf("dearer by 1", 1, "T502s0102s1202s0301s3102s1402s4202");
        dearestOf("dearer by 1, the first one", 0, "T502s1202s0102s0301s3102s1402s4202");
        doc.says("NONE if there is no best way.");
        dearestOf("without streets", NONE, "T201");
        dearestOf("all closed", NONE, "T201s0101x");
        dearestOf("no way", NONE, "T401s0201s1301");
        doc.isTested();
    }

    private static void upTo() {
        Doc doc = Doc.promise(22);
        doc.says("Tells how long a street may be.");
        ClosedStreets x = Towns.sample();
        Due.is("upTo(1)", 14, x.upTo(1));
        doc.says("- s: street");
        Due.inOrder("upTo", x::upTo, 13, 14, 11, NONE);
        Due.is("length behind upTo(2)", 20, x.street(2, 2));
        ClosedStreets full = Towns.full();
        Due.is("upTo(0) of 20", 2, full.upTo(0));
        Due.is("upTo(19) of 20", NONE, full.upTo(19));
        doc.says("Returns the greatest length, 1 to 99, with which it is a street of the best"
                + " way;");
        Due.is("upTo(0) of the only one", 99, Towns.of("T201s0101").upTo(0));
        Due.is("upTo(0) with 99", 99, Towns.of("T301s0199s0250s2150").upTo(0));
        Due.is("upTo(0), 98 by a smaller crossing", 98, Towns.of("T402s0301s3201s0199s1201")
                .upTo(0));
        Due.is("upTo(1) with 1", 1, Towns.of("T301s0103s0201s2101").upTo(1));
        // As long with as many streets: the smaller crossing decides.
        ClosedStreets even = Towns.of("T403s0110s1310s0210s2310");
        Due.inOrder("upTo", even::upTo, 10, 10, 9, 9);
        // As long with fewer streets.
        ClosedStreets near = Towns.of("T301s0101s0201s2101");
        Due.is("upTo(0) against more streets", 2, near.upTo(0));
        for (int length = 2; length <= 49; length++) {
            String digits = (length < 10 ? "0" : "") + length;
            Due.is("upTo(0) against twice " + length, 2 * length,
                    Towns.of("T301s0101s02" + digits + "s21" + digits).upTo(0));
        }
        doc.says("NONE if there is none (also if it is closed).");
        Due.is("upTo(1) against fewer streets", NONE, near.upTo(1));
        Due.is("upTo(2) that leads nowhere", NONE, Towns.of("T401s0109s0201s2301").upTo(2));
        Due.is("upTo(0), closed", NONE, Towns.of("T201s0101x").upTo(0));
        Due.is("upTo(0) with no way", NONE, Towns.of("T301s0201").upTo(0));
        Due.is("upTo(0), closed beside the way", NONE, Towns.of("T301s0101xs0201s2101").upTo(0));
        doc.says(NO_STREET);
        Due.eachMissing("upTo", x::upTo, -1, 4, Due.LEAST, Due.GREATEST);
        Due.eachMissing("upTo of 20", full::upTo, -1, 20);
        Due.eachMissing("upTo of none", new ClosedStreets()::upTo, -1, 0);
        doc.isTested();
    }

    private static void saves() {
        Doc doc = Doc.promise(23);
        doc.says("Tells what a new street would save.");
        ClosedStreets x = Towns.sample();
        Due.is("saves(0, 3, 1)", 0, x.saves(0, 3, 1));
        Due.is("saves(0, 2, 1)", 10, x.saves(0, 2, 1));
        doc.says("- a: crossing - b: crossing");
        Due.is("saves(2, 0, 1)", 10, x.saves(2, 0, 1));
        doc.says("- length: 1 to 99");
        Due.is("saves(0, 2, 10)", 1, x.saves(0, 2, 10));
        Due.is("saves(0, 2, 99)", 0, x.saves(0, 2, 99));
        doc.says("Returns by how much the best way would be shorter if an open street with this"
                + " length joined both (in place of the one that joins them, if there is one;"
                + " less than 0 if it would be longer; also if there are 20 streets);");
        Due.is("saves(0, 1, 1): shorter", 4, x.saves(0, 1, 1));
        Due.is("saves(0, 1, 5): the same", 0, x.saves(0, 1, 5));
        Due.is("saves(0, 1, 8): longer", -3, x.saves(0, 1, 8));
        Due.is("saves(1, 0, 99): another way then", -9, x.saves(1, 0, 99));
        Due.is("saves(2, 3, 1) of a closed one", 0, x.saves(2, 3, 1));
        ClosedStreets closed = Towns.of("T401s0105xs0240s2140");
        Due.is("saves(0, 1, 79): open then", 1, closed.saves(0, 1, 79));
        Due.is("closed streets behind saves", 1, closed.about(2));
        Due.is("saves(0, 3, 1) to a new crossing", 0, closed.saves(0, 3, 1));
        ClosedStreets longest = Towns.of("T201s0199");
        Due.is("saves(0, 1, 1)", 98, longest.saves(0, 1, 1));
        ClosedStreets most = Towns.of("T908s0199s1299s2399s3499s4599s5699s6799s7899");
        Due.is("saves(0, 8, 1), the most", 791, most.saves(8, 0, 1));
        ClosedStreets full = Towns.of(Towns.twentyStreets("T908", "10"));
        Due.is("saves(0, 8, 1) with 20 streets", 19, full.saves(0, 8, 1));
        Due.is("saves(7, 8, 1) with 20 streets", 0, full.saves(7, 8, 1));
        Due.is("saves(0, 4, 30) of one of 20", 0, full.saves(0, 4, 30));
        Due.is("streets behind saves", 20, full.about(1));
        doc.says("NONE if there is no best way as it is, or then.");
        ClosedStreets apart = new ClosedStreets();
        Due.is("saves(0, 1, 1) without a way as it is", NONE, apart.saves(0, 1, 1));
        Due.is("saves(0, 2, 1) without a way then", NONE, Towns.of("T301").saves(0, 2, 1));
        Due.is("saves(0, 1, 1) of a closed one", NONE, Towns.of("T201s0101x").saves(0, 1, 1));
        doc.says("Throws IndexOutOfBoundsException if there is no such crossing");
        Due.eachMissing("saves(c, 0, 1)", c -> x.saves(c, 0, 1), -1, 4, Due.LEAST, Due.GREATEST);
        Due.eachMissing("saves(0, c, 1)", c -> x.saves(0, c, 1), -1, 4, Due.LEAST, Due.GREATEST);
        Due.eachMissing("saves(c, c, 0)", c -> x.saves(c, c, 0), -1, 4);
        Due.eachMissing("saves(c, 0, 1) without a way", c -> apart.saves(c, 0, 1), -1, 2);
        doc.says("Throws IllegalArgumentException if both are the same, or length is out of"
                + " range");
        Due.eachOutOfRange("saves(c, c, 1)", c -> x.saves(c, c, 1), 0, 1, 2, 3);
        Due.eachOutOfRange("saves(0, 1, n)", n -> x.saves(0, 1, n), 0, 100, -1, Due.LEAST,
                Due.GREATEST);
        Due.eachOutOfRange("saves(0, 1, n) without a way", n -> apart.saves(0, 1, n), 0, 100);
        Due.eachOutOfRange("saves(c, c, 1) without a way", c -> apart.saves(c, c, 1), 0, 1);
        doc.isTested();
    }

    private static void ways() {
        Doc doc = Doc.promise(24);
        doc.says("Counts ways.");
        ClosedStreets x = Towns.sample();
        Due.is("ways(20)", 2, x.ways(20));
        doc.says("- length: 0 to 999");
        Due.is("ways(0)", 0, x.ways(0));
        Due.is("ways(999)", 2, x.ways(999));
        doc.says("Returns how many ways from the start to the goal are at most so long,");
        Due.eachIs("ways", 0, x::ways, 0, 1, 10);
        Due.eachIs("ways", 1, x::ways, 11, 12, 19);
        Due.eachIs("ways", 2, x::ways, 20, 21, 998, 999);
        Due.is("ways(11) through crossing 0", 1, Towns.of("T312s0105s0206").ways(11));
        Due.is("ways(999) without streets", 0, new ClosedStreets().ways(999));
        Due.is("ways(0) of the shortest", 0, Towns.of("T201s0101").ways(0));
        Due.is("ways(1) of the shortest", 1, Towns.of("T201s0101").ways(1));
        ClosedStreets seven = sevenCrossings();
        Due.eachIs("ways of 7 crossings", 1, seven::ways, 1);
        Due.eachIs("ways of 7 crossings", 6, seven::ways, 2);
        Due.eachIs("ways of 7 crossings", 24, seven::ways, 3);
        Due.eachIs("ways of 7 crossings", 228, seven::ways, 6, 999);
        seven.close(0, true);
        Due.is("ways(1) with the short one closed", 0, seven.ways(1));
        doc.says("or 500 if there are more.");
        // The most that a town has, as a search through all of them has told: 500 is never met.
        ClosedStreets most = Towns.of("T908s2601s1701s7801s0501s1201s7201s0301s3201s1801s5201"
                + "s6301s1401s5401s7401s4601s6001s2401s6501s4301s3501");
        Due.is("ways(999) of the most", 444, most.ways(999));
        Due.is("ways(8) of the most", 444, most.ways(8));
        doc.says("Throws IllegalArgumentException if length is out of range");
        Due.eachOutOfRange("ways", x::ways, -1, 1000, Due.LEAST, Due.GREATEST);
        doc.isTested();
    }

    /** Each two of 7 crossings are joined, but not 5 and 6. */
    private static ClosedStreets sevenCrossings() {
        StringBuilder town = new StringBuilder("T701");
        for (int a = 0; a < 5; a++) {
            for (int b = a + 1; b < 7; b++) {
                town.append('s').append(a).append(b).append("01");
            }
        }
        return Towns.of(town.toString());
    }

    private static void middleOf(String what, int want, String town) {
        Due.is("middle(), " + what, want, Towns.of(town).middle());
    }

    private static void middle() {
        Doc doc = Doc.promise(25);
        doc.says("Finds the crossing from which all others are near.");
        middleOf("a line", 2, "T501s0105s1205s2305s3405");
        doc.says("Returns the crossing from which the longest one of the best ways to all other"
                + " crossings is shortest,");
        middleOf("by length, not by streets", 3, "T501s0101s1201s2301s3405");
        middleOf("the last one", 4, "T501s4001s4101s4201s4301");
        middleOf("the last one of 9", 8, "T901s8001s8101s8201s8301s8401s8501s8601s8701");
        middleOf("shorter by 1", 2, "T403s0105s1205s2306");
        middleOf("whatever the start and the goal are", 2, "T534s0105s1205s2305s3405");
        middleOf("the longest ways", 4,
                "T901s0199s1299s2399s3499s4599s5699s6799s7899");
        doc.says("among several the smallest number;");
        middleOf("two", 0, "T210s0105");
        middleOf("a ring", 0, "T421s0101s1201s2301s3001");
        middleOf("the middle two of a line", 1, "T403s0105s1205s2305");
        doc.says("NONE if some crossing cannot be reached from some other one.");
        middleOf("apart", NONE, "T201");
        middleOf("all apart", NONE, "T901");
        middleOf("a closed street", NONE, "T501s0101s1201s2301s3405x");
        middleOf("the last one alone", NONE, "T401s0101s1201");
        middleOf("the first one alone", NONE, "T412s1201s2301");
        middleOf("two halves", NONE, "T401s0101s2301");
        middleOf("a closed street that is not needed", 2, "T301s0101xs1201s0201");
        doc.isTested();
    }
}
