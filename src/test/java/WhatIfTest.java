/** Promises 19 to 25: what would be. */
public final class WhatIfTest {
    private static final int NONE = ClosedStreets.NONE;
    // 0-1 (5), 1-2 (6), 0-2 (20), 2-3 (1, closed); from 0 to 2
    private static final String SAMPLE = "T402s0105s1206s0220s2301x";

    public static void main(String[] args) {
        without();
        withoutAt();
        dearest();
        upTo();
        saves();
        ways();
        middle();
        changesNothing();
        Due.end();
    }

    private static void without() {
        ClosedStreets x = Due.town(SAMPLE);
        Due.is("without(0)", 20, x.without(0));
        Due.is("without(1)", 20, x.without(1));
        Due.is("without(2)", 11, x.without(2));
        Due.is("without(3), closed", 11, x.without(3));
        Due.missing("without(4)", () -> x.without(4));
        Due.missing("without(-1)", () -> x.without(-1));
        x.close(2, true);
        Due.is("without(0) with the other one closed", NONE, x.without(0));
        Due.is("street(0, 3) behind without(0)", 0, x.street(0, 3));
    }

    private static void withoutAt() {
        ClosedStreets x = Due.town(SAMPLE);
        int[] due = {0, 2, NONE, NONE};
        for (int i = 0; i < due.length; i++) {
            Due.is("withoutAt(1, " + i + ")", due[i], x.withoutAt(1, i));
        }
        Due.is("withoutAt(2, 1)", 1, x.withoutAt(2, 1));
        Due.is("withoutAt(3, 2)", 2, x.withoutAt(3, 2));
        Due.is("withoutAt(0, 2147483647)", NONE, x.withoutAt(0, Integer.MAX_VALUE));
        Due.missing("withoutAt(4, 0)", () -> x.withoutAt(4, 0));
        Due.missing("withoutAt(-1, -1)", () -> x.withoutAt(-1, -1));
        Due.outOfRange("withoutAt(0, -1)", () -> x.withoutAt(0, -1));
        x.close(2, true);
        Due.is("withoutAt(0, 0) without a way", NONE, x.withoutAt(0, 0));
    }

    private static void dearest() {
        Due.is("dearest() without a way", NONE, new ClosedStreets().dearest());
        Due.is("dearest(), as dear", 0, Due.town(SAMPLE).dearest());
        // without(0) is 12, without(1) is 20
        ClosedStreets x = Due.town("T402s0105s1206s0220s0303s3103");
        Due.is("dearest()", 1, x.dearest());
        // The second street of the way is one without which there is none.
        Due.is("dearest() with a needed street", 3,
                Due.town("T402s0105s0320s3101s1206").dearest());
        Due.is("dearest(), needed ones", 0, Due.town("T302s1206s0105").dearest());
        // Street 0 would be dear to close, but is not of the best way.
        Due.is("dearest() is of the best way", 1, Due.town("T401s0230s0110s2101").dearest());
    }

    private static void upTo() {
        ClosedStreets x = Due.town(SAMPLE);
        Due.is("upTo(0), also fewer streets win", 13, x.upTo(0));
        Due.is("upTo(1)", 14, x.upTo(1));
        Due.is("upTo(2)", 11, x.upTo(2));
        Due.is("upTo(3), closed", NONE, x.upTo(3));
        Due.missing("upTo(4)", () -> x.upTo(4));
        Due.missing("upTo(-1)", () -> x.upTo(-1));
        Due.is("length behind upTo(2)", 20, x.street(2, 2));
        x.close(2, true);
        Due.is("upTo(0) of a needed street", 99, x.upTo(0));
        x.close(3, false);
        Due.is("upTo(3) of a street that leads nowhere", NONE, x.upTo(3));
        // As long with as many streets: the smaller crossing decides.
        ClosedStreets even = Due.town("T403s0110s1310s0210s2310");
        Due.is("upTo(0) of the smaller one", 10, even.upTo(0));
        Due.is("upTo(2) of the greater one", 9, even.upTo(2));
        ClosedStreets near = Due.town("T301s0101s0201s2101");
        Due.is("upTo(0) against 2 with more streets", 2, near.upTo(0));
        Due.is("upTo(1) never", NONE, near.upTo(1));
        Due.is("upTo(0) of 99", 99, Due.town("T301s0199s0250s2150").upTo(0));
        Due.is("upTo(1) of 1", 1, Due.town("T301s0103s0201s2101").upTo(1));
    }

    private static void saves() {
        ClosedStreets x = Due.town(SAMPLE);
        Due.is("saves(0, 2, 1)", 10, x.saves(0, 2, 1));
        Due.is("saves(2, 0, 1)", 10, x.saves(2, 0, 1));
        Due.is("saves(0, 2, 99)", 0, x.saves(0, 2, 99));
        Due.is("saves(0, 1, 8): longer", -3, x.saves(0, 1, 8));
        Due.is("saves(1, 0, 99): the other way then", -9, x.saves(1, 0, 99));
        Due.is("saves(0, 3, 1): leads nowhere", 0, x.saves(0, 3, 1));
        Due.is("saves(2, 3, 1) of a closed one", 0, x.saves(2, 3, 1));
        x.addStreet(0, 3, 2);
        Due.is("saves(2, 3, 1): open then", 8, x.saves(2, 3, 1));
        Due.is("closed streets behind saves", 1, x.about(2));
        Due.missing("saves(4, 0, 1)", () -> x.saves(4, 0, 1));
        Due.missing("saves(0, -1, 1)", () -> x.saves(0, -1, 1));
        Due.missing("saves(4, 4, 0)", () -> x.saves(4, 4, 0));
        Due.outOfRange("saves(0, 0, 1)", () -> x.saves(0, 0, 1));
        Due.outOfRange("saves(0, 1, 0)", () -> x.saves(0, 1, 0));
        Due.outOfRange("saves(0, 1, 100)", () -> x.saves(0, 1, 100));
        x.setEnds(1, 3);
        x.close(4, true);
        Due.is("saves(1, 3, 1) without a way", NONE, x.saves(1, 3, 1));
        StringBuilder town = new StringBuilder("T908");
        for (int a = 0; a < 4; a++) {
            for (int k = 1; k <= 5; k++) {
                town.append('s').append(a).append(a + k).append("10");
            }
        }
        ClosedStreets full = Due.town(town.toString());
        full.setEnds(0, 8);
        Due.is("saves(0, 8, 1) with 20 streets", 19, full.saves(0, 8, 1));
        Due.is("streets behind saves", 20, full.about(1));
        full.save(0);
        Due.is("restore(0) behind saves", 20, full.restore(0));
    }

    private static void ways() {
        ClosedStreets x = Due.town(SAMPLE);
        int[][] due = {{0, 0}, {10, 0}, {11, 1}, {19, 1}, {20, 2}, {999, 2}};
        for (int[] row : due) {
            Due.is("ways(" + row[0] + ")", row[1], x.ways(row[0]));
        }
        Due.outOfRange("ways(-1)", () -> x.ways(-1));
        Due.outOfRange("ways(1000)", () -> x.ways(1000));
        Due.is("ways(999) without a way", 0, new ClosedStreets().ways(999));
        StringBuilder town = new StringBuilder("T701");
        for (int a = 0; a < 7; a++) {
            for (int b = a + 1; b < 7; b++) {
                town.append(a == 5 ? "" : "s" + a + b + "01");
            }
        }
        ClosedStreets full = Due.town(town.toString());
        Due.is("streets", 20, full.about(1));
        Due.is("ways(1)", 1, full.ways(1));
        Due.is("ways(2)", 6, full.ways(2));
        Due.is("ways(3)", 24, full.ways(3));
        Due.is("ways(999) of few", 228, full.ways(999));
        // No town of 20 streets that was searched for has more ways than this one.
        ClosedStreets many = Due.town("T908s2601s1701s7801s0501s1201s7201s0301s3201s1801s5201"
                + "s6301s1401s5401s7401s4601s6001s2401s6501s4301s3501");
        Due.is("ways(999) of many", 444, many.ways(999));
        full.close(0, true);
        Due.is("ways(1) with the short one closed", 0, full.ways(1));
    }

    private static void middle() {
        Due.is("middle() apart", NONE, new ClosedStreets().middle());
        Due.is("middle() of two", 0, Due.town("T210s0105").middle());
        Due.is("middle() of a line", 2, Due.town("T501s0105s1205s2305s3405").middle());
        Due.is("middle() by length", 3, Due.town("T501s0101s1201s2301s3405").middle());
        Due.is("middle() with a closed street", NONE, Due.town("T501s0101s1201s2301s3405x")
                .middle());
        Due.is("middle(), one alone", NONE, Due.town("T401s0101s1201").middle());
        Due.is("middle() of a ring", 0, Due.town("T421s0101s1201s2301s3001").middle());
        Due.is("middle(), the last one", 4, Due.town("T501s4001s4101s4201s4301").middle());
    }

    private static void changesNothing() {
        ClosedStreets x = Due.town(SAMPLE);
        String before = Due.state(x);
        for (int s = 0; s < 4; s++) {
            x.without(s);
            x.withoutAt(s, 0);
            x.upTo(s);
        }
        x.dearest();
        x.saves(0, 3, 1);
        x.ways(999);
        x.middle();
        x.runScript(2, 1032020000L);
        x.simulate(1, 60);
        Due.row("state behind the questions", Due.state(x), before);
        Due.notNow("undo() behind the questions", x::undo);
    }
}
