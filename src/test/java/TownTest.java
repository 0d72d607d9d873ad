/** Promises 6 to 10: what the town tells of itself. */
public final class TownTest {
    private static final int NONE = ClosedStreets.NONE;

    public static void main(String[] args) {
        about();
        streets();
        crossings();
        between();
        strictRule();
        Due.end();
    }

    // 0-1 (4), 1-2 (3), 2-3 (2), 0-2 (7), 1-3 (9), 3-4 (1, closed), 4-0 (1); from 0 to 3
    private static ClosedStreets sample() {
        return Due.town("T503s0104s1203s2302s0207s1309s4301xs4001");
    }

    private static void about() {
        ClosedStreets x = sample();
        int[] due = {5, 7, 1, 0, 3, 9, 2, 0};
        for (int what = 0; what < due.length; what++) {
            Due.is("about(" + what + ")", due[what], x.about(what));
        }
        Due.outOfRange("about(-1)", () -> x.about(-1));
        Due.outOfRange("about(8)", () -> x.about(8));
        x.setEnds(4, 2);
        Due.is("about(3) behind setEnds", 4, x.about(3));
        Due.is("about(4) behind setEnds", 2, x.about(4));
        Due.is("about(7) with one needed street", 1, x.about(7));
        x.close(6, true);
        Due.is("about(2)", 2, x.about(2));
        Due.is("about(5) without a way", NONE, x.about(5));
        Due.is("about(6) without a way", NONE, x.about(6));
        Due.is("about(7) without a way", 0, x.about(7));
        ClosedStreets line = Due.town("T903s0199s1299s2399s3499");
        line.setEnds(0, 4);
        Due.is("about(5) on a line", 396, line.about(5));
        Due.is("about(7) on a line", 4, line.about(7));
        ClosedStreets longest = Due.town(
                "T908s0199s1299s2399s3499s4599s5699s6799s7899");
        Due.is("about(5) of the longest way", 792, longest.about(5));
        Due.is("about(6) of the longest way", 8, longest.about(6));
        Due.is("about(7) of the longest way", 8, longest.about(7));
    }

    private static void streets() {
        ClosedStreets x = sample();
        int[][] due = {{0, 1, 4, 0, 0}, {1, 2, 3, 0, 0}, {2, 3, 2, 0, 1}, {0, 2, 7, 0, 1},
            {1, 3, 9, 0, 0}, {3, 4, 1, 1, 0}, {0, 4, 1, 0, 0}};
        for (int s = 0; s < due.length; s++) {
            for (int what = 0; what < 5; what++) {
                Due.is("street(" + s + ", " + what + ")", due[s][what], x.street(s, what));
            }
        }
        Due.missing("street(-1, 0)", () -> x.street(-1, 0));
        Due.missing("street(7, 0)", () -> x.street(7, 0));
        Due.missing("street(7, 5)", () -> x.street(7, 5));
        Due.outOfRange("street(0, -1)", () -> x.street(0, -1));
        Due.outOfRange("street(0, 5)", () -> x.street(0, 5));
        Due.missing("street(0, 0) without streets", () -> new ClosedStreets().street(0, 0));
        x.close(2, true);
        x.close(4, true);
        Due.is("street(3, 4) without a way", 0, x.street(3, 4));
    }

    private static void crossings() {
        ClosedStreets x = sample();
        int[][] due = {{3, 0, 9, 0}, {3, 4, 5, NONE}, {3, 7, 2, 1}, {2, 9, 0, 2},
            {1, 1, 10, NONE}};
        for (int c = 0; c < due.length; c++) {
            for (int what = 0; what < 4; what++) {
                Due.is("crossing(" + c + ", " + what + ")", due[c][what], x.crossing(c, what));
            }
        }
        Due.missing("crossing(-1, 0)", () -> x.crossing(-1, 0));
        Due.missing("crossing(5, 0)", () -> x.crossing(5, 0));
        Due.missing("crossing(5, 4)", () -> x.crossing(5, 4));
        Due.outOfRange("crossing(4, -1)", () -> x.crossing(4, -1));
        Due.outOfRange("crossing(4, 4)", () -> x.crossing(4, 4));
        x.close(6, true);
        Due.is("crossing(4, 0) of none", 0, x.crossing(4, 0));
        Due.is("crossing(4, 1) of none", NONE, x.crossing(4, 1));
        Due.is("crossing(4, 2) of none", NONE, x.crossing(4, 2));
        // The goal lies between the start and crossing 2.
        ClosedStreets behind = Due.town("T301s0105s1206");
        Due.is("crossing(2, 1) behind the goal", 11, behind.crossing(2, 1));
        behind.setEnds(1, 0);
        Due.is("crossing(2, 2) ahead of the start", 11, behind.crossing(2, 2));
        ClosedStreets apart = new ClosedStreets();
        Due.is("crossing(0, 1) of the start", 0, apart.crossing(0, 1));
        Due.is("crossing(1, 2) of the goal", 0, apart.crossing(1, 2));
        Due.is("crossing(0, 3) without a way", NONE, apart.crossing(0, 3));
    }

    private static void between() {
        ClosedStreets x = sample();
        Due.is("between(0, 1)", 0, x.between(0, 1));
        Due.is("between(1, 0)", 0, x.between(1, 0));
        Due.is("between(3, 4), closed", 5, x.between(3, 4));
        Due.is("between(0, 3), none", NONE, x.between(0, 3));
        Due.is("between(2, 2), the same", NONE, x.between(2, 2));
        Due.missing("between(5, 0)", () -> x.between(5, 0));
        Due.missing("between(0, 5)", () -> x.between(0, 5));
        Due.missing("between(-1, 0)", () -> x.between(-1, 0));
        Due.missing("between(0, -1)", () -> x.between(0, -1));
        Due.missing("between(5, 5)", () -> x.between(5, 5));
    }

    private static String way(ClosedStreets x) {
        StringBuilder way = new StringBuilder();
        for (int i = 0; i < 9 && x.wayAt(i) != NONE; i++) {
            way.append(x.wayAt(i));
        }
        return way.toString();
    }

    private static void strictRule() {
        ClosedStreets x = sample();
        Due.row("way: of as long ones that with fewer streets", way(x), "023");
        Due.is("wayAt(3) behind the way", NONE, x.wayAt(3));
        Due.is("wayAt(2147483647)", NONE, x.wayAt(Integer.MAX_VALUE));
        Due.outOfRange("wayAt(-1)", () -> x.wayAt(-1));
        Due.is("wayAt(0) without a way", NONE, new ClosedStreets().wayAt(0));
        Due.outOfRange("wayAt(-1) without a way", () -> new ClosedStreets().wayAt(-1));
        x.setLength(3, 8);
        Due.row("way: the shorter one", way(x), "0123");
        // 0-4-1-5 and 0-3-2-5 and 0-2-... are as long: the first place that differs decides.
        Due.row("way: the smaller crossing", way(Due.town("T605s0401s4101s1501s0301s3201s2501")),
                "0325");
        Due.row("way: the smaller crossing at a later place",
                way(Due.town("T605s0101s1401s4501s1201s2501")), "0125");
        // Backwards the same rule reads from the other end.
        ClosedStreets back = Due.town("T605s0401s4101s1501s0301s3201s2501");
        back.setEnds(5, 0);
        Due.row("way: the smaller crossing backwards", way(back), "5140");
        Due.row("way through the greatest crossings", way(Due.town("T978s7003s0803s7802")), "78");
    }
}
