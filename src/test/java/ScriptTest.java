/** Promises 26 and 27: scripts and simulations. */
public final class ScriptTest {
    private static final int NONE = ClosedStreets.NONE;
    // 0-1 (5), 1-2 (6), 0-2 (20), 2-3 (1, closed); from 0 to 2
    private static final String SAMPLE = "T402s0105s1206s0220s2301x";

    public static void main(String[] args) {
        arguments();
        changes();
        questions();
        rows();
        simulations();
        Due.end();
    }

    private static void script(int n, long script, int want) {
        ClosedStreets x = Due.town(SAMPLE);
        String before = Due.state(x);
        Due.is("runScript(" + n + ", " + script + ")", want, x.runScript(n, script));
        Due.row("state behind runScript(" + n + ", " + script + ")", Due.state(x), before);
        Due.notNow("undo() behind runScript", x::undo);
    }

    private static void arguments() {
        ClosedStreets x = Due.town(SAMPLE);
        Due.outOfRange("runScript(0, 0)", () -> x.runScript(0, 0));
        Due.outOfRange("runScript(4, 0)", () -> x.runScript(4, 0));
        Due.outOfRange("runScript(-1, 0)", () -> x.runScript(-1, 0));
        Due.outOfRange("runScript(1, -1)", () -> x.runScript(1, -1));
        Due.outOfRange("runScript(1, 100000)", () -> x.runScript(1, 100000));
        Due.outOfRange("runScript(2, 10000000000)", () -> x.runScript(2, 10000000000L));
        Due.outOfRange("runScript(3, 10^15)", () -> x.runScript(3, 1000000000000000L));
        Due.outOfRange("runScript(3, least)", () -> x.runScript(3, Long.MIN_VALUE));
        Due.outOfRange("runScript(3, greatest)", () -> x.runScript(3, Long.MAX_VALUE));
        script(1, 99999, 0);
        script(2, 9999999999L, 0);
        script(3, 999999999999999L, 0);
        script(1, 0, 0);
        script(3, 0, 0);
    }

    private static void changes() {
        script(1, 10301, NONE);
        script(1, 13199, NONE);
        script(1, 10300, 0);
        script(1, 10101, 0);
        script(1, 12301, 0);
        script(1, 11101, 0);
        script(1, 10401, 0);
        script(1, 14001, 0);
        script(1, 20000, NONE);
        script(1, 20300, NONE);
        script(1, 20400, 0);
        script(1, 20001, 0);
        script(1, 20010, 0);
        script(1, 30099, NONE);
        script(1, 30000, 0);
        script(1, 30401, 0);
        script(1, 40300, NONE);
        script(1, 40310, NONE);
        script(1, 40320, 0);
        script(1, 40301, 0);
        script(1, 40311, 0);
        script(1, 40410, 0);
        script(1, 50300, NONE);
        script(1, 50301, 0);
        script(1, 50310, 0);
        script(1, 50000, 0);
        script(1, 50400, 0);
        script(1, 54000, 0);
    }

    private static void questions() {
        script(1, 60011, NONE);
        script(1, 60010, 0);
        script(1, 60999, NONE);
        script(1, 61011, 0);
        script(2, 4011060999L, NONE);
        script(2, 4001060020L, NONE);
        script(2, 4001060019L, 1);
        script(3, 400104021060999L, 2);
        script(1, 70000, NONE);
        script(1, 70100, NONE);
        script(1, 70200, 0);
        script(1, 70300, 0);
        script(1, 70400, 0);
        script(1, 70001, 0);
        script(1, 70010, 0);
        script(1, 80002, NONE);
        script(1, 80009, NONE);
        script(1, 80001, 0);
        script(1, 80000, 0);
        script(1, 80010, 0);
        script(1, 80012, 0);
        script(1, 80102, 0);
        script(1, 81002, 0);
        script(3, 400104021080009L, 2);
        script(1, 90000, NONE);
        script(1, 91005, NONE);
        script(1, 91004, 0);
        script(1, 92011, NONE);
        script(1, 93099, 0);
        script(2, 4030093012L, NONE);
        script(2, 4030093011L, 1);
        script(1, 91105, 0);
        script(1, 94099, 0);
        script(2, 5300090000L, 1);
        script(2, 5300093000L, NONE);
    }

    private static void rows() {
        // Three commands one after the other, each on what those ahead of it left.
        script(3, 200001020170000L, 1);
        script(3, 200001010170300L, NONE);
        script(3, 103012030070300L, 2);
        script(3, 301200402000000L, 1);
        script(3, 103014031060002L, 2);
        script(3, 103014030060002L, NONE);
        script(3, 103014030060001L, 2);
        script(2, 60011L, 0);
        script(3, 502000000000000L, 1);
        script(3, 502000000060005L, 1);
        script(3, 501000000160005L, 1);
        script(3, 501008000160005L, NONE);
    }

    private static void simulations() {
        ClosedStreets x = Due.town(SAMPLE);
        Due.outOfRange("simulate(0, 0)", () -> x.simulate(0, 0));
        Due.outOfRange("simulate(0, 61)", () -> x.simulate(0, 61));
        Due.outOfRange("simulate(0, -1)", () -> x.simulate(0, -1));
        Due.is("simulate(1, 1)", simulated(1, 1), x.simulate(1, 1));
        for (int m = 1; m <= 60; m++) {
            Due.is("simulate(" + -m + ", " + m + ")", simulated(-m, m), x.simulate(-m, m));
        }
        Due.is("simulate(least, 60)", simulated(Long.MIN_VALUE, 60),
                x.simulate(Long.MIN_VALUE, 60));
        Due.is("simulate of a town without streets", 6000000,
                new ClosedStreets().simulate(7, 60));
        Due.is("simulate(5, 60) of a closed street", 6000000,
                Due.town("T201s0101x").simulate(5, 60));
    }

    /** The days of the sample town, whose ways can be told by hand. */
    private static int simulated(long seed, int m) {
        long x = seed;
        int sum = 0;
        for (int day = 0; day < m; day++) {
            boolean[] open = new boolean[3];
            for (int s = 0; s < 3; s++) {
                x = x * 6364136223846793005L + 1442695040888963407L;
                open[s] = (int) (x >>> 33) % 4 != 0;
            }
            sum += open[0] && open[1] ? 11 : open[2] ? 20 : 100000;
        }
        return sum;
    }
}
