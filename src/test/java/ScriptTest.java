import java.math.BigInteger;

/** Promises 26 and 27, sentence by sentence: scripts and simulations. */
public final class ScriptTest {
    private static final int NONE = ClosedStreets.NONE;

    public static void main(String[] args) {
        Doc script = Doc.promise(26);
        copy(script);
        arguments(script);
        changes(script);
        questions(script);
        otherGroups(script);
        answers(script);
        script.isTested();
        simulate();
        Due.end();
    }

    /** Runs a script on the sample town. */
    private static void script(int n, long script, int want) {
        Due.is("runScript(" + n + ", " + script + ")", want, Towns.sample().runScript(n, script));
    }

    private static void succeed(int... groups) {
        for (int group : groups) {
            script(1, group, NONE);
        }
    }

    private static void fail(int... groups) {
        for (int group : groups) {
            script(1, group, 0);
        }
    }

    private static void copy(Doc doc) {
        doc.says("Runs a script on a copy of the state.");
        for (int group : new int[] {10301, 20000, 30099, 40010, 40300, 53100}) {
            ClosedStreets x = Towns.sample();
            Due.is("runScript(1, " + group + ")", NONE, x.runScript(1, group));
            Due.row("state behind " + group, Towns.state(x), Towns.SAMPLE_STATE);
            Due.notNow("undo() behind " + group, x::undo);
            Due.is("runScript(1, " + group + ") again", NONE, x.runScript(1, group));
        }
        doc.says("A script has 1 to 3 commands; each is a group of five decimal digits d1 to d5,"
                + " and the first command is the highest group of the number (with zeros before"
                + " it, if it has fewer digits).");
        script(1, 60011, NONE);
        script(2, 6001160010L, 1);
        script(2, 6001060011L, 0);
        script(3, 600116001160011L, NONE);
        script(3, 600116001160010L, 2);
        script(3, 600116001060011L, 1);
        script(3, 600106001160011L, 0);
        // Zeros ahead make groups that fail.
        script(2, 60011, 0);
        script(3, 60011, 0);
        script(3, 6001160011L, 0);
        script(1, 0, 0);
        script(2, 0, 0);
        script(3, 0, 0);
        script(1, 1, 0);
        script(1, 9999, 0);
        // Each command runs on what those ahead of it left.
        script(3, 200002000020000L, NONE);
        script(2, 2000020300L, 1);
        script(3, 103012030070300L, 2);
        script(3, 103014031060002L, 2);
        script(3, 103014030060002L, NONE);
        script(3, 103014030060001L, 2);
        script(3, 501008000160005L, NONE);
    }

    private static void arguments(Doc doc) {
        ClosedStreets x = Towns.sample();
        doc.says("- n: number of commands, 1 to 3");
        script(1, 60011, NONE);
        script(3, 600116001160011L, NONE);
        doc.says("- script: the commands, a number of at most 5 * n digits (0 or more)");
        script(1, 0, 0);
        script(1, 99999, 0);
        script(2, 9999999999L, 0);
        script(3, 999999999999999L, 0);
        doc.says("Throws IllegalArgumentException if n is out of range, or if script is negative"
                + " or has more than 5 * n digits");
        Due.eachOutOfRange("runScript(n, 0)", n -> x.runScript(n, 0), 0, 4, -1, Due.LEAST,
                Due.GREATEST);
        Due.eachOutOfRange("runScript(n, 60011)", n -> x.runScript(n, 60011), 0, 4);
        Due.eachOutOfRange("runScript(n, -1)", n -> x.runScript(n, -1), 0, 1, 2, 3, 4);
        Due.eachOutOfRange("runScript(n, least)", n -> x.runScript(n, Long.MIN_VALUE), 1, 2, 3);
        Due.eachOutOfRange("runScript(n, greatest)", n -> x.runScript(n, Long.MAX_VALUE), 1, 2,
                3);
        Due.outOfRange("runScript(1, 10^5)", () -> x.runScript(1, 100000));
        Due.outOfRange("runScript(2, 10^10)", () -> x.runScript(2, 10000000000L));
        Due.outOfRange("runScript(3, 10^15)", () -> x.runScript(3, 1000000000000000L));
        Due.outOfRange("runScript(1, 2^32 + 60011)", () -> x.runScript(1, (1L << 32) + 60011));
        Due.outOfRange("runScript(2, 2^62)", () -> x.runScript(2, 1L << 62));
    }

    private static void changes(Doc doc) {
        doc.says("1 a b x y: addStreet(a, b, xy).");
        succeed(10301, 10310, 10399, 13001, 13150);
        fail(10300, 10101, 10201, 12301, 13201, 10001, 13301, 10401, 14001, 19901);
        script(3, 103051300670304L, 1);
        script(3, 103051310670400L, 2);
        script(3, 103034031060003L, 2);
        doc.says("2 s s 0 0: removeStreet(ss).");
        succeed(20000, 20100, 20300);
        fail(20400, 20500, 21000, 29900);
        script(2, 2000060020L, NONE);
        script(2, 2000060019L, 1);
        script(2, 2030020200L, NONE);
        script(2, 2030020300L, 1);
        doc.says("3 s s x y: setLength(ss, xy).");
        succeed(30001, 30099, 30399, 30310);
        fail(30000, 30300, 30401, 31001, 39999);
        script(2, 3000160007L, NONE);
        script(2, 3000160006L, 1);
        script(2, 3019960020L, NONE);
        doc.says("4 s s i 0: close(ss, i is 1) (i is 0 or 1).");
        succeed(40000, 40010, 40300, 40310);
        fail(40020, 40030, 40040, 40050, 40060, 40070, 40080, 40090, 40400, 40410, 41000, 49910);
        script(2, 4000060011L, NONE);
        script(2, 4001060020L, NONE);
        script(2, 4001060019L, 1);
        script(3, 400104000060011L, NONE);
        doc.says("5 a b 0 0: setEnds(a, b).");
        succeed(50100, 50200, 52000, 50300, 53000);
        fail(50000, 51100, 53300, 50400, 54000, 59900, 54400);
        script(2, 5010060005L, NONE);
        script(2, 5010060004L, 1);
        script(2, 5210060006L, NONE);
        doc.says("The commands 1 to 5 fail if the method would throw an exception;");
        fail(10100, 13300, 20400, 30000, 30401, 40410, 50000, 50400);
        ClosedStreets full = Towns.full();
        Due.is("addStreet to 20", 0, full.runScript(1, 17801));
        Due.is("addStreet to 19 and to 20", 2, full.runScript(3, 200001780116701L));
    }

    private static void questions(Doc doc) {
        doc.says("6 0 x y z: succeeds if there is a best way and it is at most xyz long.");
        succeed(60011, 60012, 60020, 60100, 60111, 60999);
        fail(60010, 60009, 60001, 60000);
        script(3, 400104021060999L, 2);
        ClosedStreets longest = Towns.of("T908s0199s1299s2399s3499s4599s5699s6799s7899");
        Due.is("at most 792", NONE, longest.runScript(1, 60792));
        Due.is("at most 791", 0, longest.runScript(1, 60791));
        Due.is("at most 999 without a way", 0, new ClosedStreets().runScript(1, 60999));
        doc.says("7 s s 0 0: succeeds if ss is a street of the best way.");
        succeed(70000, 70100);
        fail(70200, 70300, 70400, 71000, 79900);
        script(2, 4001070200L, NONE);
        script(2, 4001070100L, 1);
        script(3, 400104021070100L, 2);
        // The streets are those that the commands ahead have left.
        script(3, 103014030070400L, NONE);
        ClosedStreets two = Towns.of("T401s2301s0105");
        Due.is("street 0 behind removeStreet(0)", NONE, two.runScript(2, 2000070000L));
        Due.is("street 1 behind removeStreet(0)", 1, two.runScript(2, 2000070100L));
        doc.says("8 0 0 0 n: succeeds if there is a best way and it has at most n streets.");
        succeed(80002, 80003, 80009);
        fail(80001, 80000);
        script(3, 400104021080009L, 2);
        Due.is("at most 8 streets", NONE, longest.runScript(1, 80008));
        Due.is("at most 7 streets", 0, longest.runScript(1, 80007));
        Due.is("at most 9 streets without a way", 0, new ClosedStreets().runScript(1, 80009));
        doc.says("9 c 0 x y: succeeds if the crossing c can be reached from the start by a way"
                + " that is at most xy long (0 for the start).");
        succeed(90000, 90001, 90099, 91005, 91006, 91099, 92011);
        fail(91004, 91000, 92010, 93099, 93000);
        script(2, 4030093012L, NONE);
        script(2, 4030093011L, 1);
        script(2, 5300093000L, NONE);
        script(2, 5300090000L, 1);
        Due.is("at most 99 long", NONE, longest.runScript(1, 91099));
        Due.is("at most 98 long", 0, longest.runScript(1, 91098));
        Due.is("198 long", 0, longest.runScript(1, 92099));
    }

    private static void otherGroups(Doc doc) {
        doc.says("commands with crossings or streets that do not exist fail,");
        for (int none = 4; none <= 9; none++) {
            fail(10001 + 1000 * none, 10001 + 100 * none, 50000 + 1000 * none,
                    50000 + 100 * none, 90099 + 1000 * none);
        }
        for (int none = 4; none <= 99; none++) {
            fail(20000 + 100 * none, 30001 + 100 * none, 40000 + 100 * none,
                    40010 + 100 * none, 70000 + 100 * none);
        }
        ClosedStreets most = Towns.of("T908s0801");
        Due.is("crossing 8", NONE, most.runScript(1, 98001));
        Due.is("crossing 9", 0, most.runScript(1, 99099));
        ClosedStreets full = Towns.full();
        Due.is("street 19", NONE, full.runScript(2, 2190070000L));
        Due.is("street 20", 0, full.runScript(1, 22000));
        doc.says("and so does any other group (also one with another digit where a 0 is"
                + " written).");
        for (int digit = 1; digit <= 9; digit++) {
            fail(20000 + digit, 20000 + 10 * digit, 40000 + digit, 40010 + digit,
                    50100 + digit, 50100 + 10 * digit, 60011 + 1000 * digit, 70000 + digit,
                    70000 + 10 * digit, 80000 + 10 * digit, 80002 + 10 * digit, 80002 + 100 * digit,
                    80002 + 1000 * digit, 91005 + 100 * digit, digit, 10 * digit, 100 * digit,
                    1000 * digit, 6000 + digit);
        }
        doc.says("ss, xy and xyz are decimal numbers.");
        Due.is("street 10", NONE, full.runScript(1, 21000));
        Due.is("street 18 of 20", NONE, full.runScript(2, 3184260002L));
        Due.is("street 00 42 long, so the way is 2", NONE, full.runScript(2, 3004260002L));
        Due.is("street 00 42 long, but the way is 2", 1, full.runScript(2, 3004260001L));
        script(3, 300193029960025L, NONE);
        script(3, 300193029960024L, 2);
    }

    private static void answers(Doc doc) {
        doc.says("Returns the index, from 0, of the first command that fails; NONE if all"
                + " succeed.");
        script(1, 60010, 0);
        script(2, 6001060010L, 0);
        script(3, 600106001060010L, 0);
        script(3, 600116001060010L, 1);
        script(3, 600116001160010L, 2);
        script(1, 60011, NONE);
        script(2, 6001160011L, NONE);
        script(3, 600116001160011L, NONE);
    }

    private static void simulate() {
        Doc doc = Doc.promise(27);
        ClosedStreets x = Towns.sample();
        doc.says("Simulates m days.");
        for (int m = 1; m <= 60; m++) {
            simulated(-m, m);
        }
        doc.says("A long x starts as the seed (once).");
        simulated(0, 60);
        simulated(1, 60);
        simulated(42, 2);
        doc.says("On each day, beginning with the streets as they are now, for each street that"
                + " is open now, ascending, x is first replaced by x * 6364136223846793005L +"
                + " 1442695040888963407L (with long overflow), and r = (int) (x >>> 33) is"
                + " computed; if r % 4 is 0, this street is closed on this day.");
        simulated(7, 1);
        simulated(1L << 62, 60);
        simulated(-1, 60);
        Due.is("simulate on a closed street", 6000000, Towns.of("T201s0101x").simulate(5, 60));
        ClosedStreets one = Towns.of("T201s0107");
        Due.is("closed on the first day", 100000, one.simulate(closing(true), 1));
        Due.is("open on the first day", 7, one.simulate(closing(false), 1));
        ClosedStreets beside = Towns.of("T301s0201xs0107");
        for (long seed = 0; seed < 20; seed++) {
            Due.is("no number for a closed street", one.simulate(seed, 60),
                    beside.simulate(seed, 60));
            onFull(seed);
        }
        doc.says("- seed: any long");
        for (long seed : new long[] {Long.MIN_VALUE, Long.MAX_VALUE, Long.MIN_VALUE + 1,
            Long.MAX_VALUE - 1, Integer.MIN_VALUE, Integer.MAX_VALUE, 0, -1, 1}) {
            simulated(seed, 60);
        }
        doc.says("- m: number of days, 1 to 60");
        simulated(9, 1);
        simulated(9, 60);
        doc.says("Returns 100000 * (the number of days without a best way) + (the lengths of the"
                + " best ways of all other days together).");
        Due.is("60 days without streets", 6000000, new ClosedStreets().simulate(7, 60));
        Due.is("one day without streets", 100000, new ClosedStreets().simulate(7, 1));
        simulated(3, 60);
        doc.says("Throws IllegalArgumentException if m is out of range");
        Due.eachOutOfRange("simulate(0, m)", m -> x.simulate(0, m), 0, 61, -1, Due.LEAST,
                Due.GREATEST);
        doc.isTested();
    }

    /** The days of the sample town, whose ways can be told by hand. */
    private static void simulated(long seed, int m) {
        BigInteger x = BigInteger.valueOf(seed);
        int sum = 0;
        for (int day = 0; day < m; day++) {
            boolean[] open = new boolean[3];
            for (int s = 0; s < 3; s++) {
                x = next(x);
                open[s] = isOpen(x);
            }
            sum += open[0] && open[1] ? 11 : open[2] ? 20 : 100000;
        }
        Due.is("simulate(" + seed + ", " + m + ")", sum, Towns.sample().simulate(seed, m));
    }

    /** One day of 20 streets, one of which is closed, told by closing them. */
    private static void onFull(long seed) {
        ClosedStreets x = Towns.full();
        x.setEnds(5, 8);
        x.close(7, true);
        BigInteger number = BigInteger.valueOf(seed);
        ClosedStreets day = Towns.full();
        day.setEnds(5, 8);
        for (int s = 0; s < 20; s++) {
            number = s == 7 ? number : next(number);
            day.close(s, s == 7 || !isOpen(number));
        }
        Due.is("simulate(" + seed + ", 1) of 20 streets",
                day.about(5) == NONE ? 100000 : day.about(5), x.simulate(seed, 1));
    }

    // A second telling of the overflow: the numbers from 0 to 2^64 - 1, without one.
    private static BigInteger next(BigInteger x) {
        return x.multiply(new BigInteger("6364136223846793005"))
                .add(new BigInteger("1442695040888963407")).mod(BigInteger.ONE.shiftLeft(64));
    }

    private static boolean isOpen(BigInteger x) {
        return x.shiftRight(33).mod(BigInteger.valueOf(4)).signum() != 0;
    }

    /** The smallest seed that closes a street on the first day, or leaves it open. */
    private static long closing(boolean closing) {
        long seed = 0;
        while (isOpen(next(BigInteger.valueOf(seed))) == closing) {
            seed++;
        }
        return seed;
    }
}
