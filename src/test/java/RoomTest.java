import com.sun.management.ThreadMXBean;
import java.lang.management.ManagementFactory;

/** All rows are made in the constructor: calls that throw nothing allocate nothing. */
public final class RoomTest {
    private static final ThreadMXBean BEAN =
            (ThreadMXBean) ManagementFactory.getThreadMXBean();
    private static final int ROUNDS = 1000;
    private static final int SMALLEST = 16;

    public static void main(String[] args) {
        ClosedStreets x = Towns.of("T908s2601s1701s7801s0501s1201s7201s0301s3201s1801s5201"
                + "s6301s1401s5401s7401s4601s6001s2401s6501s4301");
        Towns.write(x, "turn open 1 close 2 long 3 4 ends 0 8 turn");
        calls(x);
        long before = BEAN.getCurrentThreadAllocatedBytes();
        for (int i = 0; i < ROUNDS; i++) {
            calls(x);
        }
        long made = BEAN.getCurrentThreadAllocatedBytes() - before;
        // The machine itself makes a little; one object a round would be more than that.
        Due.row("objects made by calls (" + made + " bytes)", made >= SMALLEST * ROUNDS, false);
        Due.end();
    }

    private static void calls(ClosedStreets x) {
        x.errorPosition(false);
        x.runPlan();
        x.undo();
        for (int what = 0; what < 8; what++) {
            x.about(what);
        }
        for (int s = 0; s < 19; s++) {
            x.street(s, 4);
            x.without(s);
            x.withoutAt(s, 1);
            x.upTo(s);
        }
        for (int c = 1; c < 9; c++) {
            x.crossing(c, 1);
            x.crossing(c, 3);
            x.between(0, c);
            x.saves(0, c, 3);
            x.wayAt(c);
        }
        x.addStreet(3, 5, 9);
        x.setLength(19, 10);
        x.close(19, true);
        x.setEnds(0, 7);
        x.removeStreet(19);
        x.dearest();
        x.ways(999);
        x.middle();
        x.runScript(3, 300993001080009L);
        x.simulate(3, 60);
        x.save(0);
        x.restore(0);
    }
}
