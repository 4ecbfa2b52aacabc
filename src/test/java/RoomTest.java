import java.lang.management.ManagementFactory;

/** All calls of a run live in one room: the rows are made with the object, the calls make none. */
public final class RoomTest {
    private static final Check CHECK = new Check();
    private static final long BYTES_OF_AN_OBJECT = 40_000;
    private static final long BYTES_OF_CALLS = 20_000;

    public static void main(String[] args) {
        com.sun.management.ThreadMXBean bean = (com.sun.management.ThreadMXBean) ManagementFactory.getThreadMXBean();
        long thread = Thread.currentThread().getId();
        round(new ElderBallast());
        long start = bean.getThreadAllocatedBytes(thread);
        ElderBallast x = new ElderBallast();
        long made = bean.getThreadAllocatedBytes(thread);
        round(x);
        long called = bean.getThreadAllocatedBytes(thread);
        CHECK.due("an object is small: " + (made - start) + " bytes", made - start < BYTES_OF_AN_OBJECT, true);
        CHECK.due("calls make nothing: " + (called - made) + " bytes", called - made < BYTES_OF_CALLS, true);
        CHECK.close();
    }

    /** The dearest calls, as often as an object is used. */
    private static void round(ElderBallast x) {
        int calls = 0;
        Check.say(x, "93+5;41-2;20+3;05+0;77-1;31+1;22+2".replace("77", "75")).brothers();
        Check.say(x, "+7-3+9").winds();
        while (calls < 480) {
            Check.say(x, "g+t*k+(n>3)+l/2-(p<(k+2))*i").law();
            Check.say(x, "g+t*k+(n>3)+l/2").rule();
            Check.say(x, "n9t01m1+3e0p11s3").watch();
            x.steps(0);
            x.best(60);
            x.looks(1);
            x.grave(8, 3);
            x.cake(3, 7);
            x.years(7, 60);
            x.swaps();
            x.hours(60);
            x.undo();
            calls += 12;
        }
    }
}
