import com.sun.management.ThreadMXBean;
import java.lang.management.ManagementFactory;

/** A run lives in one room: the constructor's rows are all that there is, and calls make nothing. */
public final class RoomTest {
    private static final int ROUNDS = 20;

    public static void main(String[] args) {
        ThreadMXBean threads = (ThreadMXBean) ManagementFactory.getThreadMXBean();
        StreetString x = new StreetString();
        useAll(x);
        long[] before = new long[1];
        before[0] = threads.getCurrentThreadAllocatedBytes();
        for (int round = 0; round < ROUNDS; round++) {
            useAll(x);
        }
        long made = threads.getCurrentThreadAllocatedBytes() - before[0];
        // looking at the counter may itself make a little
        Check.dueTrue("calls made " + made + " bytes", made < 1000);

        before[0] = threads.getCurrentThreadAllocatedBytes();
        StreetString y = new StreetString();
        long made2 = threads.getCurrentThreadAllocatedBytes() - before[0];
        // some 7,000 numbers of four bytes: a thousand such objects fit into the room of 7.3 million
        Check.dueTrue("a new object has " + made2 + " bytes", made2 < 4 * 7300);
        Check.due("it is there", y.told(1), 6);
        Check.end();
    }

    private static void say(StreetString x, char one, char two, int signs) {
        x.wipe();
        for (int i = 0; i < signs; i++) {
            x.say(i % 2 == 0 ? one : two);
        }
    }

    private static void useAll(StreetString x) {
        x.windows(10);
        x.gap(3, 1);
        x.set(1, 9);
        say(x, 'a', '.', 60);
        x.fault(0);
        x.judge(0);
        x.behind(1);
        x.clashed(1);
        x.done();
        say(x, 'b', '+', 2);
        x.done();
        x.hears(0);
        x.interval(0, 9, 0);
        x.heard(0);
        x.stopped(3, 4, 1);
        x.friends(1, 2, 5, 6, 1);
        say(x, '0', '4', 60);
        x.fault(1);
        x.changes(2, 1);
        x.shifts(2, 7);
        x.seen(1, 4);
        x.fit(1);
        x.ask(0);
        x.forget();
        x.borrow(0, 1, 3);
        x.teas();
        x.feet();
        x.hooks(16, 131070, 1);
        x.turns(1);
        x.slips(0, 4, 3, 0);
        x.calm(3, 1);
        x.year(77, 99, 1);
        x.image(0);
        x.restore(0);
        x.told(6);
    }
}
