import com.sun.management.ThreadMXBean;
import java.lang.management.ManagementFactory;

/** All calls of a run live in one room: what an object takes when it is made, and what 512 dear calls take. */
public final class RoomTest {
    private static final ThreadMXBean ROOM = (ThreadMXBean) ManagementFactory.getThreadMXBean();

    private static long bytes() {
        return ROOM.getThreadAllocatedBytes(Thread.currentThread().getId());
    }

    public static void main(String[] args) {
        new CloudTakes();
        long before = bytes();
        CloudTakes x = new CloudTakes();
        long made = bytes() - before;
        Tape.plan(x, "day 480;move 0;sun 30;cloud 30;sun 30;cloud 20;sun 100;wide 1 30 0 480;near 0 30 0 480;"
                + "inside 0 30 0 480;wide 0 29 0 480;wide 2 9 0 480;near 1 8 0 480;inside 0 2 0 480;"
                + "inside 0 9 0 480;rule left-length-1000;rule until*kind+left;rule length;rule not waited;");
        int sum = calls(x, 0);
        before = bytes();
        for (int i = 1; i < 512 / 14; i++) {
            sum += calls(x, i);
        }
        long used = bytes() - before;
        System.out.println("a new object takes " + made + " bytes, 500 calls take " + used + " (" + sum + ")");
        if (made > 300000 || used > 20000) {
            System.exit(1);
        }
    }

    private static int calls(CloudTakes x, int i) {
        x.image();
        int sum = x.await(1) + x.undo() + x.clouds(0, 400, i % 2 == 0) + x.best() + x.most(0) + x.order(0);
        sum += x.worth(0) + x.without(1) + x.regret() + x.which() + x.inside() + x.week(0, i, 10, 0);
        return sum + (x.restore() ? 1 : 0);
    }
}
