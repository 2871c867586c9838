import com.sun.management.ThreadMXBean;
import java.lang.management.ManagementFactory;

/** All calls live in one room: an object makes its rows once, and no call makes any. */
public final class RoomTest {
    private static final Due due = new Due("RoomTest");
    private static final int MOST_BYTES_OF_AN_OBJECT = 20000;

    private static final ThreadMXBean threads = (ThreadMXBean) ManagementFactory.getThreadMXBean();

    public static void main(String[] args) {
        calls(Due.town());
        long first = made();
        OvenRings x = Due.town();
        long second = made();
        due.is("an object keeps small: " + (second - first), second - first < MOST_BYTES_OF_AN_OBJECT ? 1 : 0, 1);
        long before = made();
        for (int i = 0; i < 10; i++) {
            calls(x);
        }
        long after = made();
        due.is("bytes made by calls: " + (after - before), after - before < 1000 ? 1 : 0, 1);
        due.ends();
    }

    private static long made() {
        return threads.getThreadAllocatedBytes(Thread.currentThread().getId());
    }

    private static void calls(OvenRings x) {
        x.feed(0x7733333333332b66L, 7);
        x.text(0);
        x.feed(0x7733333333332b64L, 7);
        x.text(1);
        x.law(0, 1, 2, 3);
        x.hours(3);
        x.loose(3);
        x.hot(999, 0);
        x.feedFor(127, 30);
        x.open(1, 20);
        x.doors(1, 999, 20);
        x.sheet(0, 16, 16);
        x.which(0, 0);
        x.settle(1, 30, 0);
        x.vote(1, 20);
        x.cold(60, 0);
        x.keeps(5);
        x.odds(1, 60, 0);
        x.voice(6, 3, 1);
        x.move(0, 0, 0, 1, 15);
        x.heats(0);
        x.judge(0);
        x.image();
        x.restore();
        x.tell(1);
        x.check();
        x.told(9);
        x.become(1, 33);
    }
}
