import com.sun.management.ThreadMXBean;
import java.lang.management.ManagementFactory;

/** All calls of a run live in one room: an object is small, and its calls make nothing. */
public final class RoomTest {
    private static final long MOST_OF_AN_OBJECT = 64 * 1024;
    private static final long MOST_OF_ALL_CALLS = 16 * 1024;
    private static final String LAWS = "sucks common thick of mouth+if rain=1 and not thick<3 then roads (way+1) else 1 end;"
        + "swells first-thick;coil 1;day 60;day 60;";

    private RoomTest() {
    }

    public static void main(String[] args) {
        int[] words = Tapes.words(LAWS);
        ThreadMXBean bean = (ThreadMXBean) ManagementFactory.getThreadMXBean();
        long me = Thread.currentThread().getId();
        run(new LiquoriceRoads(), words);
        Due due = new Due();

        long start = bean.getThreadAllocatedBytes(me);
        LiquoriceRoads x = new LiquoriceRoads();
        long made = bean.getThreadAllocatedBytes(me) - start;
        due.same("an object of " + made + " bytes is small", made <= MOST_OF_AN_OBJECT, true);

        start = bean.getThreadAllocatedBytes(me);
        long sum = run(x, words);
        long later = bean.getThreadAllocatedBytes(me) - start;
        due.same("calls that make " + later + " bytes make nothing", later <= MOST_OF_ALL_CALLS, true);
        due.same("the calls were made", sum != 0, true);
        due.close();
    }

    private static long run(LiquoriceRoads x, int[] words) {
        long sum = 0;
        for (int i = 0; i < 16; i++) {
            sum += x.road(i % 8, (i * 3 + 1) % 8 == i % 8 ? (i + 3) % 8 : (i * 3 + 1) % 8, 1 + i % 9, 20 + i);
        }
        for (int i = 0; i < 6; i++) {
            sum += x.goer(i, 1 + i);
        }
        for (int i = 0; i + 4 < words.length; i += 5) {
            sum += x.feed(words[i], words[i + 1], words[i + 2], words[i + 3], words[i + 4]);
        }
        sum += x.end(LAWS.length()) + x.text() + (x.by(0) ? 1 : 0) + x.fault(0) + x.image();
        for (int i = 0; i < 10; i++) {
            sum += deeds(x, i) + looks(x, i) + nets(x, i % 8, (i + 3) % 8);
        }
        return sum;
    }

    private static long deeds(LiquoriceRoads x, int i) {
        return x.go(i % 6, i) + (x.relay(i) ? 1 : 0) + (x.coil(i) ? 1 : 0) + x.day(60) + x.played(0) + x.years(i, 40) + x.undo()
            + x.said(0, i, 1) + x.whose() + x.image() + x.back() + x.about(4);
    }

    private static long looks(LiquoriceRoads x, int i) {
        return x.of(i, 5) + x.ofGoer(i % 6, 3) + x.sucks(i % 6, i) + x.is(1) + x.book(i, 3) + x.foretold(60, 0, i) + x.times(i % 6, i)
            + x.crowd(i, 1) + x.who(i) + x.stranded() + x.thinnest() + x.busiest() + x.lonely() + x.ledger(i % 6);
    }

    private static long nets(LiquoriceRoads x, int a, int b) {
        return x.miles(a, b, 1) + x.way(a, b, 1, 0) + x.widest(a, b) + x.flow(a, b) + x.cut(a, b) + x.tree(true) + x.tree(false)
            + x.bridges() + x.carter(a) + x.centre() + x.pieces() + x.watch(true) + x.colours() + x.likely(a, 3, b, true) + x.ring(a);
    }
}
