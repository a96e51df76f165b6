import com.sun.management.ThreadMXBean;
import java.lang.management.ManagementFactory;

/** All calls of a run live in one room: the dearest calls must make next to nothing. */
public final class RoomTest {
    private static final Due DUE = new Due("RoomTest");
    private static final ThreadMXBean BEAN = (ThreadMXBean) ManagementFactory.getThreadMXBean();

    private interface Act {
        void go(WreckSky x);
    }

    public static void main(String[] args) {
        least("an object", 16000, () -> new WreckSky());
        String law = "hard " + "!(".repeat(8) + "m+h*p|m&h<p-1/2" + ")".repeat(8) + "+m+h+p+1+2+3";
        act("push", 0, x -> x.push(0, 60, 0));
        act("best", 0, x -> x.best(60, 1));
        act("first", 0, x -> x.first());
        act("hole", 0, x -> x.hole(3));
        act("open", 0, x -> x.open(1));
        act("under", 0, x -> x.under(100, 0));
        act("nearest", 0, x -> x.nearest(0, 100));
        act("seen", 0, x -> x.seen(0, 0));
        act("behind", 0, x -> x.behind(100, 0));
        act("hours", 0, x -> x.hours(100));
        act("check", 0, x -> x.check(30));
        act("keep", 0, x -> x.keep());
        act("back", 0, x -> x.back());
        act("lay", 0, x -> x.lay(0, 1, 0));
        act("lay a sheet", 0, x -> x.lay(0, 2, 0));
        act("sheet", 0, x -> x.sheet(0, 0, 24));
        act("a text", 4000, x -> Due.text(x, law));
        DUE.end();
    }

    private static void act(String name, long most, Act act) {
        WreckSky x = new WreckSky();
        x.deal(14);
        x.drag(50);
        x.sheet(0, 1, 24);
        x.keep();
        Due.text(x, "hard m*h+p");
        least(name, most, () -> act.go(x));
    }

    /** The least of several tries, as the machine's own work may be counted with some. */
    private static void least(String name, long most, Runnable act) {
        long least = Long.MAX_VALUE;
        for (int i = 0; i < 20; i++) {
            long before = BEAN.getCurrentThreadAllocatedBytes();
            act.run();
            least = Math.min(least, BEAN.getCurrentThreadAllocatedBytes() - before);
        }
        DUE.holds(name + " makes " + least + " bytes", least <= most);
    }
}
